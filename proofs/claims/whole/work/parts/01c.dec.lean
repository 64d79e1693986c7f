theorem dX0_init_0 : decode cX0_init 0 = .ok (.aload_n 0, 1) := by decide +kernel
theorem dX0_init_1 : decode cX0_init 1 = .ok (.invokespecial 3, 3) := by decide +kernel
theorem dX0_init_4 : decode cX0_init 4 = .ok (.aload_n 0, 1) := by decide +kernel
theorem dX0_init_5 : decode cX0_init 5 = .ok (.sipush 256, 3) := by decide +kernel
theorem dX0_init_8 : decode cX0_init 8 = .ok (.newarray .char, 2) := by decide +kernel
theorem dX0_init_10 : decode cX0_init 10 = .ok (.putfield 11, 3) := by decide +kernel
theorem dX0_init_13 : decode cX0_init 13 = .ok (.aload_n 0, 1) := by decide +kernel
theorem dX0_init_14 : decode cX0_init 14 = .ok (.sipush 256, 3) := by decide +kernel
theorem dX0_init_17 : decode cX0_init 17 = .ok (.newarray .int, 2) := by decide +kernel
theorem dX0_init_19 : decode cX0_init 19 = .ok (.putfield 15, 3) := by decide +kernel
theorem dX0_init_22 : decode cX0_init 22 = .ok (.aload_n 0, 1) := by decide +kernel
theorem dX0_init_23 : decode cX0_init 23 = .ok (.sipush 256, 3) := by decide +kernel
theorem dX0_init_26 : decode cX0_init 26 = .ok (.newarray .int, 2) := by decide +kernel
theorem dX0_init_28 : decode cX0_init 28 = .ok (.putfield 19, 3) := by decide +kernel
theorem dX0_init_31 : decode cX0_init 31 = .ok (.aload_n 0, 1) := by decide +kernel
theorem dX0_init_32 : decode cX0_init 32 = .ok (.sipush 256, 3) := by decide +kernel
theorem dX0_init_35 : decode cX0_init 35 = .ok (.newarray .boolean, 2) := by decide +kernel
theorem dX0_init_37 : decode cX0_init 37 = .ok (.putfield 22, 3) := by decide +kernel
theorem dX0_init_40 : decode cX0_init 40 = .ok (.aload_n 0, 1) := by decide +kernel
theorem dX0_init_41 : decode cX0_init 41 = .ok (.iconst 4, 1) := by decide +kernel
theorem dX0_init_42 : decode cX0_init 42 = .ok (.newarray .boolean, 2) := by decide +kernel
theorem dX0_init_44 : decode cX0_init 44 = .ok (.putfield 26, 3) := by decide +kernel
theorem dX0_init_47 : decode cX0_init 47 = .ok (.aload_n 0, 1) := by decide +kernel
theorem dX0_init_48 : decode cX0_init 48 = .ok (.iconst 4, 1) := by decide +kernel
theorem dX0_init_49 : decode cX0_init 49 = .ok (.newarray .int, 2) := by decide +kernel
theorem dX0_init_51 : decode cX0_init 51 = .ok (.putfield 29, 3) := by decide +kernel
theorem dX0_init_54 : decode cX0_init 54 = .ok (.aload_n 0, 1) := by decide +kernel
theorem dX0_init_55 : decode cX0_init 55 = .ok (.iconst 4, 1) := by decide +kernel
theorem dX0_init_56 : decode cX0_init 56 = .ok (.newarray .int, 2) := by decide +kernel
theorem dX0_init_58 : decode cX0_init 58 = .ok (.putfield 32, 3) := by decide +kernel
theorem dX0_init_61 : decode cX0_init 61 = .ok (.aload_n 0, 1) := by decide +kernel
theorem dX0_init_62 : decode cX0_init 62 = .ok (.iconst 4, 1) := by decide +kernel
theorem dX0_init_63 : decode cX0_init 63 = .ok (.newarray .int, 2) := by decide +kernel
theorem dX0_init_65 : decode cX0_init 65 = .ok (.putfield 35, 3) := by decide +kernel
theorem dX0_init_68 : decode cX0_init 68 = .ok (.aload_n 0, 1) := by decide +kernel
theorem dX0_init_69 : decode cX0_init 69 = .ok (.iconst 4, 1) := by decide +kernel
theorem dX0_init_70 : decode cX0_init 70 = .ok (.newarray .int, 2) := by decide +kernel
theorem dX0_init_72 : decode cX0_init 72 = .ok (.putfield 38, 3) := by decide +kernel
theorem dX0_init_75 : decode cX0_init 75 = .ok (.aload_n 0, 1) := by decide +kernel
theorem dX0_init_76 : decode cX0_init 76 = .ok (.iconst 4, 1) := by decide +kernel
theorem dX0_init_77 : decode cX0_init 77 = .ok (.newarray .int, 2) := by decide +kernel
theorem dX0_init_79 : decode cX0_init 79 = .ok (.putfield 41, 3) := by decide +kernel
theorem dX0_init_82 : decode cX0_init 82 = .ok (.aload_n 0, 1) := by decide +kernel
theorem dX0_init_83 : decode cX0_init 83 = .ok (.iconst 0, 1) := by decide +kernel
theorem dX0_init_84 : decode cX0_init 84 = .ok (.putfield 44, 3) := by decide +kernel
theorem dX0_init_87 : decode cX0_init 87 = .ok (.aload_n 0, 1) := by decide +kernel
theorem dX0_init_88 : decode cX0_init 88 = .ok (.invokevirtual 48, 3) := by decide +kernel
theorem dX0_init_91 : decode cX0_init 91 = .ok (.return_, 1) := by decide +kernel
theorem dX0_clear_0 : decode cX0_clear 0 = .ok (.iconst 0, 1) := by decide +kernel
theorem dX0_clear_1 : decode cX0_clear 1 = .ok (.istore_n 1, 1) := by decide +kernel
theorem dX0_clear_2 : decode cX0_clear 2 = .ok (.iload_n 1, 1) := by decide +kernel
theorem dX0_clear_3 : decode cX0_clear 3 = .ok (.sipush 256, 3) := by decide +kernel
theorem dX0_clear_6 : decode cX0_clear 6 = .ok (.if_icmp .ge 39, 3) := by decide +kernel
theorem dX0_clear_9 : decode cX0_clear 9 = .ok (.aload_n 0, 1) := by decide +kernel
theorem dX0_clear_10 : decode cX0_clear 10 = .ok (.getfield 11, 3) := by decide +kernel
theorem dX0_clear_13 : decode cX0_clear 13 = .ok (.iload_n 1, 1) := by decide +kernel
theorem dX0_clear_14 : decode cX0_clear 14 = .ok (.bipush 45, 2) := by decide +kernel
theorem dX0_clear_16 : decode cX0_clear 16 = .ok (.castore, 1) := by decide +kernel
theorem dX0_clear_17 : decode cX0_clear 17 = .ok (.aload_n 0, 1) := by decide +kernel
theorem dX0_clear_18 : decode cX0_clear 18 = .ok (.getfield 15, 3) := by decide +kernel
theorem dX0_clear_21 : decode cX0_clear 21 = .ok (.iload_n 1, 1) := by decide +kernel
theorem dX0_clear_22 : decode cX0_clear 22 = .ok (.iconst 0, 1) := by decide +kernel
theorem dX0_clear_23 : decode cX0_clear 23 = .ok (.iastore, 1) := by decide +kernel
theorem dX0_clear_24 : decode cX0_clear 24 = .ok (.aload_n 0, 1) := by decide +kernel
theorem dX0_clear_25 : decode cX0_clear 25 = .ok (.getfield 19, 3) := by decide +kernel
theorem dX0_clear_28 : decode cX0_clear 28 = .ok (.iload_n 1, 1) := by decide +kernel
theorem dX0_clear_29 : decode cX0_clear 29 = .ok (.bipush (-2), 2) := by decide +kernel
theorem dX0_clear_31 : decode cX0_clear 31 = .ok (.iastore, 1) := by decide +kernel
theorem dX0_clear_32 : decode cX0_clear 32 = .ok (.aload_n 0, 1) := by decide +kernel
theorem dX0_clear_33 : decode cX0_clear 33 = .ok (.getfield 22, 3) := by decide +kernel
theorem dX0_clear_36 : decode cX0_clear 36 = .ok (.iload_n 1, 1) := by decide +kernel
theorem dX0_clear_37 : decode cX0_clear 37 = .ok (.iconst 0, 1) := by decide +kernel
theorem dX0_clear_38 : decode cX0_clear 38 = .ok (.bastore, 1) := by decide +kernel
theorem dX0_clear_39 : decode cX0_clear 39 = .ok (.iinc 1 1, 3) := by decide +kernel
theorem dX0_clear_42 : decode cX0_clear 42 = .ok (.goto (-40), 3) := by decide +kernel
theorem dX0_clear_45 : decode cX0_clear 45 = .ok (.iconst 0, 1) := by decide +kernel
theorem dX0_clear_46 : decode cX0_clear 46 = .ok (.istore_n 1, 1) := by decide +kernel
theorem dX0_clear_47 : decode cX0_clear 47 = .ok (.iload_n 1, 1) := by decide +kernel
theorem dX0_clear_48 : decode cX0_clear 48 = .ok (.iconst 4, 1) := by decide +kernel
theorem dX0_clear_49 : decode cX0_clear 49 = .ok (.if_icmp .ge 36, 3) := by decide +kernel
theorem dX0_clear_52 : decode cX0_clear 52 = .ok (.aload_n 0, 1) := by decide +kernel
theorem dX0_clear_53 : decode cX0_clear 53 = .ok (.iload_n 1, 1) := by decide +kernel
theorem dX0_clear_54 : decode cX0_clear 54 = .ok (.iconst 0, 1) := by decide +kernel
theorem dX0_clear_55 : decode cX0_clear 55 = .ok (.invokevirtual 51, 3) := by decide +kernel
theorem dX0_clear_58 : decode cX0_clear 58 = .ok (.aload_n 0, 1) := by decide +kernel
theorem dX0_clear_59 : decode cX0_clear 59 = .ok (.getfield 35, 3) := by decide +kernel
theorem dX0_clear_62 : decode cX0_clear 62 = .ok (.iload_n 1, 1) := by decide +kernel
theorem dX0_clear_63 : decode cX0_clear 63 = .ok (.iconst 0, 1) := by decide +kernel
theorem dX0_clear_64 : decode cX0_clear 64 = .ok (.iastore, 1) := by decide +kernel
theorem dX0_clear_65 : decode cX0_clear 65 = .ok (.aload_n 0, 1) := by decide +kernel
theorem dX0_clear_66 : decode cX0_clear 66 = .ok (.getfield 38, 3) := by decide +kernel
theorem dX0_clear_69 : decode cX0_clear 69 = .ok (.iload_n 1, 1) := by decide +kernel
theorem dX0_clear_70 : decode cX0_clear 70 = .ok (.iconst 0, 1) := by decide +kernel
theorem dX0_clear_71 : decode cX0_clear 71 = .ok (.iastore, 1) := by decide +kernel
theorem dX0_clear_72 : decode cX0_clear 72 = .ok (.aload_n 0, 1) := by decide +kernel
theorem dX0_clear_73 : decode cX0_clear 73 = .ok (.getfield 41, 3) := by decide +kernel
theorem dX0_clear_76 : decode cX0_clear 76 = .ok (.iload_n 1, 1) := by decide +kernel
theorem dX0_clear_77 : decode cX0_clear 77 = .ok (.iconst 0, 1) := by decide +kernel
theorem dX0_clear_78 : decode cX0_clear 78 = .ok (.iastore, 1) := by decide +kernel
theorem dX0_clear_79 : decode cX0_clear 79 = .ok (.iinc 1 1, 3) := by decide +kernel
theorem dX0_clear_82 : decode cX0_clear 82 = .ok (.goto (-35), 3) := by decide +kernel
theorem dX0_clear_85 : decode cX0_clear 85 = .ok (.aload_n 0, 1) := by decide +kernel
theorem dX0_clear_86 : decode cX0_clear 86 = .ok (.iconst 0, 1) := by decide +kernel
theorem dX0_clear_87 : decode cX0_clear 87 = .ok (.putfield 44, 3) := by decide +kernel
theorem dX0_clear_90 : decode cX0_clear 90 = .ok (.return_, 1) := by decide +kernel
theorem dX0_isAhead_0 : decode cX0_isAhead 0 = .ok (.aload_n 0, 1) := by decide +kernel
theorem dX0_isAhead_1 : decode cX0_isAhead 1 = .ok (.getfield 26, 3) := by decide +kernel
theorem dX0_isAhead_4 : decode cX0_isAhead 4 = .ok (.iload_n 1, 1) := by decide +kernel
theorem dX0_isAhead_5 : decode cX0_isAhead 5 = .ok (.baload, 1) := by decide +kernel
theorem dX0_isAhead_6 : decode cX0_isAhead 6 = .ok (.ireturn, 1) := by decide +kernel
theorem dX0_tellAhead_0 : decode cX0_tellAhead 0 = .ok (.aload_n 0, 1) := by decide +kernel
theorem dX0_tellAhead_1 : decode cX0_tellAhead 1 = .ok (.getfield 26, 3) := by decide +kernel
theorem dX0_tellAhead_4 : decode cX0_tellAhead 4 = .ok (.iload_n 1, 1) := by decide +kernel
theorem dX0_tellAhead_5 : decode cX0_tellAhead 5 = .ok (.iload_n 2, 1) := by decide +kernel
theorem dX0_tellAhead_6 : decode cX0_tellAhead 6 = .ok (.bastore, 1) := by decide +kernel
theorem dX0_tellAhead_7 : decode cX0_tellAhead 7 = .ok (.aload_n 0, 1) := by decide +kernel
theorem dX0_tellAhead_8 : decode cX0_tellAhead 8 = .ok (.getfield 29, 3) := by decide +kernel
theorem dX0_tellAhead_11 : decode cX0_tellAhead 11 = .ok (.iload_n 1, 1) := by decide +kernel
theorem dX0_tellAhead_12 : decode cX0_tellAhead 12 = .ok (.iconst (-1), 1) := by decide +kernel
theorem dX0_tellAhead_13 : decode cX0_tellAhead 13 = .ok (.iastore, 1) := by decide +kernel
theorem dX0_tellAhead_14 : decode cX0_tellAhead 14 = .ok (.aload_n 0, 1) := by decide +kernel
theorem dX0_tellAhead_15 : decode cX0_tellAhead 15 = .ok (.getfield 32, 3) := by decide +kernel
theorem dX0_tellAhead_18 : decode cX0_tellAhead 18 = .ok (.iload_n 1, 1) := by decide +kernel
theorem dX0_tellAhead_19 : decode cX0_tellAhead 19 = .ok (.iconst 0, 1) := by decide +kernel
theorem dX0_tellAhead_20 : decode cX0_tellAhead 20 = .ok (.iastore, 1) := by decide +kernel
theorem dX0_tellAhead_21 : decode cX0_tellAhead 21 = .ok (.return_, 1) := by decide +kernel
theorem dX0_countFetched_0 : decode cX0_countFetched 0 = .ok (.aload_n 0, 1) := by decide +kernel
theorem dX0_countFetched_1 : decode cX0_countFetched 1 = .ok (.getfield 35, 3) := by decide +kernel
theorem dX0_countFetched_4 : decode cX0_countFetched 4 = .ok (.iload_n 1, 1) := by decide +kernel
theorem dX0_countFetched_5 : decode cX0_countFetched 5 = .ok (.iaload, 1) := by decide +kernel
theorem dX0_countFetched_6 : decode cX0_countFetched 6 = .ok (.ireturn, 1) := by decide +kernel
theorem dX0_countUseful_0 : decode cX0_countUseful 0 = .ok (.aload_n 0, 1) := by decide +kernel
theorem dX0_countUseful_1 : decode cX0_countUseful 1 = .ok (.getfield 38, 3) := by decide +kernel
theorem dX0_countUseful_4 : decode cX0_countUseful 4 = .ok (.iload_n 1, 1) := by decide +kernel
theorem dX0_countUseful_5 : decode cX0_countUseful 5 = .ok (.iaload, 1) := by decide +kernel
theorem dX0_countUseful_6 : decode cX0_countUseful 6 = .ok (.ireturn, 1) := by decide +kernel
theorem dX0_countWrong_0 : decode cX0_countWrong 0 = .ok (.aload_n 0, 1) := by decide +kernel
theorem dX0_countWrong_1 : decode cX0_countWrong 1 = .ok (.getfield 41, 3) := by decide +kernel
theorem dX0_countWrong_4 : decode cX0_countWrong 4 = .ok (.iload_n 1, 1) := by decide +kernel
theorem dX0_countWrong_5 : decode cX0_countWrong 5 = .ok (.iaload, 1) := by decide +kernel
theorem dX0_countWrong_6 : decode cX0_countWrong 6 = .ok (.ireturn, 1) := by decide +kernel
theorem dX0_stateOf_0 : decode cX0_stateOf 0 = .ok (.aload_n 0, 1) := by decide +kernel
theorem dX0_stateOf_1 : decode cX0_stateOf 1 = .ok (.getfield 11, 3) := by decide +kernel
theorem dX0_stateOf_4 : decode cX0_stateOf 4 = .ok (.iload_n 1, 1) := by decide +kernel
theorem dX0_stateOf_5 : decode cX0_stateOf 5 = .ok (.bipush 64, 2) := by decide +kernel
theorem dX0_stateOf_7 : decode cX0_stateOf 7 = .ok (.imul, 1) := by decide +kernel
theorem dX0_stateOf_8 : decode cX0_stateOf 8 = .ok (.iload_n 2, 1) := by decide +kernel
theorem dX0_stateOf_9 : decode cX0_stateOf 9 = .ok (.iadd, 1) := by decide +kernel
theorem dX0_stateOf_10 : decode cX0_stateOf 10 = .ok (.caload, 1) := by decide +kernel
theorem dX0_stateOf_11 : decode cX0_stateOf 11 = .ok (.ireturn, 1) := by decide +kernel
theorem dX0_ownerOf_0 : decode cX0_ownerOf 0 = .ok (.iconst 0, 1) := by decide +kernel
theorem dX0_ownerOf_1 : decode cX0_ownerOf 1 = .ok (.istore_n 2, 1) := by decide +kernel
theorem dX0_ownerOf_2 : decode cX0_ownerOf 2 = .ok (.iload_n 2, 1) := by decide +kernel
theorem dX0_ownerOf_3 : decode cX0_ownerOf 3 = .ok (.iconst 4, 1) := by decide +kernel
theorem dX0_ownerOf_4 : decode cX0_ownerOf 4 = .ok (.if_icmp .ge 35, 3) := by decide +kernel
theorem dX0_ownerOf_7 : decode cX0_ownerOf 7 = .ok (.aload_n 0, 1) := by decide +kernel
theorem dX0_ownerOf_8 : decode cX0_ownerOf 8 = .ok (.getfield 11, 3) := by decide +kernel
theorem dX0_ownerOf_11 : decode cX0_ownerOf 11 = .ok (.iload_n 2, 1) := by decide +kernel
theorem dX0_ownerOf_12 : decode cX0_ownerOf 12 = .ok (.bipush 64, 2) := by decide +kernel
theorem dX0_ownerOf_14 : decode cX0_ownerOf 14 = .ok (.imul, 1) := by decide +kernel
theorem dX0_ownerOf_15 : decode cX0_ownerOf 15 = .ok (.iload_n 1, 1) := by decide +kernel
theorem dX0_ownerOf_16 : decode cX0_ownerOf 16 = .ok (.iadd, 1) := by decide +kernel
theorem dX0_ownerOf_17 : decode cX0_ownerOf 17 = .ok (.caload, 1) := by decide +kernel
theorem dX0_ownerOf_18 : decode cX0_ownerOf 18 = .ok (.istore_n 3, 1) := by decide +kernel
theorem dX0_ownerOf_19 : decode cX0_ownerOf 19 = .ok (.iload_n 3, 1) := by decide +kernel
theorem dX0_ownerOf_20 : decode cX0_ownerOf 20 = .ok (.bipush 101, 2) := by decide +kernel
theorem dX0_ownerOf_22 : decode cX0_ownerOf 22 = .ok (.if_icmp .eq 9, 3) := by decide +kernel
theorem dX0_ownerOf_25 : decode cX0_ownerOf 25 = .ok (.iload_n 3, 1) := by decide +kernel
theorem dX0_ownerOf_26 : decode cX0_ownerOf 26 = .ok (.bipush 109, 2) := by decide +kernel
theorem dX0_ownerOf_28 : decode cX0_ownerOf 28 = .ok (.if_icmp .ne 5, 3) := by decide +kernel
theorem dX0_ownerOf_31 : decode cX0_ownerOf 31 = .ok (.iload_n 2, 1) := by decide +kernel
theorem dX0_ownerOf_32 : decode cX0_ownerOf 32 = .ok (.ireturn, 1) := by decide +kernel
theorem dX0_ownerOf_33 : decode cX0_ownerOf 33 = .ok (.iinc 2 1, 3) := by decide +kernel
theorem dX0_ownerOf_36 : decode cX0_ownerOf 36 = .ok (.goto (-34), 3) := by decide +kernel
theorem dX0_ownerOf_39 : decode cX0_ownerOf 39 = .ok (.iconst (-1), 1) := by decide +kernel
theorem dX0_ownerOf_40 : decode cX0_ownerOf 40 = .ok (.ireturn, 1) := by decide +kernel
theorem dX0_countHolders_0 : decode cX0_countHolders 0 = .ok (.iconst 0, 1) := by decide +kernel
theorem dX0_countHolders_1 : decode cX0_countHolders 1 = .ok (.istore_n 2, 1) := by decide +kernel
theorem dX0_countHolders_2 : decode cX0_countHolders 2 = .ok (.iconst 0, 1) := by decide +kernel
theorem dX0_countHolders_3 : decode cX0_countHolders 3 = .ok (.istore_n 3, 1) := by decide +kernel
theorem dX0_countHolders_4 : decode cX0_countHolders 4 = .ok (.iload_n 3, 1) := by decide +kernel
theorem dX0_countHolders_5 : decode cX0_countHolders 5 = .ok (.iconst 4, 1) := by decide +kernel
theorem dX0_countHolders_6 : decode cX0_countHolders 6 = .ok (.if_icmp .ge 28, 3) := by decide +kernel
theorem dX0_countHolders_9 : decode cX0_countHolders 9 = .ok (.aload_n 0, 1) := by decide +kernel
theorem dX0_countHolders_10 : decode cX0_countHolders 10 = .ok (.getfield 11, 3) := by decide +kernel
theorem dX0_countHolders_13 : decode cX0_countHolders 13 = .ok (.iload_n 3, 1) := by decide +kernel
theorem dX0_countHolders_14 : decode cX0_countHolders 14 = .ok (.bipush 64, 2) := by decide +kernel
theorem dX0_countHolders_16 : decode cX0_countHolders 16 = .ok (.imul, 1) := by decide +kernel
theorem dX0_countHolders_17 : decode cX0_countHolders 17 = .ok (.iload_n 1, 1) := by decide +kernel
theorem dX0_countHolders_18 : decode cX0_countHolders 18 = .ok (.iadd, 1) := by decide +kernel
theorem dX0_countHolders_19 : decode cX0_countHolders 19 = .ok (.caload, 1) := by decide +kernel
theorem dX0_countHolders_20 : decode cX0_countHolders 20 = .ok (.bipush 45, 2) := by decide +kernel
theorem dX0_countHolders_22 : decode cX0_countHolders 22 = .ok (.if_icmp .eq 6, 3) := by decide +kernel
theorem dX0_countHolders_25 : decode cX0_countHolders 25 = .ok (.iinc 2 1, 3) := by decide +kernel
theorem dX0_countHolders_28 : decode cX0_countHolders 28 = .ok (.iinc 3 1, 3) := by decide +kernel
theorem dX0_countHolders_31 : decode cX0_countHolders 31 = .ok (.goto (-27), 3) := by decide +kernel
theorem dX0_countHolders_34 : decode cX0_countHolders 34 = .ok (.iload_n 2, 1) := by decide +kernel
theorem dX0_countHolders_35 : decode cX0_countHolders 35 = .ok (.ireturn, 1) := by decide +kernel
theorem dX0_countLines_0 : decode cX0_countLines 0 = .ok (.iconst 0, 1) := by decide +kernel
theorem dX0_countLines_1 : decode cX0_countLines 1 = .ok (.istore_n 3, 1) := by decide +kernel
theorem dX0_countLines_2 : decode cX0_countLines 2 = .ok (.iload_n 2, 1) := by decide +kernel
theorem dX0_countLines_3 : decode cX0_countLines 3 = .ok (.istore 4, 2) := by decide +kernel
theorem dX0_countLines_5 : decode cX0_countLines 5 = .ok (.iload 4, 2) := by decide +kernel
theorem dX0_countLines_7 : decode cX0_countLines 7 = .ok (.bipush 64, 2) := by decide +kernel
theorem dX0_countLines_9 : decode cX0_countLines 9 = .ok (.if_icmp .ge 29, 3) := by decide +kernel
theorem dX0_countLines_12 : decode cX0_countLines 12 = .ok (.aload_n 0, 1) := by decide +kernel
theorem dX0_countLines_13 : decode cX0_countLines 13 = .ok (.getfield 11, 3) := by decide +kernel
theorem dX0_countLines_16 : decode cX0_countLines 16 = .ok (.iload_n 1, 1) := by decide +kernel
theorem dX0_countLines_17 : decode cX0_countLines 17 = .ok (.bipush 64, 2) := by decide +kernel
theorem dX0_countLines_19 : decode cX0_countLines 19 = .ok (.imul, 1) := by decide +kernel
theorem dX0_countLines_20 : decode cX0_countLines 20 = .ok (.iload 4, 2) := by decide +kernel
theorem dX0_countLines_22 : decode cX0_countLines 22 = .ok (.iadd, 1) := by decide +kernel
theorem dX0_countLines_23 : decode cX0_countLines 23 = .ok (.caload, 1) := by decide +kernel
theorem dX0_countLines_24 : decode cX0_countLines 24 = .ok (.bipush 45, 2) := by decide +kernel
theorem dX0_countLines_26 : decode cX0_countLines 26 = .ok (.if_icmp .eq 6, 3) := by decide +kernel
theorem dX0_countLines_29 : decode cX0_countLines 29 = .ok (.iinc 3 1, 3) := by decide +kernel
theorem dX0_countLines_32 : decode cX0_countLines 32 = .ok (.iinc 4 4, 3) := by decide +kernel
theorem dX0_countLines_35 : decode cX0_countLines 35 = .ok (.goto (-30), 3) := by decide +kernel
theorem dX0_countLines_38 : decode cX0_countLines 38 = .ok (.iload_n 3, 1) := by decide +kernel
theorem dX0_countLines_39 : decode cX0_countLines 39 = .ok (.ireturn, 1) := by decide +kernel
theorem dX0_oldestOf_0 : decode cX0_oldestOf 0 = .ok (.iconst (-1), 1) := by decide +kernel
theorem dX0_oldestOf_1 : decode cX0_oldestOf 1 = .ok (.istore_n 3, 1) := by decide +kernel
theorem dX0_oldestOf_2 : decode cX0_oldestOf 2 = .ok (.iconst 0, 1) := by decide +kernel
theorem dX0_oldestOf_3 : decode cX0_oldestOf 3 = .ok (.istore 4, 2) := by decide +kernel
theorem dX0_oldestOf_5 : decode cX0_oldestOf 5 = .ok (.iload_n 2, 1) := by decide +kernel
theorem dX0_oldestOf_6 : decode cX0_oldestOf 6 = .ok (.istore 5, 2) := by decide +kernel
theorem dX0_oldestOf_8 : decode cX0_oldestOf 8 = .ok (.iload 5, 2) := by decide +kernel
theorem dX0_oldestOf_10 : decode cX0_oldestOf 10 = .ok (.bipush 64, 2) := by decide +kernel
theorem dX0_oldestOf_12 : decode cX0_oldestOf 12 = .ok (.if_icmp .ge 59, 3) := by decide +kernel
theorem dX0_oldestOf_15 : decode cX0_oldestOf 15 = .ok (.iload_n 1, 1) := by decide +kernel
theorem dX0_oldestOf_16 : decode cX0_oldestOf 16 = .ok (.bipush 64, 2) := by decide +kernel
theorem dX0_oldestOf_18 : decode cX0_oldestOf 18 = .ok (.imul, 1) := by decide +kernel
theorem dX0_oldestOf_19 : decode cX0_oldestOf 19 = .ok (.iload 5, 2) := by decide +kernel
theorem dX0_oldestOf_21 : decode cX0_oldestOf 21 = .ok (.iadd, 1) := by decide +kernel
theorem dX0_oldestOf_22 : decode cX0_oldestOf 22 = .ok (.istore 6, 2) := by decide +kernel
theorem dX0_oldestOf_24 : decode cX0_oldestOf 24 = .ok (.aload_n 0, 1) := by decide +kernel
theorem dX0_oldestOf_25 : decode cX0_oldestOf 25 = .ok (.getfield 11, 3) := by decide +kernel
theorem dX0_oldestOf_28 : decode cX0_oldestOf 28 = .ok (.iload 6, 2) := by decide +kernel
theorem dX0_oldestOf_30 : decode cX0_oldestOf 30 = .ok (.caload, 1) := by decide +kernel
theorem dX0_oldestOf_31 : decode cX0_oldestOf 31 = .ok (.bipush 45, 2) := by decide +kernel
theorem dX0_oldestOf_33 : decode cX0_oldestOf 33 = .ok (.if_icmp .eq 32, 3) := by decide +kernel
theorem dX0_oldestOf_36 : decode cX0_oldestOf 36 = .ok (.iload_n 3, 1) := by decide +kernel
theorem dX0_oldestOf_37 : decode cX0_oldestOf 37 = .ok (.iconst (-1), 1) := by decide +kernel
theorem dX0_oldestOf_38 : decode cX0_oldestOf 38 = .ok (.if_icmp .eq 15, 3) := by decide +kernel
theorem dX0_oldestOf_41 : decode cX0_oldestOf 41 = .ok (.aload_n 0, 1) := by decide +kernel
theorem dX0_oldestOf_42 : decode cX0_oldestOf 42 = .ok (.getfield 15, 3) := by decide +kernel
theorem dX0_oldestOf_45 : decode cX0_oldestOf 45 = .ok (.iload 6, 2) := by decide +kernel
theorem dX0_oldestOf_47 : decode cX0_oldestOf 47 = .ok (.iaload, 1) := by decide +kernel
theorem dX0_oldestOf_48 : decode cX0_oldestOf 48 = .ok (.iload 4, 2) := by decide +kernel
theorem dX0_oldestOf_50 : decode cX0_oldestOf 50 = .ok (.if_icmp .ge 15, 3) := by decide +kernel
theorem dX0_oldestOf_53 : decode cX0_oldestOf 53 = .ok (.iload 5, 2) := by decide +kernel
theorem dX0_oldestOf_55 : decode cX0_oldestOf 55 = .ok (.istore_n 3, 1) := by decide +kernel
theorem dX0_oldestOf_56 : decode cX0_oldestOf 56 = .ok (.aload_n 0, 1) := by decide +kernel
theorem dX0_oldestOf_57 : decode cX0_oldestOf 57 = .ok (.getfield 15, 3) := by decide +kernel
theorem dX0_oldestOf_60 : decode cX0_oldestOf 60 = .ok (.iload 6, 2) := by decide +kernel
theorem dX0_oldestOf_62 : decode cX0_oldestOf 62 = .ok (.iaload, 1) := by decide +kernel
theorem dX0_oldestOf_63 : decode cX0_oldestOf 63 = .ok (.istore 4, 2) := by decide +kernel
theorem dX0_oldestOf_65 : decode cX0_oldestOf 65 = .ok (.iinc 5 4, 3) := by decide +kernel
theorem dX0_oldestOf_68 : decode cX0_oldestOf 68 = .ok (.goto (-60), 3) := by decide +kernel
theorem dX0_oldestOf_71 : decode cX0_oldestOf 71 = .ok (.iload_n 3, 1) := by decide +kernel
theorem dX0_oldestOf_72 : decode cX0_oldestOf 72 = .ok (.ireturn, 1) := by decide +kernel
theorem dX0_hasLoneOwners_0 : decode cX0_hasLoneOwners 0 = .ok (.iconst 0, 1) := by decide +kernel
theorem dX0_hasLoneOwners_1 : decode cX0_hasLoneOwners 1 = .ok (.istore_n 1, 1) := by decide +kernel
theorem dX0_hasLoneOwners_2 : decode cX0_hasLoneOwners 2 = .ok (.iload_n 1, 1) := by decide +kernel
theorem dX0_hasLoneOwners_3 : decode cX0_hasLoneOwners 3 = .ok (.bipush 64, 2) := by decide +kernel
theorem dX0_hasLoneOwners_5 : decode cX0_hasLoneOwners 5 = .ok (.if_icmp .ge 29, 3) := by decide +kernel
theorem dX0_hasLoneOwners_8 : decode cX0_hasLoneOwners 8 = .ok (.aload_n 0, 1) := by decide +kernel
theorem dX0_hasLoneOwners_9 : decode cX0_hasLoneOwners 9 = .ok (.iload_n 1, 1) := by decide +kernel
theorem dX0_hasLoneOwners_10 : decode cX0_hasLoneOwners 10 = .ok (.invokevirtual 55, 3) := by decide +kernel
theorem dX0_hasLoneOwners_13 : decode cX0_hasLoneOwners 13 = .ok (.iconst (-1), 1) := by decide +kernel
theorem dX0_hasLoneOwners_14 : decode cX0_hasLoneOwners 14 = .ok (.if_icmp .eq 14, 3) := by decide +kernel
theorem dX0_hasLoneOwners_17 : decode cX0_hasLoneOwners 17 = .ok (.aload_n 0, 1) := by decide +kernel
theorem dX0_hasLoneOwners_18 : decode cX0_hasLoneOwners 18 = .ok (.iload_n 1, 1) := by decide +kernel
theorem dX0_hasLoneOwners_19 : decode cX0_hasLoneOwners 19 = .ok (.invokevirtual 59, 3) := by decide +kernel
theorem dX0_hasLoneOwners_22 : decode cX0_hasLoneOwners 22 = .ok (.iconst 1, 1) := by decide +kernel
theorem dX0_hasLoneOwners_23 : decode cX0_hasLoneOwners 23 = .ok (.if_icmp .le 5, 3) := by decide +kernel
theorem dX0_hasLoneOwners_26 : decode cX0_hasLoneOwners 26 = .ok (.iconst 0, 1) := by decide +kernel
theorem dX0_hasLoneOwners_27 : decode cX0_hasLoneOwners 27 = .ok (.ireturn, 1) := by decide +kernel
theorem dX0_hasLoneOwners_28 : decode cX0_hasLoneOwners 28 = .ok (.iinc 1 1, 3) := by decide +kernel
theorem dX0_hasLoneOwners_31 : decode cX0_hasLoneOwners 31 = .ok (.goto (-29), 3) := by decide +kernel
theorem dX0_hasLoneOwners_34 : decode cX0_hasLoneOwners 34 = .ok (.iconst 1, 1) := by decide +kernel
theorem dX0_hasLoneOwners_35 : decode cX0_hasLoneOwners 35 = .ok (.ireturn, 1) := by decide +kernel
theorem dX0_hasStatesOf_0 : decode cX0_hasStatesOf 0 = .ok (.iconst 0, 1) := by decide +kernel
theorem dX0_hasStatesOf_1 : decode cX0_hasStatesOf 1 = .ok (.istore_n 2, 1) := by decide +kernel
theorem dX0_hasStatesOf_2 : decode cX0_hasStatesOf 2 = .ok (.iload_n 2, 1) := by decide +kernel
theorem dX0_hasStatesOf_3 : decode cX0_hasStatesOf 3 = .ok (.sipush 256, 3) := by decide +kernel
theorem dX0_hasStatesOf_6 : decode cX0_hasStatesOf 6 = .ok (.if_icmp .ge 26, 3) := by decide +kernel
theorem dX0_hasStatesOf_9 : decode cX0_hasStatesOf 9 = .ok (.aload_n 0, 1) := by decide +kernel
theorem dX0_hasStatesOf_10 : decode cX0_hasStatesOf 10 = .ok (.getfield 11, 3) := by decide +kernel
theorem dX0_hasStatesOf_13 : decode cX0_hasStatesOf 13 = .ok (.iload_n 2, 1) := by decide +kernel
theorem dX0_hasStatesOf_14 : decode cX0_hasStatesOf 14 = .ok (.caload, 1) := by decide +kernel
theorem dX0_hasStatesOf_15 : decode cX0_hasStatesOf 15 = .ok (.aload_n 1, 1) := by decide +kernel
theorem dX0_hasStatesOf_16 : decode cX0_hasStatesOf 16 = .ok (.getfield 11, 3) := by decide +kernel
theorem dX0_hasStatesOf_19 : decode cX0_hasStatesOf 19 = .ok (.iload_n 2, 1) := by decide +kernel
theorem dX0_hasStatesOf_20 : decode cX0_hasStatesOf 20 = .ok (.caload, 1) := by decide +kernel
theorem dX0_hasStatesOf_21 : decode cX0_hasStatesOf 21 = .ok (.if_icmp .eq 5, 3) := by decide +kernel
theorem dX0_hasStatesOf_24 : decode cX0_hasStatesOf 24 = .ok (.iconst 0, 1) := by decide +kernel
theorem dX0_hasStatesOf_25 : decode cX0_hasStatesOf 25 = .ok (.ireturn, 1) := by decide +kernel
theorem dX0_hasStatesOf_26 : decode cX0_hasStatesOf 26 = .ok (.iinc 2 1, 3) := by decide +kernel
theorem dX0_hasStatesOf_29 : decode cX0_hasStatesOf 29 = .ok (.goto (-27), 3) := by decide +kernel
theorem dX0_hasStatesOf_32 : decode cX0_hasStatesOf 32 = .ok (.iconst 1, 1) := by decide +kernel
theorem dX0_hasStatesOf_33 : decode cX0_hasStatesOf 33 = .ok (.ireturn, 1) := by decide +kernel
theorem dX0_causeOfNext_0 : decode cX0_causeOfNext 0 = .ok (.iload_n 1, 1) := by decide +kernel
theorem dX0_causeOfNext_1 : decode cX0_causeOfNext 1 = .ok (.bipush 64, 2) := by decide +kernel
theorem dX0_causeOfNext_3 : decode cX0_causeOfNext 3 = .ok (.imul, 1) := by decide +kernel
theorem dX0_causeOfNext_4 : decode cX0_causeOfNext 4 = .ok (.iload_n 3, 1) := by decide +kernel
theorem dX0_causeOfNext_5 : decode cX0_causeOfNext 5 = .ok (.iadd, 1) := by decide +kernel
theorem dX0_causeOfNext_6 : decode cX0_causeOfNext 6 = .ok (.istore 5, 2) := by decide +kernel
theorem dX0_causeOfNext_8 : decode cX0_causeOfNext 8 = .ok (.aload_n 0, 1) := by decide +kernel
theorem dX0_causeOfNext_9 : decode cX0_causeOfNext 9 = .ok (.getfield 11, 3) := by decide +kernel
theorem dX0_causeOfNext_12 : decode cX0_causeOfNext 12 = .ok (.iload 5, 2) := by decide +kernel
theorem dX0_causeOfNext_14 : decode cX0_causeOfNext 14 = .ok (.caload, 1) := by decide +kernel
theorem dX0_causeOfNext_15 : decode cX0_causeOfNext 15 = .ok (.bipush 45, 2) := by decide +kernel
theorem dX0_causeOfNext_17 : decode cX0_causeOfNext 17 = .ok (.if_icmp .eq 28, 3) := by decide +kernel
theorem dX0_causeOfNext_20 : decode cX0_causeOfNext 20 = .ok (.iload 4, 2) := by decide +kernel
theorem dX0_causeOfNext_22 : decode cX0_causeOfNext 22 = .ok (.ifCond .eq 20, 3) := by decide +kernel
theorem dX0_causeOfNext_25 : decode cX0_causeOfNext 25 = .ok (.aload_n 0, 1) := by decide +kernel
theorem dX0_causeOfNext_26 : decode cX0_causeOfNext 26 = .ok (.getfield 11, 3) := by decide +kernel
theorem dX0_causeOfNext_29 : decode cX0_causeOfNext 29 = .ok (.iload 5, 2) := by decide +kernel
theorem dX0_causeOfNext_31 : decode cX0_causeOfNext 31 = .ok (.caload, 1) := by decide +kernel
theorem dX0_causeOfNext_32 : decode cX0_causeOfNext 32 = .ok (.bipush 115, 2) := by decide +kernel
theorem dX0_causeOfNext_34 : decode cX0_causeOfNext 34 = .ok (.if_icmp .ne 8, 3) := by decide +kernel
theorem dX0_causeOfNext_37 : decode cX0_causeOfNext 37 = .ok (.bipush 117, 2) := by decide +kernel
theorem dX0_causeOfNext_39 : decode cX0_causeOfNext 39 = .ok (.goto 5, 3) := by decide +kernel
theorem dX0_causeOfNext_42 : decode cX0_causeOfNext 42 = .ok (.bipush 104, 2) := by decide +kernel
theorem dX0_causeOfNext_44 : decode cX0_causeOfNext 44 = .ok (.ireturn, 1) := by decide +kernel
theorem dX0_causeOfNext_45 : decode cX0_causeOfNext 45 = .ok (.aload_n 0, 1) := by decide +kernel
theorem dX0_causeOfNext_46 : decode cX0_causeOfNext 46 = .ok (.getfield 19, 3) := by decide +kernel
theorem dX0_causeOfNext_49 : decode cX0_causeOfNext 49 = .ok (.iload 5, 2) := by decide +kernel
theorem dX0_causeOfNext_51 : decode cX0_causeOfNext 51 = .ok (.iaload, 1) := by decide +kernel
theorem dX0_causeOfNext_52 : decode cX0_causeOfNext 52 = .ok (.istore 6, 2) := by decide +kernel
theorem dX0_causeOfNext_54 : decode cX0_causeOfNext 54 = .ok (.iload 6, 2) := by decide +kernel
theorem dX0_causeOfNext_56 : decode cX0_causeOfNext 56 = .ok (.bipush (-2), 2) := by decide +kernel
theorem dX0_causeOfNext_58 : decode cX0_causeOfNext 58 = .ok (.if_icmp .ne 6, 3) := by decide +kernel
theorem dX0_causeOfNext_61 : decode cX0_causeOfNext 61 = .ok (.bipush 99, 2) := by decide +kernel
theorem dX0_causeOfNext_63 : decode cX0_causeOfNext 63 = .ok (.ireturn, 1) := by decide +kernel
theorem dX0_causeOfNext_64 : decode cX0_causeOfNext 64 = .ok (.iload 6, 2) := by decide +kernel
theorem dX0_causeOfNext_66 : decode cX0_causeOfNext 66 = .ok (.iconst (-1), 1) := by decide +kernel
theorem dX0_causeOfNext_67 : decode cX0_causeOfNext 67 = .ok (.if_icmp .ne 6, 3) := by decide +kernel
theorem dX0_causeOfNext_70 : decode cX0_causeOfNext 70 = .ok (.bipush 101, 2) := by decide +kernel
theorem dX0_causeOfNext_72 : decode cX0_causeOfNext 72 = .ok (.ireturn, 1) := by decide +kernel
theorem dX0_causeOfNext_73 : decode cX0_causeOfNext 73 = .ok (.iload 6, 2) := by decide +kernel
theorem dX0_causeOfNext_75 : decode cX0_causeOfNext 75 = .ok (.iload_n 2, 1) := by decide +kernel
theorem dX0_causeOfNext_76 : decode cX0_causeOfNext 76 = .ok (.if_icmp .ne 8, 3) := by decide +kernel
theorem dX0_causeOfNext_79 : decode cX0_causeOfNext 79 = .ok (.bipush 116, 2) := by decide +kernel
theorem dX0_causeOfNext_81 : decode cX0_causeOfNext 81 = .ok (.goto 5, 3) := by decide +kernel
theorem dX0_causeOfNext_84 : decode cX0_causeOfNext 84 = .ok (.bipush 102, 2) := by decide +kernel
theorem dX0_causeOfNext_86 : decode cX0_causeOfNext 86 = .ok (.ireturn, 1) := by decide +kernel
theorem dX0_makeAccess_0 : decode cX0_makeAccess 0 = .ok (.iload_n 1, 1) := by decide +kernel
theorem dX0_makeAccess_1 : decode cX0_makeAccess 1 = .ok (.bipush 64, 2) := by decide +kernel
theorem dX0_makeAccess_3 : decode cX0_makeAccess 3 = .ok (.imul, 1) := by decide +kernel
theorem dX0_makeAccess_4 : decode cX0_makeAccess 4 = .ok (.iload_n 3, 1) := by decide +kernel
theorem dX0_makeAccess_5 : decode cX0_makeAccess 5 = .ok (.iadd, 1) := by decide +kernel
theorem dX0_makeAccess_6 : decode cX0_makeAccess 6 = .ok (.istore 5, 2) := by decide +kernel
theorem dX0_makeAccess_8 : decode cX0_makeAccess 8 = .ok (.aload_n 0, 1) := by decide +kernel
theorem dX0_makeAccess_9 : decode cX0_makeAccess 9 = .ok (.getfield 11, 3) := by decide +kernel
theorem dX0_makeAccess_12 : decode cX0_makeAccess 12 = .ok (.iload 5, 2) := by decide +kernel
theorem dX0_makeAccess_14 : decode cX0_makeAccess 14 = .ok (.caload, 1) := by decide +kernel
theorem dX0_makeAccess_15 : decode cX0_makeAccess 15 = .ok (.bipush 45, 2) := by decide +kernel
theorem dX0_makeAccess_17 : decode cX0_makeAccess 17 = .ok (.if_icmp .ne 7, 3) := by decide +kernel
theorem dX0_makeAccess_20 : decode cX0_makeAccess 20 = .ok (.iconst 1, 1) := by decide +kernel
theorem dX0_makeAccess_21 : decode cX0_makeAccess 21 = .ok (.goto 4, 3) := by decide +kernel
theorem dX0_makeAccess_24 : decode cX0_makeAccess 24 = .ok (.iconst 0, 1) := by decide +kernel
theorem dX0_makeAccess_25 : decode cX0_makeAccess 25 = .ok (.istore 6, 2) := by decide +kernel
theorem dX0_makeAccess_27 : decode cX0_makeAccess 27 = .ok (.aload_n 0, 1) := by decide +kernel
theorem dX0_makeAccess_28 : decode cX0_makeAccess 28 = .ok (.iload_n 1, 1) := by decide +kernel
theorem dX0_makeAccess_29 : decode cX0_makeAccess 29 = .ok (.iload_n 3, 1) := by decide +kernel
theorem dX0_makeAccess_30 : decode cX0_makeAccess 30 = .ok (.iload 4, 2) := by decide +kernel
theorem dX0_makeAccess_32 : decode cX0_makeAccess 32 = .ok (.invokevirtual 62, 3) := by decide +kernel
theorem dX0_makeAccess_35 : decode cX0_makeAccess 35 = .ok (.istore 7, 2) := by decide +kernel
theorem dX0_makeAccess_37 : decode cX0_makeAccess 37 = .ok (.iload 6, 2) := by decide +kernel
theorem dX0_makeAccess_39 : decode cX0_makeAccess 39 = .ok (.ifCond .eq 38, 3) := by decide +kernel
theorem dX0_makeAccess_42 : decode cX0_makeAccess 42 = .ok (.iload 7, 2) := by decide +kernel
theorem dX0_makeAccess_44 : decode cX0_makeAccess 44 = .ok (.aload_n 0, 1) := by decide +kernel
theorem dX0_makeAccess_45 : decode cX0_makeAccess 45 = .ok (.iload_n 1, 1) := by decide +kernel
theorem dX0_makeAccess_46 : decode cX0_makeAccess 46 = .ok (.iload_n 3, 1) := by decide +kernel
theorem dX0_makeAccess_47 : decode cX0_makeAccess 47 = .ok (.invokevirtual 66, 3) := by decide +kernel
theorem dX0_makeAccess_50 : decode cX0_makeAccess 50 = .ok (.ifCond .eq 7, 3) := by decide +kernel
theorem dX0_makeAccess_53 : decode cX0_makeAccess 53 = .ok (.iconst 5, 1) := by decide +kernel
theorem dX0_makeAccess_54 : decode cX0_makeAccess 54 = .ok (.goto 4, 3) := by decide +kernel
theorem dX0_makeAccess_57 : decode cX0_makeAccess 57 = .ok (.iconst 0, 1) := by decide +kernel
theorem dX0_makeAccess_58 : decode cX0_makeAccess 58 = .ok (.iadd, 1) := by decide +kernel
theorem dX0_makeAccess_59 : decode cX0_makeAccess 59 = .ok (.istore 7, 2) := by decide +kernel
theorem dX0_makeAccess_61 : decode cX0_makeAccess 61 = .ok (.iload 4, 2) := by decide +kernel
theorem dX0_makeAccess_63 : decode cX0_makeAccess 63 = .ok (.ifCond .ne 8, 3) := by decide +kernel
theorem dX0_makeAccess_66 : decode cX0_makeAccess 66 = .ok (.aload_n 0, 1) := by decide +kernel
theorem dX0_makeAccess_67 : decode cX0_makeAccess 67 = .ok (.iload_n 3, 1) := by decide +kernel
theorem dX0_makeAccess_68 : decode cX0_makeAccess 68 = .ok (.invokevirtual 70, 3) := by decide +kernel
theorem dX0_makeAccess_71 : decode cX0_makeAccess 71 = .ok (.aload_n 0, 1) := by decide +kernel
theorem dX0_makeAccess_72 : decode cX0_makeAccess 72 = .ok (.iload_n 1, 1) := by decide +kernel
theorem dX0_makeAccess_73 : decode cX0_makeAccess 73 = .ok (.iload_n 3, 1) := by decide +kernel
theorem dX0_makeAccess_74 : decode cX0_makeAccess 74 = .ok (.invokevirtual 74, 3) := by decide +kernel
theorem dX0_makeAccess_77 : decode cX0_makeAccess 77 = .ok (.iload 4, 2) := by decide +kernel
theorem dX0_makeAccess_79 : decode cX0_makeAccess 79 = .ok (.ifCond .eq 19, 3) := by decide +kernel
theorem dX0_makeAccess_82 : decode cX0_makeAccess 82 = .ok (.aload_n 0, 1) := by decide +kernel
theorem dX0_makeAccess_83 : decode cX0_makeAccess 83 = .ok (.iload_n 1, 1) := by decide +kernel
theorem dX0_makeAccess_84 : decode cX0_makeAccess 84 = .ok (.iload_n 2, 1) := by decide +kernel
theorem dX0_makeAccess_85 : decode cX0_makeAccess 85 = .ok (.iload_n 3, 1) := by decide +kernel
theorem dX0_makeAccess_86 : decode cX0_makeAccess 86 = .ok (.invokevirtual 78, 3) := by decide +kernel
theorem dX0_makeAccess_89 : decode cX0_makeAccess 89 = .ok (.aload_n 0, 1) := by decide +kernel
theorem dX0_makeAccess_90 : decode cX0_makeAccess 90 = .ok (.getfield 11, 3) := by decide +kernel
theorem dX0_makeAccess_93 : decode cX0_makeAccess 93 = .ok (.iload 5, 2) := by decide +kernel
theorem dX0_makeAccess_95 : decode cX0_makeAccess 95 = .ok (.bipush 109, 2) := by decide +kernel
theorem dX0_makeAccess_97 : decode cX0_makeAccess 97 = .ok (.castore, 1) := by decide +kernel
theorem dX0_makeAccess_98 : decode cX0_makeAccess 98 = .ok (.aload_n 0, 1) := by decide +kernel
theorem dX0_makeAccess_99 : decode cX0_makeAccess 99 = .ok (.iload_n 1, 1) := by decide +kernel
theorem dX0_makeAccess_100 : decode cX0_makeAccess 100 = .ok (.iload_n 3, 1) := by decide +kernel
theorem dX0_makeAccess_101 : decode cX0_makeAccess 101 = .ok (.invokevirtual 82, 3) := by decide +kernel
theorem dX0_makeAccess_104 : decode cX0_makeAccess 104 = .ok (.iload 6, 2) := by decide +kernel
theorem dX0_makeAccess_106 : decode cX0_makeAccess 106 = .ok (.ifCond .eq 37, 3) := by decide +kernel
theorem dX0_makeAccess_109 : decode cX0_makeAccess 109 = .ok (.aload_n 0, 1) := by decide +kernel
theorem dX0_makeAccess_110 : decode cX0_makeAccess 110 = .ok (.getfield 26, 3) := by decide +kernel
theorem dX0_makeAccess_113 : decode cX0_makeAccess 113 = .ok (.iload_n 1, 1) := by decide +kernel
theorem dX0_makeAccess_114 : decode cX0_makeAccess 114 = .ok (.baload, 1) := by decide +kernel
theorem dX0_makeAccess_115 : decode cX0_makeAccess 115 = .ok (.ifCond .eq 28, 3) := by decide +kernel
theorem dX0_makeAccess_118 : decode cX0_makeAccess 118 = .ok (.aload_n 0, 1) := by decide +kernel
theorem dX0_makeAccess_119 : decode cX0_makeAccess 119 = .ok (.iload_n 1, 1) := by decide +kernel
theorem dX0_makeAccess_120 : decode cX0_makeAccess 120 = .ok (.iload_n 3, 1) := by decide +kernel
theorem dX0_makeAccess_121 : decode cX0_makeAccess 121 = .ok (.invokevirtual 85, 3) := by decide +kernel
theorem dX0_makeAccess_124 : decode cX0_makeAccess 124 = .ok (.istore 8, 2) := by decide +kernel
theorem dX0_makeAccess_126 : decode cX0_makeAccess 126 = .ok (.aload_n 0, 1) := by decide +kernel
theorem dX0_makeAccess_127 : decode cX0_makeAccess 127 = .ok (.iload_n 1, 1) := by decide +kernel
theorem dX0_makeAccess_128 : decode cX0_makeAccess 128 = .ok (.iload 8, 2) := by decide +kernel
theorem dX0_makeAccess_130 : decode cX0_makeAccess 130 = .ok (.invokevirtual 89, 3) := by decide +kernel
theorem dX0_makeAccess_133 : decode cX0_makeAccess 133 = .ok (.ifCond .eq 10, 3) := by decide +kernel
theorem dX0_makeAccess_136 : decode cX0_makeAccess 136 = .ok (.aload_n 0, 1) := by decide +kernel
theorem dX0_makeAccess_137 : decode cX0_makeAccess 137 = .ok (.iload_n 1, 1) := by decide +kernel
theorem dX0_makeAccess_138 : decode cX0_makeAccess 138 = .ok (.iload 8, 2) := by decide +kernel
theorem dX0_makeAccess_140 : decode cX0_makeAccess 140 = .ok (.invokevirtual 92, 3) := by decide +kernel
theorem dX0_makeAccess_143 : decode cX0_makeAccess 143 = .ok (.iload 7, 2) := by decide +kernel
theorem dX0_makeAccess_145 : decode cX0_makeAccess 145 = .ok (.ireturn, 1) := by decide +kernel
theorem dX0_dropAll_0 : decode cX0_dropAll 0 = .ok (.iconst 0, 1) := by decide +kernel
theorem dX0_dropAll_1 : decode cX0_dropAll 1 = .ok (.istore_n 2, 1) := by decide +kernel
theorem dX0_dropAll_2 : decode cX0_dropAll 2 = .ok (.iconst 0, 1) := by decide +kernel
theorem dX0_dropAll_3 : decode cX0_dropAll 3 = .ok (.istore_n 3, 1) := by decide +kernel
theorem dX0_dropAll_4 : decode cX0_dropAll 4 = .ok (.iload_n 3, 1) := by decide +kernel
theorem dX0_dropAll_5 : decode cX0_dropAll 5 = .ok (.bipush 64, 2) := by decide +kernel
theorem dX0_dropAll_7 : decode cX0_dropAll 7 = .ok (.if_icmp .ge 35, 3) := by decide +kernel
theorem dX0_dropAll_10 : decode cX0_dropAll 10 = .ok (.aload_n 0, 1) := by decide +kernel
theorem dX0_dropAll_11 : decode cX0_dropAll 11 = .ok (.getfield 11, 3) := by decide +kernel
theorem dX0_dropAll_14 : decode cX0_dropAll 14 = .ok (.iload_n 1, 1) := by decide +kernel
theorem dX0_dropAll_15 : decode cX0_dropAll 15 = .ok (.bipush 64, 2) := by decide +kernel
theorem dX0_dropAll_17 : decode cX0_dropAll 17 = .ok (.imul, 1) := by decide +kernel
theorem dX0_dropAll_18 : decode cX0_dropAll 18 = .ok (.iload_n 3, 1) := by decide +kernel
theorem dX0_dropAll_19 : decode cX0_dropAll 19 = .ok (.iadd, 1) := by decide +kernel
theorem dX0_dropAll_20 : decode cX0_dropAll 20 = .ok (.caload, 1) := by decide +kernel
theorem dX0_dropAll_21 : decode cX0_dropAll 21 = .ok (.bipush 109, 2) := by decide +kernel
theorem dX0_dropAll_23 : decode cX0_dropAll 23 = .ok (.if_icmp .ne 6, 3) := by decide +kernel
theorem dX0_dropAll_26 : decode cX0_dropAll 26 = .ok (.iinc 2 1, 3) := by decide +kernel
theorem dX0_dropAll_29 : decode cX0_dropAll 29 = .ok (.aload_n 0, 1) := by decide +kernel
theorem dX0_dropAll_30 : decode cX0_dropAll 30 = .ok (.iload_n 1, 1) := by decide +kernel
theorem dX0_dropAll_31 : decode cX0_dropAll 31 = .ok (.iload_n 3, 1) := by decide +kernel
theorem dX0_dropAll_32 : decode cX0_dropAll 32 = .ok (.iconst (-1), 1) := by decide +kernel
theorem dX0_dropAll_33 : decode cX0_dropAll 33 = .ok (.invokevirtual 95, 3) := by decide +kernel
theorem dX0_dropAll_36 : decode cX0_dropAll 36 = .ok (.iinc 3 1, 3) := by decide +kernel
theorem dX0_dropAll_39 : decode cX0_dropAll 39 = .ok (.goto (-35), 3) := by decide +kernel
theorem dX0_dropAll_42 : decode cX0_dropAll 42 = .ok (.iload_n 2, 1) := by decide +kernel
theorem dX0_dropAll_43 : decode cX0_dropAll 43 = .ok (.ireturn, 1) := by decide +kernel
theorem dX0_costOfNext_0 : decode cX0_costOfNext 0 = .ok (.aload_n 0, 1) := by decide +kernel
theorem dX0_costOfNext_1 : decode cX0_costOfNext 1 = .ok (.getfield 11, 3) := by decide +kernel
theorem dX0_costOfNext_4 : decode cX0_costOfNext 4 = .ok (.iload_n 1, 1) := by decide +kernel
theorem dX0_costOfNext_5 : decode cX0_costOfNext 5 = .ok (.bipush 64, 2) := by decide +kernel
theorem dX0_costOfNext_7 : decode cX0_costOfNext 7 = .ok (.imul, 1) := by decide +kernel
theorem dX0_costOfNext_8 : decode cX0_costOfNext 8 = .ok (.iload_n 2, 1) := by decide +kernel
theorem dX0_costOfNext_9 : decode cX0_costOfNext 9 = .ok (.iadd, 1) := by decide +kernel
theorem dX0_costOfNext_10 : decode cX0_costOfNext 10 = .ok (.caload, 1) := by decide +kernel
theorem dX0_costOfNext_11 : decode cX0_costOfNext 11 = .ok (.istore 4, 2) := by decide +kernel
theorem dX0_costOfNext_13 : decode cX0_costOfNext 13 = .ok (.iload 4, 2) := by decide +kernel
theorem dX0_costOfNext_15 : decode cX0_costOfNext 15 = .ok (.bipush 45, 2) := by decide +kernel
theorem dX0_costOfNext_17 : decode cX0_costOfNext 17 = .ok (.if_icmp .ne 19, 3) := by decide +kernel
theorem dX0_costOfNext_20 : decode cX0_costOfNext 20 = .ok (.aload_n 0, 1) := by decide +kernel
theorem dX0_costOfNext_21 : decode cX0_costOfNext 21 = .ok (.iload_n 2, 1) := by decide +kernel
theorem dX0_costOfNext_22 : decode cX0_costOfNext 22 = .ok (.invokevirtual 59, 3) := by decide +kernel
theorem dX0_costOfNext_25 : decode cX0_costOfNext 25 = .ok (.ifCond .le 8, 3) := by decide +kernel
theorem dX0_costOfNext_28 : decode cX0_costOfNext 28 = .ok (.bipush 12, 2) := by decide +kernel
theorem dX0_costOfNext_30 : decode cX0_costOfNext 30 = .ok (.goto 5, 3) := by decide +kernel
theorem dX0_costOfNext_33 : decode cX0_costOfNext 33 = .ok (.bipush 40, 2) := by decide +kernel
theorem dX0_costOfNext_35 : decode cX0_costOfNext 35 = .ok (.ireturn, 1) := by decide +kernel
theorem dX0_costOfNext_36 : decode cX0_costOfNext 36 = .ok (.iload_n 3, 1) := by decide +kernel
theorem dX0_costOfNext_37 : decode cX0_costOfNext 37 = .ok (.ifCond .eq 15, 3) := by decide +kernel
theorem dX0_costOfNext_40 : decode cX0_costOfNext 40 = .ok (.iload 4, 2) := by decide +kernel
theorem dX0_costOfNext_42 : decode cX0_costOfNext 42 = .ok (.bipush 115, 2) := by decide +kernel
theorem dX0_costOfNext_44 : decode cX0_costOfNext 44 = .ok (.if_icmp .ne 8, 3) := by decide +kernel
theorem dX0_costOfNext_47 : decode cX0_costOfNext 47 = .ok (.bipush 8, 2) := by decide +kernel
theorem dX0_costOfNext_49 : decode cX0_costOfNext 49 = .ok (.goto 4, 3) := by decide +kernel
theorem dX0_costOfNext_52 : decode cX0_costOfNext 52 = .ok (.iconst 1, 1) := by decide +kernel
theorem dX0_costOfNext_53 : decode cX0_costOfNext 53 = .ok (.ireturn, 1) := by decide +kernel
theorem dX0_makeRoom_0 : decode cX0_makeRoom 0 = .ok (.iload_n 2, 1) := by decide +kernel
theorem dX0_makeRoom_1 : decode cX0_makeRoom 1 = .ok (.iconst 4, 1) := by decide +kernel
theorem dX0_makeRoom_2 : decode cX0_makeRoom 2 = .ok (.irem, 1) := by decide +kernel
theorem dX0_makeRoom_3 : decode cX0_makeRoom 3 = .ok (.istore_n 3, 1) := by decide +kernel
theorem dX0_makeRoom_4 : decode cX0_makeRoom 4 = .ok (.aload_n 0, 1) := by decide +kernel
theorem dX0_makeRoom_5 : decode cX0_makeRoom 5 = .ok (.iload_n 1, 1) := by decide +kernel
theorem dX0_makeRoom_6 : decode cX0_makeRoom 6 = .ok (.iload_n 3, 1) := by decide +kernel
theorem dX0_makeRoom_7 : decode cX0_makeRoom 7 = .ok (.invokevirtual 98, 3) := by decide +kernel
theorem dX0_makeRoom_10 : decode cX0_makeRoom 10 = .ok (.istore 4, 2) := by decide +kernel
theorem dX0_makeRoom_12 : decode cX0_makeRoom 12 = .ok (.iload 4, 2) := by decide +kernel
theorem dX0_makeRoom_14 : decode cX0_makeRoom 14 = .ok (.iconst (-1), 1) := by decide +kernel
theorem dX0_makeRoom_15 : decode cX0_makeRoom 15 = .ok (.if_icmp .eq 13, 3) := by decide +kernel
theorem dX0_makeRoom_18 : decode cX0_makeRoom 18 = .ok (.aload_n 0, 1) := by decide +kernel
theorem dX0_makeRoom_19 : decode cX0_makeRoom 19 = .ok (.iload_n 1, 1) := by decide +kernel
theorem dX0_makeRoom_20 : decode cX0_makeRoom 20 = .ok (.iload_n 3, 1) := by decide +kernel
theorem dX0_makeRoom_21 : decode cX0_makeRoom 21 = .ok (.invokevirtual 101, 3) := by decide +kernel
theorem dX0_makeRoom_24 : decode cX0_makeRoom 24 = .ok (.iconst 2, 1) := by decide +kernel
theorem dX0_makeRoom_25 : decode cX0_makeRoom 25 = .ok (.if_icmp .ge 5, 3) := by decide +kernel
theorem dX0_makeRoom_28 : decode cX0_makeRoom 28 = .ok (.iconst 0, 1) := by decide +kernel
theorem dX0_makeRoom_29 : decode cX0_makeRoom 29 = .ok (.ireturn, 1) := by decide +kernel
theorem dX0_makeRoom_30 : decode cX0_makeRoom 30 = .ok (.aload_n 0, 1) := by decide +kernel
theorem dX0_makeRoom_31 : decode cX0_makeRoom 31 = .ok (.getfield 11, 3) := by decide +kernel
theorem dX0_makeRoom_34 : decode cX0_makeRoom 34 = .ok (.iload_n 1, 1) := by decide +kernel
theorem dX0_makeRoom_35 : decode cX0_makeRoom 35 = .ok (.bipush 64, 2) := by decide +kernel
theorem dX0_makeRoom_37 : decode cX0_makeRoom 37 = .ok (.imul, 1) := by decide +kernel
theorem dX0_makeRoom_38 : decode cX0_makeRoom 38 = .ok (.iload 4, 2) := by decide +kernel
theorem dX0_makeRoom_40 : decode cX0_makeRoom 40 = .ok (.iadd, 1) := by decide +kernel
theorem dX0_makeRoom_41 : decode cX0_makeRoom 41 = .ok (.caload, 1) := by decide +kernel
theorem dX0_makeRoom_42 : decode cX0_makeRoom 42 = .ok (.bipush 109, 2) := by decide +kernel
theorem dX0_makeRoom_44 : decode cX0_makeRoom 44 = .ok (.if_icmp .ne 7, 3) := by decide +kernel
theorem dX0_makeRoom_47 : decode cX0_makeRoom 47 = .ok (.iconst 1, 1) := by decide +kernel
theorem dX0_makeRoom_48 : decode cX0_makeRoom 48 = .ok (.goto 4, 3) := by decide +kernel
theorem dX0_makeRoom_51 : decode cX0_makeRoom 51 = .ok (.iconst 0, 1) := by decide +kernel
theorem dX0_makeRoom_52 : decode cX0_makeRoom 52 = .ok (.istore 5, 2) := by decide +kernel
theorem dX0_makeRoom_54 : decode cX0_makeRoom 54 = .ok (.aload_n 0, 1) := by decide +kernel
theorem dX0_makeRoom_55 : decode cX0_makeRoom 55 = .ok (.iload_n 1, 1) := by decide +kernel
theorem dX0_makeRoom_56 : decode cX0_makeRoom 56 = .ok (.iload 4, 2) := by decide +kernel
theorem dX0_makeRoom_58 : decode cX0_makeRoom 58 = .ok (.iconst (-1), 1) := by decide +kernel
theorem dX0_makeRoom_59 : decode cX0_makeRoom 59 = .ok (.invokevirtual 95, 3) := by decide +kernel
theorem dX0_makeRoom_62 : decode cX0_makeRoom 62 = .ok (.iload 5, 2) := by decide +kernel
theorem dX0_makeRoom_64 : decode cX0_makeRoom 64 = .ok (.ireturn, 1) := by decide +kernel
theorem dX0_shareAll_0 : decode cX0_shareAll 0 = .ok (.iconst 0, 1) := by decide +kernel
theorem dX0_shareAll_1 : decode cX0_shareAll 1 = .ok (.istore_n 2, 1) := by decide +kernel
theorem dX0_shareAll_2 : decode cX0_shareAll 2 = .ok (.iload_n 2, 1) := by decide +kernel
theorem dX0_shareAll_3 : decode cX0_shareAll 3 = .ok (.iconst 4, 1) := by decide +kernel
theorem dX0_shareAll_4 : decode cX0_shareAll 4 = .ok (.if_icmp .ge 35, 3) := by decide +kernel
theorem dX0_shareAll_7 : decode cX0_shareAll 7 = .ok (.iload_n 2, 1) := by decide +kernel
theorem dX0_shareAll_8 : decode cX0_shareAll 8 = .ok (.bipush 64, 2) := by decide +kernel
theorem dX0_shareAll_10 : decode cX0_shareAll 10 = .ok (.imul, 1) := by decide +kernel
theorem dX0_shareAll_11 : decode cX0_shareAll 11 = .ok (.iload_n 1, 1) := by decide +kernel
theorem dX0_shareAll_12 : decode cX0_shareAll 12 = .ok (.iadd, 1) := by decide +kernel
theorem dX0_shareAll_13 : decode cX0_shareAll 13 = .ok (.istore_n 3, 1) := by decide +kernel
theorem dX0_shareAll_14 : decode cX0_shareAll 14 = .ok (.aload_n 0, 1) := by decide +kernel
theorem dX0_shareAll_15 : decode cX0_shareAll 15 = .ok (.getfield 11, 3) := by decide +kernel
theorem dX0_shareAll_18 : decode cX0_shareAll 18 = .ok (.iload_n 3, 1) := by decide +kernel
theorem dX0_shareAll_19 : decode cX0_shareAll 19 = .ok (.caload, 1) := by decide +kernel
theorem dX0_shareAll_20 : decode cX0_shareAll 20 = .ok (.bipush 45, 2) := by decide +kernel
theorem dX0_shareAll_22 : decode cX0_shareAll 22 = .ok (.if_icmp .eq 11, 3) := by decide +kernel
theorem dX0_shareAll_25 : decode cX0_shareAll 25 = .ok (.aload_n 0, 1) := by decide +kernel
theorem dX0_shareAll_26 : decode cX0_shareAll 26 = .ok (.getfield 11, 3) := by decide +kernel
theorem dX0_shareAll_29 : decode cX0_shareAll 29 = .ok (.iload_n 3, 1) := by decide +kernel
theorem dX0_shareAll_30 : decode cX0_shareAll 30 = .ok (.bipush 115, 2) := by decide +kernel
theorem dX0_shareAll_32 : decode cX0_shareAll 32 = .ok (.castore, 1) := by decide +kernel
theorem dX0_shareAll_33 : decode cX0_shareAll 33 = .ok (.iinc 2 1, 3) := by decide +kernel
theorem dX0_shareAll_36 : decode cX0_shareAll 36 = .ok (.goto (-34), 3) := by decide +kernel
theorem dX0_shareAll_39 : decode cX0_shareAll 39 = .ok (.return_, 1) := by decide +kernel
theorem dX0_bring_0 : decode cX0_bring 0 = .ok (.iload_n 1, 1) := by decide +kernel
theorem dX0_bring_1 : decode cX0_bring 1 = .ok (.bipush 64, 2) := by decide +kernel
theorem dX0_bring_3 : decode cX0_bring 3 = .ok (.imul, 1) := by decide +kernel
theorem dX0_bring_4 : decode cX0_bring 4 = .ok (.iload_n 2, 1) := by decide +kernel
theorem dX0_bring_5 : decode cX0_bring 5 = .ok (.iadd, 1) := by decide +kernel
theorem dX0_bring_6 : decode cX0_bring 6 = .ok (.istore_n 3, 1) := by decide +kernel
theorem dX0_bring_7 : decode cX0_bring 7 = .ok (.aload_n 0, 1) := by decide +kernel
theorem dX0_bring_8 : decode cX0_bring 8 = .ok (.getfield 11, 3) := by decide +kernel
theorem dX0_bring_11 : decode cX0_bring 11 = .ok (.iload_n 3, 1) := by decide +kernel
theorem dX0_bring_12 : decode cX0_bring 12 = .ok (.aload_n 0, 1) := by decide +kernel
theorem dX0_bring_13 : decode cX0_bring 13 = .ok (.iload_n 2, 1) := by decide +kernel
theorem dX0_bring_14 : decode cX0_bring 14 = .ok (.invokevirtual 59, 3) := by decide +kernel
theorem dX0_bring_17 : decode cX0_bring 17 = .ok (.ifCond .le 8, 3) := by decide +kernel
theorem dX0_bring_20 : decode cX0_bring 20 = .ok (.bipush 115, 2) := by decide +kernel
theorem dX0_bring_22 : decode cX0_bring 22 = .ok (.goto 5, 3) := by decide +kernel
theorem dX0_bring_25 : decode cX0_bring 25 = .ok (.bipush 101, 2) := by decide +kernel
theorem dX0_bring_27 : decode cX0_bring 27 = .ok (.castore, 1) := by decide +kernel
theorem dX0_bring_28 : decode cX0_bring 28 = .ok (.aload_n 0, 1) := by decide +kernel
theorem dX0_bring_29 : decode cX0_bring 29 = .ok (.dup, 1) := by decide +kernel
theorem dX0_bring_30 : decode cX0_bring 30 = .ok (.getfield 44, 3) := by decide +kernel
theorem dX0_bring_33 : decode cX0_bring 33 = .ok (.iconst 1, 1) := by decide +kernel
theorem dX0_bring_34 : decode cX0_bring 34 = .ok (.iadd, 1) := by decide +kernel
theorem dX0_bring_35 : decode cX0_bring 35 = .ok (.putfield 44, 3) := by decide +kernel
theorem dX0_bring_38 : decode cX0_bring 38 = .ok (.aload_n 0, 1) := by decide +kernel
theorem dX0_bring_39 : decode cX0_bring 39 = .ok (.getfield 15, 3) := by decide +kernel
theorem dX0_bring_42 : decode cX0_bring 42 = .ok (.iload_n 3, 1) := by decide +kernel
theorem dX0_bring_43 : decode cX0_bring 43 = .ok (.aload_n 0, 1) := by decide +kernel
theorem dX0_bring_44 : decode cX0_bring 44 = .ok (.getfield 44, 3) := by decide +kernel
theorem dX0_bring_47 : decode cX0_bring 47 = .ok (.iastore, 1) := by decide +kernel
theorem dX0_bring_48 : decode cX0_bring 48 = .ok (.return_, 1) := by decide +kernel
theorem dX0_use_0 : decode cX0_use 0 = .ok (.iload_n 1, 1) := by decide +kernel
theorem dX0_use_1 : decode cX0_use 1 = .ok (.bipush 64, 2) := by decide +kernel
theorem dX0_use_3 : decode cX0_use 3 = .ok (.imul, 1) := by decide +kernel
theorem dX0_use_4 : decode cX0_use 4 = .ok (.iload_n 2, 1) := by decide +kernel
theorem dX0_use_5 : decode cX0_use 5 = .ok (.iadd, 1) := by decide +kernel
theorem dX0_use_6 : decode cX0_use 6 = .ok (.istore_n 3, 1) := by decide +kernel
theorem dX0_use_7 : decode cX0_use 7 = .ok (.aload_n 0, 1) := by decide +kernel
theorem dX0_use_8 : decode cX0_use 8 = .ok (.dup, 1) := by decide +kernel
theorem dX0_use_9 : decode cX0_use 9 = .ok (.getfield 44, 3) := by decide +kernel
theorem dX0_use_12 : decode cX0_use 12 = .ok (.iconst 1, 1) := by decide +kernel
theorem dX0_use_13 : decode cX0_use 13 = .ok (.iadd, 1) := by decide +kernel
theorem dX0_use_14 : decode cX0_use 14 = .ok (.putfield 44, 3) := by decide +kernel
theorem dX0_use_17 : decode cX0_use 17 = .ok (.aload_n 0, 1) := by decide +kernel
theorem dX0_use_18 : decode cX0_use 18 = .ok (.getfield 15, 3) := by decide +kernel
theorem dX0_use_21 : decode cX0_use 21 = .ok (.iload_n 3, 1) := by decide +kernel
theorem dX0_use_22 : decode cX0_use 22 = .ok (.aload_n 0, 1) := by decide +kernel
theorem dX0_use_23 : decode cX0_use 23 = .ok (.getfield 44, 3) := by decide +kernel
theorem dX0_use_26 : decode cX0_use 26 = .ok (.iastore, 1) := by decide +kernel
theorem dX0_use_27 : decode cX0_use 27 = .ok (.aload_n 0, 1) := by decide +kernel
theorem dX0_use_28 : decode cX0_use 28 = .ok (.getfield 22, 3) := by decide +kernel
theorem dX0_use_31 : decode cX0_use 31 = .ok (.iload_n 3, 1) := by decide +kernel
theorem dX0_use_32 : decode cX0_use 32 = .ok (.baload, 1) := by decide +kernel
theorem dX0_use_33 : decode cX0_use 33 = .ok (.ifCond .eq 20, 3) := by decide +kernel
theorem dX0_use_36 : decode cX0_use 36 = .ok (.aload_n 0, 1) := by decide +kernel
theorem dX0_use_37 : decode cX0_use 37 = .ok (.getfield 22, 3) := by decide +kernel
theorem dX0_use_40 : decode cX0_use 40 = .ok (.iload_n 3, 1) := by decide +kernel
theorem dX0_use_41 : decode cX0_use 41 = .ok (.iconst 0, 1) := by decide +kernel
theorem dX0_use_42 : decode cX0_use 42 = .ok (.bastore, 1) := by decide +kernel
theorem dX0_use_43 : decode cX0_use 43 = .ok (.aload_n 0, 1) := by decide +kernel
theorem dX0_use_44 : decode cX0_use 44 = .ok (.getfield 38, 3) := by decide +kernel
theorem dX0_use_47 : decode cX0_use 47 = .ok (.iload_n 1, 1) := by decide +kernel
theorem dX0_use_48 : decode cX0_use 48 = .ok (.dup2, 1) := by decide +kernel
theorem dX0_use_49 : decode cX0_use 49 = .ok (.iaload, 1) := by decide +kernel
theorem dX0_use_50 : decode cX0_use 50 = .ok (.iconst 1, 1) := by decide +kernel
theorem dX0_use_51 : decode cX0_use 51 = .ok (.iadd, 1) := by decide +kernel
theorem dX0_use_52 : decode cX0_use 52 = .ok (.iastore, 1) := by decide +kernel
theorem dX0_use_53 : decode cX0_use 53 = .ok (.return_, 1) := by decide +kernel
theorem dX0_drop_0 : decode cX0_drop 0 = .ok (.iload_n 1, 1) := by decide +kernel
theorem dX0_drop_1 : decode cX0_drop 1 = .ok (.bipush 64, 2) := by decide +kernel
theorem dX0_drop_3 : decode cX0_drop 3 = .ok (.imul, 1) := by decide +kernel
theorem dX0_drop_4 : decode cX0_drop 4 = .ok (.iload_n 2, 1) := by decide +kernel
theorem dX0_drop_5 : decode cX0_drop 5 = .ok (.iadd, 1) := by decide +kernel
theorem dX0_drop_6 : decode cX0_drop 6 = .ok (.istore 4, 2) := by decide +kernel
theorem dX0_drop_8 : decode cX0_drop 8 = .ok (.aload_n 0, 1) := by decide +kernel
theorem dX0_drop_9 : decode cX0_drop 9 = .ok (.getfield 11, 3) := by decide +kernel
theorem dX0_drop_12 : decode cX0_drop 12 = .ok (.iload 4, 2) := by decide +kernel
theorem dX0_drop_14 : decode cX0_drop 14 = .ok (.caload, 1) := by decide +kernel
theorem dX0_drop_15 : decode cX0_drop 15 = .ok (.bipush 45, 2) := by decide +kernel
theorem dX0_drop_17 : decode cX0_drop 17 = .ok (.if_icmp .ne 4, 3) := by decide +kernel
theorem dX0_drop_20 : decode cX0_drop 20 = .ok (.return_, 1) := by decide +kernel
theorem dX0_drop_21 : decode cX0_drop 21 = .ok (.aload_n 0, 1) := by decide +kernel
theorem dX0_drop_22 : decode cX0_drop 22 = .ok (.getfield 11, 3) := by decide +kernel
theorem dX0_drop_25 : decode cX0_drop 25 = .ok (.iload 4, 2) := by decide +kernel
theorem dX0_drop_27 : decode cX0_drop 27 = .ok (.bipush 45, 2) := by decide +kernel
theorem dX0_drop_29 : decode cX0_drop 29 = .ok (.castore, 1) := by decide +kernel
theorem dX0_drop_30 : decode cX0_drop 30 = .ok (.aload_n 0, 1) := by decide +kernel
theorem dX0_drop_31 : decode cX0_drop 31 = .ok (.getfield 19, 3) := by decide +kernel
theorem dX0_drop_34 : decode cX0_drop 34 = .ok (.iload 4, 2) := by decide +kernel
theorem dX0_drop_36 : decode cX0_drop 36 = .ok (.iload_n 3, 1) := by decide +kernel
theorem dX0_drop_37 : decode cX0_drop 37 = .ok (.iastore, 1) := by decide +kernel
theorem dX0_drop_38 : decode cX0_drop 38 = .ok (.aload_n 0, 1) := by decide +kernel
theorem dX0_drop_39 : decode cX0_drop 39 = .ok (.getfield 22, 3) := by decide +kernel
theorem dX0_drop_42 : decode cX0_drop 42 = .ok (.iload 4, 2) := by decide +kernel
theorem dX0_drop_44 : decode cX0_drop 44 = .ok (.baload, 1) := by decide +kernel
theorem dX0_drop_45 : decode cX0_drop 45 = .ok (.ifCond .eq 21, 3) := by decide +kernel
theorem dX0_drop_48 : decode cX0_drop 48 = .ok (.aload_n 0, 1) := by decide +kernel
theorem dX0_drop_49 : decode cX0_drop 49 = .ok (.getfield 22, 3) := by decide +kernel
theorem dX0_drop_52 : decode cX0_drop 52 = .ok (.iload 4, 2) := by decide +kernel
theorem dX0_drop_54 : decode cX0_drop 54 = .ok (.iconst 0, 1) := by decide +kernel
theorem dX0_drop_55 : decode cX0_drop 55 = .ok (.bastore, 1) := by decide +kernel
theorem dX0_drop_56 : decode cX0_drop 56 = .ok (.aload_n 0, 1) := by decide +kernel
theorem dX0_drop_57 : decode cX0_drop 57 = .ok (.getfield 41, 3) := by decide +kernel
theorem dX0_drop_60 : decode cX0_drop 60 = .ok (.iload_n 1, 1) := by decide +kernel
theorem dX0_drop_61 : decode cX0_drop 61 = .ok (.dup2, 1) := by decide +kernel
theorem dX0_drop_62 : decode cX0_drop 62 = .ok (.iaload, 1) := by decide +kernel
theorem dX0_drop_63 : decode cX0_drop 63 = .ok (.iconst 1, 1) := by decide +kernel
theorem dX0_drop_64 : decode cX0_drop 64 = .ok (.iadd, 1) := by decide +kernel
theorem dX0_drop_65 : decode cX0_drop 65 = .ok (.iastore, 1) := by decide +kernel
theorem dX0_drop_66 : decode cX0_drop 66 = .ok (.return_, 1) := by decide +kernel
theorem dX0_dropElsewhere_0 : decode cX0_dropElsewhere 0 = .ok (.iconst 0, 1) := by decide +kernel
theorem dX0_dropElsewhere_1 : decode cX0_dropElsewhere 1 = .ok (.istore 4, 2) := by decide +kernel
theorem dX0_dropElsewhere_3 : decode cX0_dropElsewhere 3 = .ok (.iload 4, 2) := by decide +kernel
theorem dX0_dropElsewhere_5 : decode cX0_dropElsewhere 5 = .ok (.iconst 4, 1) := by decide +kernel
theorem dX0_dropElsewhere_6 : decode cX0_dropElsewhere 6 = .ok (.if_icmp .ge 23, 3) := by decide +kernel
theorem dX0_dropElsewhere_9 : decode cX0_dropElsewhere 9 = .ok (.iload 4, 2) := by decide +kernel
theorem dX0_dropElsewhere_11 : decode cX0_dropElsewhere 11 = .ok (.iload_n 1, 1) := by decide +kernel
theorem dX0_dropElsewhere_12 : decode cX0_dropElsewhere 12 = .ok (.if_icmp .eq 11, 3) := by decide +kernel
theorem dX0_dropElsewhere_15 : decode cX0_dropElsewhere 15 = .ok (.aload_n 0, 1) := by decide +kernel
theorem dX0_dropElsewhere_16 : decode cX0_dropElsewhere 16 = .ok (.iload 4, 2) := by decide +kernel
theorem dX0_dropElsewhere_18 : decode cX0_dropElsewhere 18 = .ok (.iload_n 3, 1) := by decide +kernel
theorem dX0_dropElsewhere_19 : decode cX0_dropElsewhere 19 = .ok (.iload_n 2, 1) := by decide +kernel
theorem dX0_dropElsewhere_20 : decode cX0_dropElsewhere 20 = .ok (.invokevirtual 95, 3) := by decide +kernel
theorem dX0_dropElsewhere_23 : decode cX0_dropElsewhere 23 = .ok (.iinc 4 1, 3) := by decide +kernel
theorem dX0_dropElsewhere_26 : decode cX0_dropElsewhere 26 = .ok (.goto (-23), 3) := by decide +kernel
theorem dX0_dropElsewhere_29 : decode cX0_dropElsewhere 29 = .ok (.return_, 1) := by decide +kernel
theorem dX0_learn_0 : decode cX0_learn 0 = .ok (.aload_n 0, 1) := by decide +kernel
theorem dX0_learn_1 : decode cX0_learn 1 = .ok (.getfield 29, 3) := by decide +kernel
theorem dX0_learn_4 : decode cX0_learn 4 = .ok (.iload_n 1, 1) := by decide +kernel
theorem dX0_learn_5 : decode cX0_learn 5 = .ok (.iaload, 1) := by decide +kernel
theorem dX0_learn_6 : decode cX0_learn 6 = .ok (.istore_n 3, 1) := by decide +kernel
theorem dX0_learn_7 : decode cX0_learn 7 = .ok (.iload_n 3, 1) := by decide +kernel
theorem dX0_learn_8 : decode cX0_learn 8 = .ok (.iconst (-1), 1) := by decide +kernel
theorem dX0_learn_9 : decode cX0_learn 9 = .ok (.if_icmp .ne 7, 3) := by decide +kernel
theorem dX0_learn_12 : decode cX0_learn 12 = .ok (.iconst 0, 1) := by decide +kernel
theorem dX0_learn_13 : decode cX0_learn 13 = .ok (.goto 6, 3) := by decide +kernel
theorem dX0_learn_16 : decode cX0_learn 16 = .ok (.iload_n 2, 1) := by decide +kernel
theorem dX0_learn_17 : decode cX0_learn 17 = .ok (.iload_n 3, 1) := by decide +kernel
theorem dX0_learn_18 : decode cX0_learn 18 = .ok (.isub, 1) := by decide +kernel
theorem dX0_learn_19 : decode cX0_learn 19 = .ok (.istore 4, 2) := by decide +kernel
theorem dX0_learn_21 : decode cX0_learn 21 = .ok (.iload 4, 2) := by decide +kernel
theorem dX0_learn_23 : decode cX0_learn 23 = .ok (.ifCond .eq 18, 3) := by decide +kernel
theorem dX0_learn_26 : decode cX0_learn 26 = .ok (.iload 4, 2) := by decide +kernel
theorem dX0_learn_28 : decode cX0_learn 28 = .ok (.aload_n 0, 1) := by decide +kernel
theorem dX0_learn_29 : decode cX0_learn 29 = .ok (.getfield 32, 3) := by decide +kernel
theorem dX0_learn_32 : decode cX0_learn 32 = .ok (.iload_n 1, 1) := by decide +kernel
theorem dX0_learn_33 : decode cX0_learn 33 = .ok (.iaload, 1) := by decide +kernel
theorem dX0_learn_34 : decode cX0_learn 34 = .ok (.if_icmp .ne 7, 3) := by decide +kernel
theorem dX0_learn_37 : decode cX0_learn 37 = .ok (.iconst 1, 1) := by decide +kernel
theorem dX0_learn_38 : decode cX0_learn 38 = .ok (.goto 4, 3) := by decide +kernel
theorem dX0_learn_41 : decode cX0_learn 41 = .ok (.iconst 0, 1) := by decide +kernel
theorem dX0_learn_42 : decode cX0_learn 42 = .ok (.istore 5, 2) := by decide +kernel
theorem dX0_learn_44 : decode cX0_learn 44 = .ok (.aload_n 0, 1) := by decide +kernel
theorem dX0_learn_45 : decode cX0_learn 45 = .ok (.getfield 29, 3) := by decide +kernel
theorem dX0_learn_48 : decode cX0_learn 48 = .ok (.iload_n 1, 1) := by decide +kernel
theorem dX0_learn_49 : decode cX0_learn 49 = .ok (.iload_n 2, 1) := by decide +kernel
theorem dX0_learn_50 : decode cX0_learn 50 = .ok (.iastore, 1) := by decide +kernel
theorem dX0_learn_51 : decode cX0_learn 51 = .ok (.aload_n 0, 1) := by decide +kernel
theorem dX0_learn_52 : decode cX0_learn 52 = .ok (.getfield 32, 3) := by decide +kernel
theorem dX0_learn_55 : decode cX0_learn 55 = .ok (.iload_n 1, 1) := by decide +kernel
theorem dX0_learn_56 : decode cX0_learn 56 = .ok (.iload 4, 2) := by decide +kernel
theorem dX0_learn_58 : decode cX0_learn 58 = .ok (.iastore, 1) := by decide +kernel
theorem dX0_learn_59 : decode cX0_learn 59 = .ok (.iload 5, 2) := by decide +kernel
theorem dX0_learn_61 : decode cX0_learn 61 = .ok (.ifCond .eq 10, 3) := by decide +kernel
theorem dX0_learn_64 : decode cX0_learn 64 = .ok (.iload_n 2, 1) := by decide +kernel
theorem dX0_learn_65 : decode cX0_learn 65 = .ok (.iload 4, 2) := by decide +kernel
theorem dX0_learn_67 : decode cX0_learn 67 = .ok (.iadd, 1) := by decide +kernel
theorem dX0_learn_68 : decode cX0_learn 68 = .ok (.goto 4, 3) := by decide +kernel
theorem dX0_learn_71 : decode cX0_learn 71 = .ok (.iconst (-1), 1) := by decide +kernel
theorem dX0_learn_72 : decode cX0_learn 72 = .ok (.ireturn, 1) := by decide +kernel
theorem dX0_canFetch_0 : decode cX0_canFetch 0 = .ok (.iload_n 2, 1) := by decide +kernel
theorem dX0_canFetch_1 : decode cX0_canFetch 1 = .ok (.ifCond .lt 38, 3) := by decide +kernel
theorem dX0_canFetch_4 : decode cX0_canFetch 4 = .ok (.iload_n 2, 1) := by decide +kernel
theorem dX0_canFetch_5 : decode cX0_canFetch 5 = .ok (.bipush 64, 2) := by decide +kernel
theorem dX0_canFetch_7 : decode cX0_canFetch 7 = .ok (.if_icmp .ge 32, 3) := by decide +kernel
theorem dX0_canFetch_10 : decode cX0_canFetch 10 = .ok (.aload_n 0, 1) := by decide +kernel
theorem dX0_canFetch_11 : decode cX0_canFetch 11 = .ok (.getfield 11, 3) := by decide +kernel
theorem dX0_canFetch_14 : decode cX0_canFetch 14 = .ok (.iload_n 1, 1) := by decide +kernel
theorem dX0_canFetch_15 : decode cX0_canFetch 15 = .ok (.bipush 64, 2) := by decide +kernel
theorem dX0_canFetch_17 : decode cX0_canFetch 17 = .ok (.imul, 1) := by decide +kernel
theorem dX0_canFetch_18 : decode cX0_canFetch 18 = .ok (.iload_n 2, 1) := by decide +kernel
theorem dX0_canFetch_19 : decode cX0_canFetch 19 = .ok (.iadd, 1) := by decide +kernel
theorem dX0_canFetch_20 : decode cX0_canFetch 20 = .ok (.caload, 1) := by decide +kernel
theorem dX0_canFetch_21 : decode cX0_canFetch 21 = .ok (.bipush 45, 2) := by decide +kernel
theorem dX0_canFetch_23 : decode cX0_canFetch 23 = .ok (.if_icmp .ne 16, 3) := by decide +kernel
theorem dX0_canFetch_26 : decode cX0_canFetch 26 = .ok (.aload_n 0, 1) := by decide +kernel
theorem dX0_canFetch_27 : decode cX0_canFetch 27 = .ok (.iload_n 2, 1) := by decide +kernel
theorem dX0_canFetch_28 : decode cX0_canFetch 28 = .ok (.invokevirtual 55, 3) := by decide +kernel
theorem dX0_canFetch_31 : decode cX0_canFetch 31 = .ok (.iconst (-1), 1) := by decide +kernel
theorem dX0_canFetch_32 : decode cX0_canFetch 32 = .ok (.if_icmp .ne 7, 3) := by decide +kernel
theorem dX0_canFetch_35 : decode cX0_canFetch 35 = .ok (.iconst 1, 1) := by decide +kernel
theorem dX0_canFetch_36 : decode cX0_canFetch 36 = .ok (.goto 4, 3) := by decide +kernel
theorem dX0_canFetch_39 : decode cX0_canFetch 39 = .ok (.iconst 0, 1) := by decide +kernel
theorem dX0_canFetch_40 : decode cX0_canFetch 40 = .ok (.ireturn, 1) := by decide +kernel
theorem dX0_fetch_0 : decode cX0_fetch 0 = .ok (.aload_n 0, 1) := by decide +kernel
theorem dX0_fetch_1 : decode cX0_fetch 1 = .ok (.iload_n 1, 1) := by decide +kernel
theorem dX0_fetch_2 : decode cX0_fetch 2 = .ok (.iload_n 2, 1) := by decide +kernel
theorem dX0_fetch_3 : decode cX0_fetch 3 = .ok (.invokevirtual 66, 3) := by decide +kernel
theorem dX0_fetch_6 : decode cX0_fetch 6 = .ok (.pop, 1) := by decide +kernel
theorem dX0_fetch_7 : decode cX0_fetch 7 = .ok (.aload_n 0, 1) := by decide +kernel
theorem dX0_fetch_8 : decode cX0_fetch 8 = .ok (.iload_n 1, 1) := by decide +kernel
theorem dX0_fetch_9 : decode cX0_fetch 9 = .ok (.iload_n 2, 1) := by decide +kernel
theorem dX0_fetch_10 : decode cX0_fetch 10 = .ok (.invokevirtual 74, 3) := by decide +kernel
theorem dX0_fetch_13 : decode cX0_fetch 13 = .ok (.aload_n 0, 1) := by decide +kernel
theorem dX0_fetch_14 : decode cX0_fetch 14 = .ok (.getfield 22, 3) := by decide +kernel
theorem dX0_fetch_17 : decode cX0_fetch 17 = .ok (.iload_n 1, 1) := by decide +kernel
theorem dX0_fetch_18 : decode cX0_fetch 18 = .ok (.bipush 64, 2) := by decide +kernel
theorem dX0_fetch_20 : decode cX0_fetch 20 = .ok (.imul, 1) := by decide +kernel
theorem dX0_fetch_21 : decode cX0_fetch 21 = .ok (.iload_n 2, 1) := by decide +kernel
theorem dX0_fetch_22 : decode cX0_fetch 22 = .ok (.iadd, 1) := by decide +kernel
theorem dX0_fetch_23 : decode cX0_fetch 23 = .ok (.iconst 1, 1) := by decide +kernel
theorem dX0_fetch_24 : decode cX0_fetch 24 = .ok (.bastore, 1) := by decide +kernel
theorem dX0_fetch_25 : decode cX0_fetch 25 = .ok (.aload_n 0, 1) := by decide +kernel
theorem dX0_fetch_26 : decode cX0_fetch 26 = .ok (.getfield 35, 3) := by decide +kernel
theorem dX0_fetch_29 : decode cX0_fetch 29 = .ok (.iload_n 1, 1) := by decide +kernel
theorem dX0_fetch_30 : decode cX0_fetch 30 = .ok (.dup2, 1) := by decide +kernel
theorem dX0_fetch_31 : decode cX0_fetch 31 = .ok (.iaload, 1) := by decide +kernel
theorem dX0_fetch_32 : decode cX0_fetch 32 = .ok (.iconst 1, 1) := by decide +kernel
theorem dX0_fetch_33 : decode cX0_fetch 33 = .ok (.iadd, 1) := by decide +kernel
theorem dX0_fetch_34 : decode cX0_fetch 34 = .ok (.iastore, 1) := by decide +kernel
theorem dX0_fetch_35 : decode cX0_fetch 35 = .ok (.return_, 1) := by decide +kernel
theorem dX1_init_0 : decode cX1_init 0 = .ok (.aload_n 0, 1) := by decide +kernel
theorem dX1_init_1 : decode cX1_init 1 = .ok (.iload_n 1, 1) := by decide +kernel
theorem dX1_init_2 : decode cX1_init 2 = .ok (.iload_n 2, 1) := by decide +kernel
theorem dX1_init_3 : decode cX1_init 3 = .ok (.iconst (-1), 1) := by decide +kernel
theorem dX1_init_4 : decode cX1_init 4 = .ok (.iconst (-1), 1) := by decide +kernel
theorem dX1_init_5 : decode cX1_init 5 = .ok (.iconst 0, 1) := by decide +kernel
theorem dX1_init_6 : decode cX1_init 6 = .ok (.bipush 45, 2) := by decide +kernel
theorem dX1_init_8 : decode cX1_init 8 = .ok (.invokespecial 5, 3) := by decide +kernel
theorem dX1_init_11 : decode cX1_init 11 = .ok (.return_, 1) := by decide +kernel
theorem dX1_init__0 : decode cX1_init_ 0 = .ok (.aload_n 0, 1) := by decide +kernel
theorem dX1_init__1 : decode cX1_init_ 1 = .ok (.invokespecial 9, 3) := by decide +kernel
theorem dX1_init__4 : decode cX1_init_ 4 = .ok (.aload_n 0, 1) := by decide +kernel
theorem dX1_init__5 : decode cX1_init_ 5 = .ok (.iload_n 1, 1) := by decide +kernel
theorem dX1_init__6 : decode cX1_init_ 6 = .ok (.putfield 14, 3) := by decide +kernel
theorem dX1_init__9 : decode cX1_init_ 9 = .ok (.aload_n 0, 1) := by decide +kernel
theorem dX1_init__10 : decode cX1_init_ 10 = .ok (.iload_n 2, 1) := by decide +kernel
theorem dX1_init__11 : decode cX1_init_ 11 = .ok (.putfield 18, 3) := by decide +kernel
theorem dX1_init__14 : decode cX1_init_ 14 = .ok (.aload_n 0, 1) := by decide +kernel
theorem dX1_init__15 : decode cX1_init_ 15 = .ok (.iload_n 3, 1) := by decide +kernel
theorem dX1_init__16 : decode cX1_init_ 16 = .ok (.putfield 21, 3) := by decide +kernel
theorem dX1_init__19 : decode cX1_init_ 19 = .ok (.aload_n 0, 1) := by decide +kernel
theorem dX1_init__20 : decode cX1_init_ 20 = .ok (.iload 4, 2) := by decide +kernel
theorem dX1_init__22 : decode cX1_init_ 22 = .ok (.putfield 24, 3) := by decide +kernel
theorem dX1_init__25 : decode cX1_init_ 25 = .ok (.aload_n 0, 1) := by decide +kernel
theorem dX1_init__26 : decode cX1_init_ 26 = .ok (.iload 5, 2) := by decide +kernel
theorem dX1_init__28 : decode cX1_init_ 28 = .ok (.putfield 27, 3) := by decide +kernel
theorem dX1_init__31 : decode cX1_init_ 31 = .ok (.aload_n 0, 1) := by decide +kernel
theorem dX1_init__32 : decode cX1_init_ 32 = .ok (.iload 6, 2) := by decide +kernel
theorem dX1_init__34 : decode cX1_init_ 34 = .ok (.putfield 30, 3) := by decide +kernel
theorem dX1_init__37 : decode cX1_init_ 37 = .ok (.return_, 1) := by decide +kernel
theorem dX1_isAccess_0 : decode cX1_isAccess 0 = .ok (.aload_n 0, 1) := by decide +kernel
theorem dX1_isAccess_1 : decode cX1_isAccess 1 = .ok (.getfield 14, 3) := by decide +kernel
theorem dX1_isAccess_4 : decode cX1_isAccess 4 = .ok (.ifCond .eq 11, 3) := by decide +kernel
theorem dX1_isAccess_7 : decode cX1_isAccess 7 = .ok (.aload_n 0, 1) := by decide +kernel
theorem dX1_isAccess_8 : decode cX1_isAccess 8 = .ok (.getfield 14, 3) := by decide +kernel
theorem dX1_isAccess_11 : decode cX1_isAccess 11 = .ok (.iconst 1, 1) := by decide +kernel
theorem dX1_isAccess_12 : decode cX1_isAccess 12 = .ok (.if_icmp .ne 7, 3) := by decide +kernel
theorem dX1_isAccess_15 : decode cX1_isAccess 15 = .ok (.iconst 1, 1) := by decide +kernel
theorem dX1_isAccess_16 : decode cX1_isAccess 16 = .ok (.goto 4, 3) := by decide +kernel
theorem dX1_isAccess_19 : decode cX1_isAccess 19 = .ok (.iconst 0, 1) := by decide +kernel
theorem dX1_isAccess_20 : decode cX1_isAccess 20 = .ok (.ireturn, 1) := by decide +kernel
theorem dX1_isWrite_0 : decode cX1_isWrite 0 = .ok (.aload_n 0, 1) := by decide +kernel
theorem dX1_isWrite_1 : decode cX1_isWrite 1 = .ok (.getfield 14, 3) := by decide +kernel
theorem dX1_isWrite_4 : decode cX1_isWrite 4 = .ok (.iconst 1, 1) := by decide +kernel
theorem dX1_isWrite_5 : decode cX1_isWrite 5 = .ok (.if_icmp .ne 7, 3) := by decide +kernel
theorem dX1_isWrite_8 : decode cX1_isWrite 8 = .ok (.iconst 1, 1) := by decide +kernel
theorem dX1_isWrite_9 : decode cX1_isWrite 9 = .ok (.goto 4, 3) := by decide +kernel
theorem dX1_isWrite_12 : decode cX1_isWrite 12 = .ok (.iconst 0, 1) := by decide +kernel
theorem dX1_isWrite_13 : decode cX1_isWrite 13 = .ok (.ireturn, 1) := by decide +kernel
theorem dX2_init_0 : decode cX2_init 0 = .ok (.aload_n 0, 1) := by decide +kernel
theorem dX2_init_1 : decode cX2_init 1 = .ok (.invokespecial 3, 3) := by decide +kernel
theorem dX2_init_4 : decode cX2_init 4 = .ok (.aload_n 0, 1) := by decide +kernel
theorem dX2_init_5 : decode cX2_init 5 = .ok (.bipush 12, 2) := by decide +kernel
theorem dX2_init_7 : decode cX2_init 7 = .ok (.newarray .int, 2) := by decide +kernel
theorem dX2_init_9 : decode cX2_init 9 = .ok (.putfield 9, 3) := by decide +kernel
theorem dX2_init_12 : decode cX2_init 12 = .ok (.aload_n 0, 1) := by decide +kernel
theorem dX2_init_13 : decode cX2_init 13 = .ok (.bipush 12, 2) := by decide +kernel
theorem dX2_init_15 : decode cX2_init 15 = .ok (.newarray .int, 2) := by decide +kernel
theorem dX2_init_17 : decode cX2_init 17 = .ok (.putfield 15, 3) := by decide +kernel
theorem dX2_init_20 : decode cX2_init 20 = .ok (.aload_n 0, 1) := by decide +kernel
theorem dX2_init_21 : decode cX2_init 21 = .ok (.bipush 12, 2) := by decide +kernel
theorem dX2_init_23 : decode cX2_init 23 = .ok (.newarray .int, 2) := by decide +kernel
theorem dX2_init_25 : decode cX2_init 25 = .ok (.putfield 18, 3) := by decide +kernel
theorem dX2_init_28 : decode cX2_init 28 = .ok (.aload_n 0, 1) := by decide +kernel
theorem dX2_init_29 : decode cX2_init 29 = .ok (.iconst 0, 1) := by decide +kernel
theorem dX2_init_30 : decode cX2_init 30 = .ok (.putfield 21, 3) := by decide +kernel
theorem dX2_init_33 : decode cX2_init 33 = .ok (.return_, 1) := by decide +kernel
theorem dX2_isFull_0 : decode cX2_isFull 0 = .ok (.aload_n 0, 1) := by decide +kernel
theorem dX2_isFull_1 : decode cX2_isFull 1 = .ok (.getfield 21, 3) := by decide +kernel
theorem dX2_isFull_4 : decode cX2_isFull 4 = .ok (.bipush 12, 2) := by decide +kernel
theorem dX2_isFull_6 : decode cX2_isFull 6 = .ok (.if_icmp .lt 7, 3) := by decide +kernel
theorem dX2_isFull_9 : decode cX2_isFull 9 = .ok (.iconst 1, 1) := by decide +kernel
theorem dX2_isFull_10 : decode cX2_isFull 10 = .ok (.goto 4, 3) := by decide +kernel
theorem dX2_isFull_13 : decode cX2_isFull 13 = .ok (.iconst 0, 1) := by decide +kernel
theorem dX2_isFull_14 : decode cX2_isFull 14 = .ok (.ireturn, 1) := by decide +kernel
theorem dX2_countNames_0 : decode cX2_countNames 0 = .ok (.aload_n 0, 1) := by decide +kernel
theorem dX2_countNames_1 : decode cX2_countNames 1 = .ok (.getfield 21, 3) := by decide +kernel
theorem dX2_countNames_4 : decode cX2_countNames 4 = .ok (.ireturn, 1) := by decide +kernel
theorem dX2_hasName_0 : decode cX2_hasName 0 = .ok (.iload_n 1, 1) := by decide +kernel
theorem dX2_hasName_1 : decode cX2_hasName 1 = .ok (.ifCond .lt 15, 3) := by decide +kernel
theorem dX2_hasName_4 : decode cX2_hasName 4 = .ok (.iload_n 1, 1) := by decide +kernel
theorem dX2_hasName_5 : decode cX2_hasName 5 = .ok (.aload_n 0, 1) := by decide +kernel
theorem dX2_hasName_6 : decode cX2_hasName 6 = .ok (.getfield 21, 3) := by decide +kernel
theorem dX2_hasName_9 : decode cX2_hasName 9 = .ok (.if_icmp .ge 7, 3) := by decide +kernel
theorem dX2_hasName_12 : decode cX2_hasName 12 = .ok (.iconst 1, 1) := by decide +kernel
theorem dX2_hasName_13 : decode cX2_hasName 13 = .ok (.goto 4, 3) := by decide +kernel
theorem dX2_hasName_16 : decode cX2_hasName 16 = .ok (.iconst 0, 1) := by decide +kernel
theorem dX2_hasName_17 : decode cX2_hasName 17 = .ok (.ireturn, 1) := by decide +kernel
theorem dX2_isPlaced_0 : decode cX2_isPlaced 0 = .ok (.aload_n 0, 1) := by decide +kernel
theorem dX2_isPlaced_1 : decode cX2_isPlaced 1 = .ok (.iload_n 1, 1) := by decide +kernel
theorem dX2_isPlaced_2 : decode cX2_isPlaced 2 = .ok (.invokevirtual 25, 3) := by decide +kernel
theorem dX2_isPlaced_5 : decode cX2_isPlaced 5 = .ok (.ifCond .eq 17, 3) := by decide +kernel
theorem dX2_isPlaced_8 : decode cX2_isPlaced 8 = .ok (.aload_n 0, 1) := by decide +kernel
theorem dX2_isPlaced_9 : decode cX2_isPlaced 9 = .ok (.getfield 15, 3) := by decide +kernel
theorem dX2_isPlaced_12 : decode cX2_isPlaced 12 = .ok (.iload_n 1, 1) := by decide +kernel
theorem dX2_isPlaced_13 : decode cX2_isPlaced 13 = .ok (.iaload, 1) := by decide +kernel
theorem dX2_isPlaced_14 : decode cX2_isPlaced 14 = .ok (.iconst (-1), 1) := by decide +kernel
theorem dX2_isPlaced_15 : decode cX2_isPlaced 15 = .ok (.if_icmp .eq 7, 3) := by decide +kernel
theorem dX2_isPlaced_18 : decode cX2_isPlaced 18 = .ok (.iconst 1, 1) := by decide +kernel
theorem dX2_isPlaced_19 : decode cX2_isPlaced 19 = .ok (.goto 4, 3) := by decide +kernel
theorem dX2_isPlaced_22 : decode cX2_isPlaced 22 = .ok (.iconst 0, 1) := by decide +kernel
theorem dX2_isPlaced_23 : decode cX2_isPlaced 23 = .ok (.ireturn, 1) := by decide +kernel
theorem dX2_hasWord_0 : decode cX2_hasWord 0 = .ok (.aload_n 0, 1) := by decide +kernel
theorem dX2_hasWord_1 : decode cX2_hasWord 1 = .ok (.iload_n 1, 1) := by decide +kernel
theorem dX2_hasWord_2 : decode cX2_hasWord 2 = .ok (.invokevirtual 25, 3) := by decide +kernel
theorem dX2_hasWord_5 : decode cX2_hasWord 5 = .ok (.ifCond .eq 21, 3) := by decide +kernel
theorem dX2_hasWord_8 : decode cX2_hasWord 8 = .ok (.iload_n 2, 1) := by decide +kernel
theorem dX2_hasWord_9 : decode cX2_hasWord 9 = .ok (.ifCond .lt 17, 3) := by decide +kernel
theorem dX2_hasWord_12 : decode cX2_hasWord 12 = .ok (.iload_n 2, 1) := by decide +kernel
theorem dX2_hasWord_13 : decode cX2_hasWord 13 = .ok (.aload_n 0, 1) := by decide +kernel
theorem dX2_hasWord_14 : decode cX2_hasWord 14 = .ok (.getfield 9, 3) := by decide +kernel
theorem dX2_hasWord_17 : decode cX2_hasWord 17 = .ok (.iload_n 1, 1) := by decide +kernel
theorem dX2_hasWord_18 : decode cX2_hasWord 18 = .ok (.iaload, 1) := by decide +kernel
theorem dX2_hasWord_19 : decode cX2_hasWord 19 = .ok (.if_icmp .ge 7, 3) := by decide +kernel
theorem dX2_hasWord_22 : decode cX2_hasWord 22 = .ok (.iconst 1, 1) := by decide +kernel
theorem dX2_hasWord_23 : decode cX2_hasWord 23 = .ok (.goto 4, 3) := by decide +kernel
theorem dX2_hasWord_26 : decode cX2_hasWord 26 = .ok (.iconst 0, 1) := by decide +kernel
theorem dX2_hasWord_27 : decode cX2_hasWord 27 = .ok (.ireturn, 1) := by decide +kernel
theorem dX2_startOf_0 : decode cX2_startOf 0 = .ok (.aload_n 0, 1) := by decide +kernel
theorem dX2_startOf_1 : decode cX2_startOf 1 = .ok (.iload_n 1, 1) := by decide +kernel
theorem dX2_startOf_2 : decode cX2_startOf 2 = .ok (.invokevirtual 25, 3) := by decide +kernel
theorem dX2_startOf_5 : decode cX2_startOf 5 = .ok (.ifCond .eq 12, 3) := by decide +kernel
theorem dX2_startOf_8 : decode cX2_startOf 8 = .ok (.aload_n 0, 1) := by decide +kernel
theorem dX2_startOf_9 : decode cX2_startOf 9 = .ok (.getfield 15, 3) := by decide +kernel
theorem dX2_startOf_12 : decode cX2_startOf 12 = .ok (.iload_n 1, 1) := by decide +kernel
theorem dX2_startOf_13 : decode cX2_startOf 13 = .ok (.iaload, 1) := by decide +kernel
theorem dX2_startOf_14 : decode cX2_startOf 14 = .ok (.goto 4, 3) := by decide +kernel
theorem dX2_startOf_17 : decode cX2_startOf 17 = .ok (.iconst (-1), 1) := by decide +kernel
theorem dX2_startOf_18 : decode cX2_startOf 18 = .ok (.ireturn, 1) := by decide +kernel
theorem dX2_setStart_0 : decode cX2_setStart 0 = .ok (.aload_n 0, 1) := by decide +kernel
theorem dX2_setStart_1 : decode cX2_setStart 1 = .ok (.iload_n 1, 1) := by decide +kernel
theorem dX2_setStart_2 : decode cX2_setStart 2 = .ok (.invokevirtual 25, 3) := by decide +kernel
theorem dX2_setStart_5 : decode cX2_setStart 5 = .ok (.ifCond .eq 10, 3) := by decide +kernel
theorem dX2_setStart_8 : decode cX2_setStart 8 = .ok (.aload_n 0, 1) := by decide +kernel
theorem dX2_setStart_9 : decode cX2_setStart 9 = .ok (.getfield 15, 3) := by decide +kernel
theorem dX2_setStart_12 : decode cX2_setStart 12 = .ok (.iload_n 1, 1) := by decide +kernel
theorem dX2_setStart_13 : decode cX2_setStart 13 = .ok (.iload_n 2, 1) := by decide +kernel
theorem dX2_setStart_14 : decode cX2_setStart 14 = .ok (.iastore, 1) := by decide +kernel
theorem dX2_setStart_15 : decode cX2_setStart 15 = .ok (.return_, 1) := by decide +kernel
theorem dX2_addUnplaced_0 : decode cX2_addUnplaced 0 = .ok (.aload_n 0, 1) := by decide +kernel
theorem dX2_addUnplaced_1 : decode cX2_addUnplaced 1 = .ok (.invokevirtual 29, 3) := by decide +kernel
theorem dX2_addUnplaced_4 : decode cX2_addUnplaced 4 = .ok (.ifCond .eq 5, 3) := by decide +kernel
theorem dX2_addUnplaced_7 : decode cX2_addUnplaced 7 = .ok (.iconst (-1), 1) := by decide +kernel
theorem dX2_addUnplaced_8 : decode cX2_addUnplaced 8 = .ok (.ireturn, 1) := by decide +kernel
theorem dX2_addUnplaced_9 : decode cX2_addUnplaced 9 = .ok (.aload_n 0, 1) := by decide +kernel
theorem dX2_addUnplaced_10 : decode cX2_addUnplaced 10 = .ok (.getfield 9, 3) := by decide +kernel
theorem dX2_addUnplaced_13 : decode cX2_addUnplaced 13 = .ok (.aload_n 0, 1) := by decide +kernel
theorem dX2_addUnplaced_14 : decode cX2_addUnplaced 14 = .ok (.getfield 21, 3) := by decide +kernel
theorem dX2_addUnplaced_17 : decode cX2_addUnplaced 17 = .ok (.iload_n 1, 1) := by decide +kernel
theorem dX2_addUnplaced_18 : decode cX2_addUnplaced 18 = .ok (.iastore, 1) := by decide +kernel
theorem dX2_addUnplaced_19 : decode cX2_addUnplaced 19 = .ok (.aload_n 0, 1) := by decide +kernel
theorem dX2_addUnplaced_20 : decode cX2_addUnplaced 20 = .ok (.getfield 15, 3) := by decide +kernel
theorem dX2_addUnplaced_23 : decode cX2_addUnplaced 23 = .ok (.aload_n 0, 1) := by decide +kernel
theorem dX2_addUnplaced_24 : decode cX2_addUnplaced 24 = .ok (.getfield 21, 3) := by decide +kernel
theorem dX2_addUnplaced_27 : decode cX2_addUnplaced 27 = .ok (.iconst (-1), 1) := by decide +kernel
theorem dX2_addUnplaced_28 : decode cX2_addUnplaced 28 = .ok (.iastore, 1) := by decide +kernel
theorem dX2_addUnplaced_29 : decode cX2_addUnplaced 29 = .ok (.aload_n 0, 1) := by decide +kernel
theorem dX2_addUnplaced_30 : decode cX2_addUnplaced 30 = .ok (.dup, 1) := by decide +kernel
theorem dX2_addUnplaced_31 : decode cX2_addUnplaced 31 = .ok (.getfield 21, 3) := by decide +kernel
theorem dX2_addUnplaced_34 : decode cX2_addUnplaced 34 = .ok (.iconst 1, 1) := by decide +kernel
theorem dX2_addUnplaced_35 : decode cX2_addUnplaced 35 = .ok (.iadd, 1) := by decide +kernel
theorem dX2_addUnplaced_36 : decode cX2_addUnplaced 36 = .ok (.putfield 21, 3) := by decide +kernel
theorem dX2_addUnplaced_39 : decode cX2_addUnplaced 39 = .ok (.aload_n 0, 1) := by decide +kernel
theorem dX2_addUnplaced_40 : decode cX2_addUnplaced 40 = .ok (.getfield 21, 3) := by decide +kernel
theorem dX2_addUnplaced_43 : decode cX2_addUnplaced 43 = .ok (.iconst 1, 1) := by decide +kernel
theorem dX2_addUnplaced_44 : decode cX2_addUnplaced 44 = .ok (.isub, 1) := by decide +kernel
theorem dX2_addUnplaced_45 : decode cX2_addUnplaced 45 = .ok (.ireturn, 1) := by decide +kernel
theorem dX2_isInMemory_0 : decode cX2_isInMemory 0 = .ok (.aload_n 0, 1) := by decide +kernel
theorem dX2_isInMemory_1 : decode cX2_isInMemory 1 = .ok (.iload_n 1, 1) := by decide +kernel
theorem dX2_isInMemory_2 : decode cX2_isInMemory 2 = .ok (.invokevirtual 25, 3) := by decide +kernel
theorem dX2_isInMemory_5 : decode cX2_isInMemory 5 = .ok (.ifCond .eq 25, 3) := by decide +kernel
theorem dX2_isInMemory_8 : decode cX2_isInMemory 8 = .ok (.iload_n 2, 1) := by decide +kernel
theorem dX2_isInMemory_9 : decode cX2_isInMemory 9 = .ok (.ifCond .lt 21, 3) := by decide +kernel
theorem dX2_isInMemory_12 : decode cX2_isInMemory 12 = .ok (.iload_n 2, 1) := by decide +kernel
theorem dX2_isInMemory_13 : decode cX2_isInMemory 13 = .ok (.sipush 512, 3) := by decide +kernel
theorem dX2_isInMemory_16 : decode cX2_isInMemory 16 = .ok (.aload_n 0, 1) := by decide +kernel
theorem dX2_isInMemory_17 : decode cX2_isInMemory 17 = .ok (.getfield 9, 3) := by decide +kernel
theorem dX2_isInMemory_20 : decode cX2_isInMemory 20 = .ok (.iload_n 1, 1) := by decide +kernel
theorem dX2_isInMemory_21 : decode cX2_isInMemory 21 = .ok (.iaload, 1) := by decide +kernel
theorem dX2_isInMemory_22 : decode cX2_isInMemory 22 = .ok (.isub, 1) := by decide +kernel
theorem dX2_isInMemory_23 : decode cX2_isInMemory 23 = .ok (.if_icmp .gt 7, 3) := by decide +kernel
theorem dX2_isInMemory_26 : decode cX2_isInMemory 26 = .ok (.iconst 1, 1) := by decide +kernel
theorem dX2_isInMemory_27 : decode cX2_isInMemory 27 = .ok (.goto 4, 3) := by decide +kernel
theorem dX2_isInMemory_30 : decode cX2_isInMemory 30 = .ok (.iconst 0, 1) := by decide +kernel
theorem dX2_isInMemory_31 : decode cX2_isInMemory 31 = .ok (.ireturn, 1) := by decide +kernel
theorem dX2_isFree_0 : decode cX2_isFree 0 = .ok (.aload_n 0, 1) := by decide +kernel
theorem dX2_isFree_1 : decode cX2_isFree 1 = .ok (.iload_n 1, 1) := by decide +kernel
theorem dX2_isFree_2 : decode cX2_isFree 2 = .ok (.invokevirtual 25, 3) := by decide +kernel
theorem dX2_isFree_5 : decode cX2_isFree 5 = .ok (.ifCond .ne 5, 3) := by decide +kernel
theorem dX2_isFree_8 : decode cX2_isFree 8 = .ok (.iconst 0, 1) := by decide +kernel
theorem dX2_isFree_9 : decode cX2_isFree 9 = .ok (.ireturn, 1) := by decide +kernel
theorem dX2_isFree_10 : decode cX2_isFree 10 = .ok (.iconst 0, 1) := by decide +kernel
theorem dX2_isFree_11 : decode cX2_isFree 11 = .ok (.istore_n 3, 1) := by decide +kernel
theorem dX2_isFree_12 : decode cX2_isFree 12 = .ok (.iload_n 3, 1) := by decide +kernel
theorem dX2_isFree_13 : decode cX2_isFree 13 = .ok (.aload_n 0, 1) := by decide +kernel
theorem dX2_isFree_14 : decode cX2_isFree 14 = .ok (.getfield 21, 3) := by decide +kernel
theorem dX2_isFree_17 : decode cX2_isFree 17 = .ok (.if_icmp .ge 56, 3) := by decide +kernel
theorem dX2_isFree_20 : decode cX2_isFree 20 = .ok (.aload_n 0, 1) := by decide +kernel
theorem dX2_isFree_21 : decode cX2_isFree 21 = .ok (.getfield 15, 3) := by decide +kernel
theorem dX2_isFree_24 : decode cX2_isFree 24 = .ok (.iload_n 3, 1) := by decide +kernel
theorem dX2_isFree_25 : decode cX2_isFree 25 = .ok (.iaload, 1) := by decide +kernel
theorem dX2_isFree_26 : decode cX2_isFree 26 = .ok (.istore 4, 2) := by decide +kernel
theorem dX2_isFree_28 : decode cX2_isFree 28 = .ok (.iload_n 3, 1) := by decide +kernel
theorem dX2_isFree_29 : decode cX2_isFree 29 = .ok (.iload_n 1, 1) := by decide +kernel
theorem dX2_isFree_30 : decode cX2_isFree 30 = .ok (.if_icmp .eq 37, 3) := by decide +kernel
theorem dX2_isFree_33 : decode cX2_isFree 33 = .ok (.iload 4, 2) := by decide +kernel
theorem dX2_isFree_35 : decode cX2_isFree 35 = .ok (.iconst (-1), 1) := by decide +kernel
theorem dX2_isFree_36 : decode cX2_isFree 36 = .ok (.if_icmp .eq 31, 3) := by decide +kernel
theorem dX2_isFree_39 : decode cX2_isFree 39 = .ok (.iload 4, 2) := by decide +kernel
theorem dX2_isFree_41 : decode cX2_isFree 41 = .ok (.iload_n 2, 1) := by decide +kernel
theorem dX2_isFree_42 : decode cX2_isFree 42 = .ok (.aload_n 0, 1) := by decide +kernel
theorem dX2_isFree_43 : decode cX2_isFree 43 = .ok (.getfield 9, 3) := by decide +kernel
theorem dX2_isFree_46 : decode cX2_isFree 46 = .ok (.iload_n 1, 1) := by decide +kernel
theorem dX2_isFree_47 : decode cX2_isFree 47 = .ok (.iaload, 1) := by decide +kernel
theorem dX2_isFree_48 : decode cX2_isFree 48 = .ok (.iadd, 1) := by decide +kernel
theorem dX2_isFree_49 : decode cX2_isFree 49 = .ok (.if_icmp .ge 18, 3) := by decide +kernel
theorem dX2_isFree_52 : decode cX2_isFree 52 = .ok (.iload_n 2, 1) := by decide +kernel
theorem dX2_isFree_53 : decode cX2_isFree 53 = .ok (.iload 4, 2) := by decide +kernel
theorem dX2_isFree_55 : decode cX2_isFree 55 = .ok (.aload_n 0, 1) := by decide +kernel
theorem dX2_isFree_56 : decode cX2_isFree 56 = .ok (.getfield 9, 3) := by decide +kernel
theorem dX2_isFree_59 : decode cX2_isFree 59 = .ok (.iload_n 3, 1) := by decide +kernel
theorem dX2_isFree_60 : decode cX2_isFree 60 = .ok (.iaload, 1) := by decide +kernel
theorem dX2_isFree_61 : decode cX2_isFree 61 = .ok (.iadd, 1) := by decide +kernel
theorem dX2_isFree_62 : decode cX2_isFree 62 = .ok (.if_icmp .ge 5, 3) := by decide +kernel
theorem dX2_isFree_65 : decode cX2_isFree 65 = .ok (.iconst 0, 1) := by decide +kernel
theorem dX2_isFree_66 : decode cX2_isFree 66 = .ok (.ireturn, 1) := by decide +kernel
theorem dX2_isFree_67 : decode cX2_isFree 67 = .ok (.iinc 3 1, 3) := by decide +kernel
theorem dX2_isFree_70 : decode cX2_isFree 70 = .ok (.goto (-58), 3) := by decide +kernel
theorem dX2_isFree_73 : decode cX2_isFree 73 = .ok (.iconst 1, 1) := by decide +kernel
theorem dX2_isFree_74 : decode cX2_isFree 74 = .ok (.ireturn, 1) := by decide +kernel
theorem dX2_findAt_0 : decode cX2_findAt 0 = .ok (.iconst 0, 1) := by decide +kernel
theorem dX2_findAt_1 : decode cX2_findAt 1 = .ok (.istore_n 2, 1) := by decide +kernel
theorem dX2_findAt_2 : decode cX2_findAt 2 = .ok (.iload_n 2, 1) := by decide +kernel
theorem dX2_findAt_3 : decode cX2_findAt 3 = .ok (.aload_n 0, 1) := by decide +kernel
theorem dX2_findAt_4 : decode cX2_findAt 4 = .ok (.getfield 21, 3) := by decide +kernel
theorem dX2_findAt_7 : decode cX2_findAt 7 = .ok (.if_icmp .ge 40, 3) := by decide +kernel
theorem dX2_findAt_10 : decode cX2_findAt 10 = .ok (.aload_n 0, 1) := by decide +kernel
theorem dX2_findAt_11 : decode cX2_findAt 11 = .ok (.getfield 15, 3) := by decide +kernel
theorem dX2_findAt_14 : decode cX2_findAt 14 = .ok (.iload_n 2, 1) := by decide +kernel
theorem dX2_findAt_15 : decode cX2_findAt 15 = .ok (.iaload, 1) := by decide +kernel
theorem dX2_findAt_16 : decode cX2_findAt 16 = .ok (.istore_n 3, 1) := by decide +kernel
theorem dX2_findAt_17 : decode cX2_findAt 17 = .ok (.iload_n 3, 1) := by decide +kernel
theorem dX2_findAt_18 : decode cX2_findAt 18 = .ok (.iconst (-1), 1) := by decide +kernel
theorem dX2_findAt_19 : decode cX2_findAt 19 = .ok (.if_icmp .eq 22, 3) := by decide +kernel
theorem dX2_findAt_22 : decode cX2_findAt 22 = .ok (.iload_n 3, 1) := by decide +kernel
theorem dX2_findAt_23 : decode cX2_findAt 23 = .ok (.iload_n 1, 1) := by decide +kernel
theorem dX2_findAt_24 : decode cX2_findAt 24 = .ok (.if_icmp .gt 17, 3) := by decide +kernel
theorem dX2_findAt_27 : decode cX2_findAt 27 = .ok (.iload_n 1, 1) := by decide +kernel
theorem dX2_findAt_28 : decode cX2_findAt 28 = .ok (.iload_n 3, 1) := by decide +kernel
theorem dX2_findAt_29 : decode cX2_findAt 29 = .ok (.aload_n 0, 1) := by decide +kernel
theorem dX2_findAt_30 : decode cX2_findAt 30 = .ok (.getfield 9, 3) := by decide +kernel
theorem dX2_findAt_33 : decode cX2_findAt 33 = .ok (.iload_n 2, 1) := by decide +kernel
theorem dX2_findAt_34 : decode cX2_findAt 34 = .ok (.iaload, 1) := by decide +kernel
theorem dX2_findAt_35 : decode cX2_findAt 35 = .ok (.iadd, 1) := by decide +kernel
theorem dX2_findAt_36 : decode cX2_findAt 36 = .ok (.if_icmp .ge 5, 3) := by decide +kernel
theorem dX2_findAt_39 : decode cX2_findAt 39 = .ok (.iload_n 2, 1) := by decide +kernel
theorem dX2_findAt_40 : decode cX2_findAt 40 = .ok (.ireturn, 1) := by decide +kernel
theorem dX2_findAt_41 : decode cX2_findAt 41 = .ok (.iinc 2 1, 3) := by decide +kernel
theorem dX2_findAt_44 : decode cX2_findAt 44 = .ok (.goto (-42), 3) := by decide +kernel
theorem dX2_findAt_47 : decode cX2_findAt 47 = .ok (.iconst (-1), 1) := by decide +kernel
theorem dX2_findAt_48 : decode cX2_findAt 48 = .ok (.ireturn, 1) := by decide +kernel
theorem dX2_isOnOneLine_0 : decode cX2_isOnOneLine 0 = .ok (.aload_n 0, 1) := by decide +kernel
theorem dX2_isOnOneLine_1 : decode cX2_isOnOneLine 1 = .ok (.iload_n 1, 1) := by decide +kernel
theorem dX2_isOnOneLine_2 : decode cX2_isOnOneLine 2 = .ok (.invokevirtual 33, 3) := by decide +kernel
theorem dX2_isOnOneLine_5 : decode cX2_isOnOneLine 5 = .ok (.ifCond .eq 11, 3) := by decide +kernel
theorem dX2_isOnOneLine_8 : decode cX2_isOnOneLine 8 = .ok (.aload_n 0, 1) := by decide +kernel
theorem dX2_isOnOneLine_9 : decode cX2_isOnOneLine 9 = .ok (.iload_n 2, 1) := by decide +kernel
theorem dX2_isOnOneLine_10 : decode cX2_isOnOneLine 10 = .ok (.invokevirtual 33, 3) := by decide +kernel
theorem dX2_isOnOneLine_13 : decode cX2_isOnOneLine 13 = .ok (.ifCond .ne 5, 3) := by decide +kernel
theorem dX2_isOnOneLine_16 : decode cX2_isOnOneLine 16 = .ok (.iconst 0, 1) := by decide +kernel
theorem dX2_isOnOneLine_17 : decode cX2_isOnOneLine 17 = .ok (.ireturn, 1) := by decide +kernel
theorem dX2_isOnOneLine_18 : decode cX2_isOnOneLine 18 = .ok (.aload_n 0, 1) := by decide +kernel
theorem dX2_isOnOneLine_19 : decode cX2_isOnOneLine 19 = .ok (.getfield 15, 3) := by decide +kernel
theorem dX2_isOnOneLine_22 : decode cX2_isOnOneLine 22 = .ok (.iload_n 1, 1) := by decide +kernel
theorem dX2_isOnOneLine_23 : decode cX2_isOnOneLine 23 = .ok (.iaload, 1) := by decide +kernel
theorem dX2_isOnOneLine_24 : decode cX2_isOnOneLine 24 = .ok (.bipush 8, 2) := by decide +kernel
theorem dX2_isOnOneLine_26 : decode cX2_isOnOneLine 26 = .ok (.idiv, 1) := by decide +kernel
theorem dX2_isOnOneLine_27 : decode cX2_isOnOneLine 27 = .ok (.aload_n 0, 1) := by decide +kernel
theorem dX2_isOnOneLine_28 : decode cX2_isOnOneLine 28 = .ok (.iload_n 2, 1) := by decide +kernel
theorem dX2_isOnOneLine_29 : decode cX2_isOnOneLine 29 = .ok (.invokevirtual 36, 3) := by decide +kernel
theorem dX2_isOnOneLine_32 : decode cX2_isOnOneLine 32 = .ok (.if_icmp .gt 24, 3) := by decide +kernel
theorem dX2_isOnOneLine_35 : decode cX2_isOnOneLine 35 = .ok (.aload_n 0, 1) := by decide +kernel
theorem dX2_isOnOneLine_36 : decode cX2_isOnOneLine 36 = .ok (.getfield 15, 3) := by decide +kernel
theorem dX2_isOnOneLine_39 : decode cX2_isOnOneLine 39 = .ok (.iload_n 2, 1) := by decide +kernel
theorem dX2_isOnOneLine_40 : decode cX2_isOnOneLine 40 = .ok (.iaload, 1) := by decide +kernel
theorem dX2_isOnOneLine_41 : decode cX2_isOnOneLine 41 = .ok (.bipush 8, 2) := by decide +kernel
theorem dX2_isOnOneLine_43 : decode cX2_isOnOneLine 43 = .ok (.idiv, 1) := by decide +kernel
theorem dX2_isOnOneLine_44 : decode cX2_isOnOneLine 44 = .ok (.aload_n 0, 1) := by decide +kernel
theorem dX2_isOnOneLine_45 : decode cX2_isOnOneLine 45 = .ok (.iload_n 1, 1) := by decide +kernel
theorem dX2_isOnOneLine_46 : decode cX2_isOnOneLine 46 = .ok (.invokevirtual 36, 3) := by decide +kernel
theorem dX2_isOnOneLine_49 : decode cX2_isOnOneLine 49 = .ok (.if_icmp .gt 7, 3) := by decide +kernel
theorem dX2_isOnOneLine_52 : decode cX2_isOnOneLine 52 = .ok (.iconst 1, 1) := by decide +kernel
theorem dX2_isOnOneLine_53 : decode cX2_isOnOneLine 53 = .ok (.goto 4, 3) := by decide +kernel
theorem dX2_isOnOneLine_56 : decode cX2_isOnOneLine 56 = .ok (.iconst 0, 1) := by decide +kernel
theorem dX2_isOnOneLine_57 : decode cX2_isOnOneLine 57 = .ok (.ireturn, 1) := by decide +kernel
theorem dX2_lastLineOf_0 : decode cX2_lastLineOf 0 = .ok (.aload_n 0, 1) := by decide +kernel
theorem dX2_lastLineOf_1 : decode cX2_lastLineOf 1 = .ok (.iload_n 1, 1) := by decide +kernel
theorem dX2_lastLineOf_2 : decode cX2_lastLineOf 2 = .ok (.invokevirtual 33, 3) := by decide +kernel
theorem dX2_lastLineOf_5 : decode cX2_lastLineOf 5 = .ok (.ifCond .eq 24, 3) := by decide +kernel
theorem dX2_lastLineOf_8 : decode cX2_lastLineOf 8 = .ok (.aload_n 0, 1) := by decide +kernel
theorem dX2_lastLineOf_9 : decode cX2_lastLineOf 9 = .ok (.getfield 15, 3) := by decide +kernel
theorem dX2_lastLineOf_12 : decode cX2_lastLineOf 12 = .ok (.iload_n 1, 1) := by decide +kernel
theorem dX2_lastLineOf_13 : decode cX2_lastLineOf 13 = .ok (.iaload, 1) := by decide +kernel
theorem dX2_lastLineOf_14 : decode cX2_lastLineOf 14 = .ok (.aload_n 0, 1) := by decide +kernel
theorem dX2_lastLineOf_15 : decode cX2_lastLineOf 15 = .ok (.getfield 9, 3) := by decide +kernel
theorem dX2_lastLineOf_18 : decode cX2_lastLineOf 18 = .ok (.iload_n 1, 1) := by decide +kernel
theorem dX2_lastLineOf_19 : decode cX2_lastLineOf 19 = .ok (.iaload, 1) := by decide +kernel
theorem dX2_lastLineOf_20 : decode cX2_lastLineOf 20 = .ok (.iadd, 1) := by decide +kernel
theorem dX2_lastLineOf_21 : decode cX2_lastLineOf 21 = .ok (.iconst 1, 1) := by decide +kernel
theorem dX2_lastLineOf_22 : decode cX2_lastLineOf 22 = .ok (.isub, 1) := by decide +kernel
theorem dX2_lastLineOf_23 : decode cX2_lastLineOf 23 = .ok (.bipush 8, 2) := by decide +kernel
theorem dX2_lastLineOf_25 : decode cX2_lastLineOf 25 = .ok (.idiv, 1) := by decide +kernel
theorem dX2_lastLineOf_26 : decode cX2_lastLineOf 26 = .ok (.goto 4, 3) := by decide +kernel
theorem dX2_lastLineOf_29 : decode cX2_lastLineOf 29 = .ok (.iconst (-1), 1) := by decide +kernel
theorem dX2_lastLineOf_30 : decode cX2_lastLineOf 30 = .ok (.ireturn, 1) := by decide +kernel
theorem dX2_placeAll_0 : decode cX2_placeAll 0 = .ok (.aload_n 0, 1) := by decide +kernel
theorem dX2_placeAll_1 : decode cX2_placeAll 1 = .ok (.getfield 15, 3) := by decide +kernel
theorem dX2_placeAll_4 : decode cX2_placeAll 4 = .ok (.iconst 0, 1) := by decide +kernel
theorem dX2_placeAll_5 : decode cX2_placeAll 5 = .ok (.aload_n 0, 1) := by decide +kernel
theorem dX2_placeAll_6 : decode cX2_placeAll 6 = .ok (.getfield 18, 3) := by decide +kernel
theorem dX2_placeAll_9 : decode cX2_placeAll 9 = .ok (.iconst 0, 1) := by decide +kernel
theorem dX2_placeAll_10 : decode cX2_placeAll 10 = .ok (.bipush 12, 2) := by decide +kernel
theorem dX2_placeAll_12 : decode cX2_placeAll 12 = .ok (.invokestatic 40, 3) := by decide +kernel
theorem dX2_placeAll_15 : decode cX2_placeAll 15 = .ok (.iconst 0, 1) := by decide +kernel
theorem dX2_placeAll_16 : decode cX2_placeAll 16 = .ok (.istore_n 2, 1) := by decide +kernel
theorem dX2_placeAll_17 : decode cX2_placeAll 17 = .ok (.iconst 0, 1) := by decide +kernel
theorem dX2_placeAll_18 : decode cX2_placeAll 18 = .ok (.istore_n 3, 1) := by decide +kernel
theorem dX2_placeAll_19 : decode cX2_placeAll 19 = .ok (.iload_n 3, 1) := by decide +kernel
theorem dX2_placeAll_20 : decode cX2_placeAll 20 = .ok (.aload_n 0, 1) := by decide +kernel
theorem dX2_placeAll_21 : decode cX2_placeAll 21 = .ok (.getfield 21, 3) := by decide +kernel
theorem dX2_placeAll_24 : decode cX2_placeAll 24 = .ok (.if_icmp .ge 61, 3) := by decide +kernel
theorem dX2_placeAll_27 : decode cX2_placeAll 27 = .ok (.aload_n 0, 1) := by decide +kernel
theorem dX2_placeAll_28 : decode cX2_placeAll 28 = .ok (.getfield 15, 3) := by decide +kernel
theorem dX2_placeAll_31 : decode cX2_placeAll 31 = .ok (.iload_n 3, 1) := by decide +kernel
theorem dX2_placeAll_32 : decode cX2_placeAll 32 = .ok (.iaload, 1) := by decide +kernel
theorem dX2_placeAll_33 : decode cX2_placeAll 33 = .ok (.iconst (-1), 1) := by decide +kernel
theorem dX2_placeAll_34 : decode cX2_placeAll 34 = .ok (.if_icmp .ne 45, 3) := by decide +kernel
theorem dX2_placeAll_37 : decode cX2_placeAll 37 = .ok (.aload_n 0, 1) := by decide +kernel
theorem dX2_placeAll_38 : decode cX2_placeAll 38 = .ok (.iload_n 3, 1) := by decide +kernel
theorem dX2_placeAll_39 : decode cX2_placeAll 39 = .ok (.iload_n 1, 1) := by decide +kernel
theorem dX2_placeAll_40 : decode cX2_placeAll 40 = .ok (.invokevirtual 46, 3) := by decide +kernel
theorem dX2_placeAll_43 : decode cX2_placeAll 43 = .ok (.istore 4, 2) := by decide +kernel
theorem dX2_placeAll_45 : decode cX2_placeAll 45 = .ok (.iload 4, 2) := by decide +kernel
theorem dX2_placeAll_47 : decode cX2_placeAll 47 = .ok (.iconst (-1), 1) := by decide +kernel
theorem dX2_placeAll_48 : decode cX2_placeAll 48 = .ok (.if_icmp .ne 20, 3) := by decide +kernel
theorem dX2_placeAll_51 : decode cX2_placeAll 51 = .ok (.aload_n 0, 1) := by decide +kernel
theorem dX2_placeAll_52 : decode cX2_placeAll 52 = .ok (.getfield 18, 3) := by decide +kernel
theorem dX2_placeAll_55 : decode cX2_placeAll 55 = .ok (.iconst 0, 1) := by decide +kernel
theorem dX2_placeAll_56 : decode cX2_placeAll 56 = .ok (.aload_n 0, 1) := by decide +kernel
theorem dX2_placeAll_57 : decode cX2_placeAll 57 = .ok (.getfield 15, 3) := by decide +kernel
theorem dX2_placeAll_60 : decode cX2_placeAll 60 = .ok (.iconst 0, 1) := by decide +kernel
theorem dX2_placeAll_61 : decode cX2_placeAll 61 = .ok (.bipush 12, 2) := by decide +kernel
theorem dX2_placeAll_63 : decode cX2_placeAll 63 = .ok (.invokestatic 40, 3) := by decide +kernel
theorem dX2_placeAll_66 : decode cX2_placeAll 66 = .ok (.iconst (-1), 1) := by decide +kernel
theorem dX2_placeAll_67 : decode cX2_placeAll 67 = .ok (.ireturn, 1) := by decide +kernel
theorem dX2_placeAll_68 : decode cX2_placeAll 68 = .ok (.aload_n 0, 1) := by decide +kernel
theorem dX2_placeAll_69 : decode cX2_placeAll 69 = .ok (.getfield 15, 3) := by decide +kernel
theorem dX2_placeAll_72 : decode cX2_placeAll 72 = .ok (.iload_n 3, 1) := by decide +kernel
theorem dX2_placeAll_73 : decode cX2_placeAll 73 = .ok (.iload 4, 2) := by decide +kernel
theorem dX2_placeAll_75 : decode cX2_placeAll 75 = .ok (.iastore, 1) := by decide +kernel
theorem dX2_placeAll_76 : decode cX2_placeAll 76 = .ok (.iinc 2 1, 3) := by decide +kernel
theorem dX2_placeAll_79 : decode cX2_placeAll 79 = .ok (.iinc 3 1, 3) := by decide +kernel
theorem dX2_placeAll_82 : decode cX2_placeAll 82 = .ok (.goto (-63), 3) := by decide +kernel
theorem dX2_placeAll_85 : decode cX2_placeAll 85 = .ok (.iload_n 2, 1) := by decide +kernel
theorem dX2_placeAll_86 : decode cX2_placeAll 86 = .ok (.ireturn, 1) := by decide +kernel
theorem dX2_lowestFor_0 : decode cX2_lowestFor 0 = .ok (.iload_n 2, 1) := by decide +kernel
theorem dX2_lowestFor_1 : decode cX2_lowestFor 1 = .ok (.iconst 1, 1) := by decide +kernel
theorem dX2_lowestFor_2 : decode cX2_lowestFor 2 = .ok (.invokestatic 50, 3) := by decide +kernel
theorem dX2_lowestFor_5 : decode cX2_lowestFor 5 = .ok (.istore_n 3, 1) := by decide +kernel
theorem dX2_lowestFor_6 : decode cX2_lowestFor 6 = .ok (.iconst 0, 1) := by decide +kernel
theorem dX2_lowestFor_7 : decode cX2_lowestFor 7 = .ok (.istore 4, 2) := by decide +kernel
theorem dX2_lowestFor_9 : decode cX2_lowestFor 9 = .ok (.iload 4, 2) := by decide +kernel
theorem dX2_lowestFor_11 : decode cX2_lowestFor 11 = .ok (.sipush 512, 3) := by decide +kernel
theorem dX2_lowestFor_14 : decode cX2_lowestFor 14 = .ok (.if_icmp .ge 35, 3) := by decide +kernel
theorem dX2_lowestFor_17 : decode cX2_lowestFor 17 = .ok (.aload_n 0, 1) := by decide +kernel
theorem dX2_lowestFor_18 : decode cX2_lowestFor 18 = .ok (.iload_n 1, 1) := by decide +kernel
theorem dX2_lowestFor_19 : decode cX2_lowestFor 19 = .ok (.iload 4, 2) := by decide +kernel
theorem dX2_lowestFor_21 : decode cX2_lowestFor 21 = .ok (.invokevirtual 55, 3) := by decide +kernel
theorem dX2_lowestFor_24 : decode cX2_lowestFor 24 = .ok (.ifCond .eq 16, 3) := by decide +kernel
theorem dX2_lowestFor_27 : decode cX2_lowestFor 27 = .ok (.aload_n 0, 1) := by decide +kernel
theorem dX2_lowestFor_28 : decode cX2_lowestFor 28 = .ok (.iload_n 1, 1) := by decide +kernel
theorem dX2_lowestFor_29 : decode cX2_lowestFor 29 = .ok (.iload 4, 2) := by decide +kernel
theorem dX2_lowestFor_31 : decode cX2_lowestFor 31 = .ok (.invokevirtual 59, 3) := by decide +kernel
theorem dX2_lowestFor_34 : decode cX2_lowestFor 34 = .ok (.ifCond .eq 6, 3) := by decide +kernel
theorem dX2_lowestFor_37 : decode cX2_lowestFor 37 = .ok (.iload 4, 2) := by decide +kernel
theorem dX2_lowestFor_39 : decode cX2_lowestFor 39 = .ok (.ireturn, 1) := by decide +kernel
theorem dX2_lowestFor_40 : decode cX2_lowestFor 40 = .ok (.iload 4, 2) := by decide +kernel
theorem dX2_lowestFor_42 : decode cX2_lowestFor 42 = .ok (.iload_n 3, 1) := by decide +kernel
theorem dX2_lowestFor_43 : decode cX2_lowestFor 43 = .ok (.iadd, 1) := by decide +kernel
theorem dX2_lowestFor_44 : decode cX2_lowestFor 44 = .ok (.istore 4, 2) := by decide +kernel
theorem dX2_lowestFor_46 : decode cX2_lowestFor 46 = .ok (.goto (-37), 3) := by decide +kernel
theorem dX2_lowestFor_49 : decode cX2_lowestFor 49 = .ok (.iconst (-1), 1) := by decide +kernel
theorem dX2_lowestFor_50 : decode cX2_lowestFor 50 = .ok (.ireturn, 1) := by decide +kernel
theorem dX3_init_0 : decode cX3_init 0 = .ok (.aload_n 0, 1) := by decide +kernel
theorem dX3_init_1 : decode cX3_init 1 = .ok (.invokespecial 1, 3) := by decide +kernel
theorem dX3_init_4 : decode cX3_init 4 = .ok (.aload_n 0, 1) := by decide +kernel
theorem dX3_init_5 : decode cX3_init 5 = .ok (.new 7, 3) := by decide +kernel
theorem dX3_init_8 : decode cX3_init 8 = .ok (.dup, 1) := by decide +kernel
theorem dX3_init_9 : decode cX3_init 9 = .ok (.invokespecial 9, 3) := by decide +kernel
theorem dX3_init_12 : decode cX3_init 12 = .ok (.putfield 10, 3) := by decide +kernel
theorem dX3_init_15 : decode cX3_init 15 = .ok (.aload_n 0, 1) := by decide +kernel
theorem dX3_init_16 : decode cX3_init 16 = .ok (.new 16, 3) := by decide +kernel
theorem dX3_init_19 : decode cX3_init 19 = .ok (.dup, 1) := by decide +kernel
theorem dX3_init_20 : decode cX3_init 20 = .ok (.invokespecial 18, 3) := by decide +kernel
theorem dX3_init_23 : decode cX3_init 23 = .ok (.putfield 19, 3) := by decide +kernel
theorem dX3_init_26 : decode cX3_init 26 = .ok (.aload_n 0, 1) := by decide +kernel
theorem dX3_init_27 : decode cX3_init 27 = .ok (.new 16, 3) := by decide +kernel
theorem dX3_init_30 : decode cX3_init 30 = .ok (.dup, 1) := by decide +kernel
theorem dX3_init_31 : decode cX3_init 31 = .ok (.invokespecial 18, 3) := by decide +kernel
theorem dX3_init_34 : decode cX3_init 34 = .ok (.putfield 23, 3) := by decide +kernel
theorem dX3_init_37 : decode cX3_init 37 = .ok (.aload_n 0, 1) := by decide +kernel
theorem dX3_init_38 : decode cX3_init 38 = .ok (.new 26, 3) := by decide +kernel
theorem dX3_init_41 : decode cX3_init 41 = .ok (.dup, 1) := by decide +kernel
theorem dX3_init_42 : decode cX3_init 42 = .ok (.invokespecial 28, 3) := by decide +kernel
theorem dX3_init_45 : decode cX3_init 45 = .ok (.putfield 29, 3) := by decide +kernel
theorem dX3_init_48 : decode cX3_init 48 = .ok (.aload_n 0, 1) := by decide +kernel
theorem dX3_init_49 : decode cX3_init 49 = .ok (.new 26, 3) := by decide +kernel
theorem dX3_init_52 : decode cX3_init 52 = .ok (.dup, 1) := by decide +kernel
theorem dX3_init_53 : decode cX3_init 53 = .ok (.invokespecial 28, 3) := by decide +kernel
theorem dX3_init_56 : decode cX3_init 56 = .ok (.putfield 33, 3) := by decide +kernel
theorem dX3_init_59 : decode cX3_init 59 = .ok (.return_, 1) := by decide +kernel
theorem dX3_addName_0 : decode cX3_addName 0 = .ok (.iload_n 1, 1) := by decide +kernel
theorem dX3_addName_1 : decode cX3_addName 1 = .ok (.iconst 1, 1) := by decide +kernel
theorem dX3_addName_2 : decode cX3_addName 2 = .ok (.if_icmp .lt 9, 3) := by decide +kernel
theorem dX3_addName_5 : decode cX3_addName 5 = .ok (.iload_n 1, 1) := by decide +kernel
theorem dX3_addName_6 : decode cX3_addName 6 = .ok (.bipush 32, 2) := by decide +kernel
theorem dX3_addName_8 : decode cX3_addName 8 = .ok (.if_icmp .le 13, 3) := by decide +kernel
theorem dX3_addName_11 : decode cX3_addName 11 = .ok (.new 36, 3) := by decide +kernel
theorem dX3_addName_14 : decode cX3_addName 14 = .ok (.dup, 1) := by decide +kernel
theorem dX3_addName_15 : decode cX3_addName 15 = .ok (.ldc 38, 2) := by decide +kernel
theorem dX3_addName_17 : decode cX3_addName 17 = .ok (.invokespecial 40, 3) := by decide +kernel
theorem dX3_addName_20 : decode cX3_addName 20 = .ok (.athrow, 1) := by decide +kernel
theorem dX3_addName_21 : decode cX3_addName 21 = .ok (.aload_n 0, 1) := by decide +kernel
theorem dX3_addName_22 : decode cX3_addName 22 = .ok (.getfield 10, 3) := by decide +kernel
theorem dX3_addName_25 : decode cX3_addName 25 = .ok (.invokevirtual 43, 3) := by decide +kernel
theorem dX3_addName_28 : decode cX3_addName 28 = .ok (.ifCond .eq 13, 3) := by decide +kernel
theorem dX3_addName_31 : decode cX3_addName 31 = .ok (.new 47, 3) := by decide +kernel
theorem dX3_addName_34 : decode cX3_addName 34 = .ok (.dup, 1) := by decide +kernel
theorem dX3_addName_35 : decode cX3_addName 35 = .ok (.ldc 49, 2) := by decide +kernel
theorem dX3_addName_37 : decode cX3_addName 37 = .ok (.invokespecial 51, 3) := by decide +kernel
theorem dX3_addName_40 : decode cX3_addName 40 = .ok (.athrow, 1) := by decide +kernel
theorem dX3_addName_41 : decode cX3_addName 41 = .ok (.aload_n 0, 1) := by decide +kernel
theorem dX3_addName_42 : decode cX3_addName 42 = .ok (.getfield 10, 3) := by decide +kernel
theorem dX3_addName_45 : decode cX3_addName 45 = .ok (.iload_n 1, 1) := by decide +kernel
theorem dX3_addName_46 : decode cX3_addName 46 = .ok (.invokevirtual 52, 3) := by decide +kernel
theorem dX3_addName_49 : decode cX3_addName 49 = .ok (.ireturn, 1) := by decide +kernel
theorem dX3_place_0 : decode cX3_place 0 = .ok (.aload_n 0, 1) := by decide +kernel
theorem dX3_place_1 : decode cX3_place 1 = .ok (.iload_n 1, 1) := by decide +kernel
theorem dX3_place_2 : decode cX3_place 2 = .ok (.invokevirtual 56, 3) := by decide +kernel
theorem dX3_place_5 : decode cX3_place 5 = .ok (.aload_n 0, 1) := by decide +kernel
theorem dX3_place_6 : decode cX3_place 6 = .ok (.getfield 10, 3) := by decide +kernel
theorem dX3_place_9 : decode cX3_place 9 = .ok (.iload_n 1, 1) := by decide +kernel
theorem dX3_place_10 : decode cX3_place 10 = .ok (.iload_n 2, 1) := by decide +kernel
theorem dX3_place_11 : decode cX3_place 11 = .ok (.invokevirtual 60, 3) := by decide +kernel
theorem dX3_place_14 : decode cX3_place 14 = .ok (.ifCond .ne 13, 3) := by decide +kernel
theorem dX3_place_17 : decode cX3_place 17 = .ok (.new 36, 3) := by decide +kernel
theorem dX3_place_20 : decode cX3_place 20 = .ok (.dup, 1) := by decide +kernel
theorem dX3_place_21 : decode cX3_place 21 = .ok (.ldc 64, 2) := by decide +kernel
theorem dX3_place_23 : decode cX3_place 23 = .ok (.invokespecial 40, 3) := by decide +kernel
theorem dX3_place_26 : decode cX3_place 26 = .ok (.athrow, 1) := by decide +kernel
theorem dX3_place_27 : decode cX3_place 27 = .ok (.aload_n 0, 1) := by decide +kernel
theorem dX3_place_28 : decode cX3_place 28 = .ok (.getfield 10, 3) := by decide +kernel
theorem dX3_place_31 : decode cX3_place 31 = .ok (.iload_n 1, 1) := by decide +kernel
theorem dX3_place_32 : decode cX3_place 32 = .ok (.invokevirtual 66, 3) := by decide +kernel
theorem dX3_place_35 : decode cX3_place 35 = .ok (.ifCond .eq 13, 3) := by decide +kernel
theorem dX3_place_38 : decode cX3_place 38 = .ok (.new 47, 3) := by decide +kernel
theorem dX3_place_41 : decode cX3_place 41 = .ok (.dup, 1) := by decide +kernel
theorem dX3_place_42 : decode cX3_place 42 = .ok (.ldc 70, 2) := by decide +kernel
theorem dX3_place_44 : decode cX3_place 44 = .ok (.invokespecial 51, 3) := by decide +kernel
theorem dX3_place_47 : decode cX3_place 47 = .ok (.athrow, 1) := by decide +kernel
theorem dX3_place_48 : decode cX3_place 48 = .ok (.aload_n 0, 1) := by decide +kernel
theorem dX3_place_49 : decode cX3_place 49 = .ok (.getfield 10, 3) := by decide +kernel
theorem dX3_place_52 : decode cX3_place 52 = .ok (.iload_n 1, 1) := by decide +kernel
theorem dX3_place_53 : decode cX3_place 53 = .ok (.iload_n 2, 1) := by decide +kernel
theorem dX3_place_54 : decode cX3_place 54 = .ok (.invokevirtual 72, 3) := by decide +kernel
theorem dX3_place_57 : decode cX3_place 57 = .ok (.ifCond .ne 13, 3) := by decide +kernel
theorem dX3_place_60 : decode cX3_place 60 = .ok (.new 47, 3) := by decide +kernel
theorem dX3_place_63 : decode cX3_place 63 = .ok (.dup, 1) := by decide +kernel
theorem dX3_place_64 : decode cX3_place 64 = .ok (.ldc 75, 2) := by decide +kernel
theorem dX3_place_66 : decode cX3_place 66 = .ok (.invokespecial 51, 3) := by decide +kernel
theorem dX3_place_69 : decode cX3_place 69 = .ok (.athrow, 1) := by decide +kernel
theorem dX3_place_70 : decode cX3_place 70 = .ok (.aload_n 0, 1) := by decide +kernel
theorem dX3_place_71 : decode cX3_place 71 = .ok (.getfield 10, 3) := by decide +kernel
theorem dX3_place_74 : decode cX3_place 74 = .ok (.iload_n 1, 1) := by decide +kernel
theorem dX3_place_75 : decode cX3_place 75 = .ok (.iload_n 2, 1) := by decide +kernel
theorem dX3_place_76 : decode cX3_place 76 = .ok (.invokevirtual 77, 3) := by decide +kernel
theorem dX3_place_79 : decode cX3_place 79 = .ok (.iload_n 2, 1) := by decide +kernel
theorem dX3_place_80 : decode cX3_place 80 = .ok (.bipush 8, 2) := by decide +kernel
theorem dX3_place_82 : decode cX3_place 82 = .ok (.idiv, 1) := by decide +kernel
theorem dX3_place_83 : decode cX3_place 83 = .ok (.ireturn, 1) := by decide +kernel
theorem dX3_link_0 : decode cX3_link 0 = .ok (.iload_n 1, 1) := by decide +kernel
theorem dX3_link_1 : decode cX3_link 1 = .ok (.iconst 1, 1) := by decide +kernel
theorem dX3_link_2 : decode cX3_link 2 = .ok (.if_icmp .lt 9, 3) := by decide +kernel
theorem dX3_link_5 : decode cX3_link 5 = .ok (.iload_n 1, 1) := by decide +kernel
theorem dX3_link_6 : decode cX3_link 6 = .ok (.bipush 64, 2) := by decide +kernel
theorem dX3_link_8 : decode cX3_link 8 = .ok (.if_icmp .le 13, 3) := by decide +kernel
theorem dX3_link_11 : decode cX3_link 11 = .ok (.new 36, 3) := by decide +kernel
theorem dX3_link_14 : decode cX3_link 14 = .ok (.dup, 1) := by decide +kernel
theorem dX3_link_15 : decode cX3_link 15 = .ok (.ldc 81, 2) := by decide +kernel
theorem dX3_link_17 : decode cX3_link 17 = .ok (.invokespecial 40, 3) := by decide +kernel
theorem dX3_link_20 : decode cX3_link 20 = .ok (.athrow, 1) := by decide +kernel
theorem dX3_link_21 : decode cX3_link 21 = .ok (.aload_n 0, 1) := by decide +kernel
theorem dX3_link_22 : decode cX3_link 22 = .ok (.getfield 10, 3) := by decide +kernel
theorem dX3_link_25 : decode cX3_link 25 = .ok (.iload_n 1, 1) := by decide +kernel
theorem dX3_link_26 : decode cX3_link 26 = .ok (.invokevirtual 83, 3) := by decide +kernel
theorem dX3_link_29 : decode cX3_link 29 = .ok (.istore_n 2, 1) := by decide +kernel
theorem dX3_link_30 : decode cX3_link 30 = .ok (.iload_n 2, 1) := by decide +kernel
theorem dX3_link_31 : decode cX3_link 31 = .ok (.iconst (-1), 1) := by decide +kernel
theorem dX3_link_32 : decode cX3_link 32 = .ok (.if_icmp .ne 13, 3) := by decide +kernel
theorem dX3_link_35 : decode cX3_link 35 = .ok (.new 86, 3) := by decide +kernel
theorem dX3_link_38 : decode cX3_link 38 = .ok (.dup, 1) := by decide +kernel
theorem dX3_link_39 : decode cX3_link 39 = .ok (.ldc 88, 2) := by decide +kernel
theorem dX3_link_41 : decode cX3_link 41 = .ok (.invokespecial 90, 3) := by decide +kernel
theorem dX3_link_44 : decode cX3_link 44 = .ok (.athrow, 1) := by decide +kernel
theorem dX3_link_45 : decode cX3_link 45 = .ok (.iload_n 2, 1) := by decide +kernel
theorem dX3_link_46 : decode cX3_link 46 = .ok (.ireturn, 1) := by decide +kernel
theorem dX3_take_0 : decode cX3_take 0 = .ok (.aload_n 0, 1) := by decide +kernel
theorem dX3_take_1 : decode cX3_take 1 = .ok (.iload_n 1, 1) := by decide +kernel
theorem dX3_take_2 : decode cX3_take 2 = .ok (.invokevirtual 91, 3) := by decide +kernel
theorem dX3_take_5 : decode cX3_take 5 = .ok (.aload_n 0, 1) := by decide +kernel
theorem dX3_take_6 : decode cX3_take 6 = .ok (.getfield 10, 3) := by decide +kernel
theorem dX3_take_9 : decode cX3_take 9 = .ok (.iload_n 1, 1) := by decide +kernel
theorem dX3_take_10 : decode cX3_take 10 = .ok (.invokevirtual 94, 3) := by decide +kernel
theorem dX3_take_13 : decode cX3_take 13 = .ok (.istore_n 2, 1) := by decide +kernel
theorem dX3_take_14 : decode cX3_take 14 = .ok (.aload_n 0, 1) := by decide +kernel
theorem dX3_take_15 : decode cX3_take 15 = .ok (.getfield 10, 3) := by decide +kernel
theorem dX3_take_18 : decode cX3_take 18 = .ok (.iload_n 1, 1) := by decide +kernel
theorem dX3_take_19 : decode cX3_take 19 = .ok (.iconst (-1), 1) := by decide +kernel
theorem dX3_take_20 : decode cX3_take 20 = .ok (.invokevirtual 77, 3) := by decide +kernel
theorem dX3_take_23 : decode cX3_take 23 = .ok (.iload_n 2, 1) := by decide +kernel
theorem dX3_take_24 : decode cX3_take 24 = .ok (.ireturn, 1) := by decide +kernel
theorem dX3_addressOf_0 : decode cX3_addressOf 0 = .ok (.aload_n 0, 1) := by decide +kernel
theorem dX3_addressOf_1 : decode cX3_addressOf 1 = .ok (.iload_n 1, 1) := by decide +kernel
theorem dX3_addressOf_2 : decode cX3_addressOf 2 = .ok (.iload_n 2, 1) := by decide +kernel
theorem dX3_addressOf_3 : decode cX3_addressOf 3 = .ok (.invokevirtual 97, 3) := by decide +kernel
theorem dX3_addressOf_6 : decode cX3_addressOf 6 = .ok (.aload_n 0, 1) := by decide +kernel
theorem dX3_addressOf_7 : decode cX3_addressOf 7 = .ok (.getfield 10, 3) := by decide +kernel
theorem dX3_addressOf_10 : decode cX3_addressOf 10 = .ok (.iload_n 1, 1) := by decide +kernel
theorem dX3_addressOf_11 : decode cX3_addressOf 11 = .ok (.invokevirtual 94, 3) := by decide +kernel
theorem dX3_addressOf_14 : decode cX3_addressOf 14 = .ok (.iload_n 2, 1) := by decide +kernel
theorem dX3_addressOf_15 : decode cX3_addressOf 15 = .ok (.iadd, 1) := by decide +kernel
theorem dX3_addressOf_16 : decode cX3_addressOf 16 = .ok (.ireturn, 1) := by decide +kernel
theorem dX3_nameAt_0 : decode cX3_nameAt 0 = .ok (.iload_n 1, 1) := by decide +kernel
theorem dX3_nameAt_1 : decode cX3_nameAt 1 = .ok (.ifCond .lt 10, 3) := by decide +kernel
theorem dX3_nameAt_4 : decode cX3_nameAt 4 = .ok (.iload_n 1, 1) := by decide +kernel
theorem dX3_nameAt_5 : decode cX3_nameAt 5 = .ok (.sipush 512, 3) := by decide +kernel
theorem dX3_nameAt_8 : decode cX3_nameAt 8 = .ok (.if_icmp .lt 13, 3) := by decide +kernel
theorem dX3_nameAt_11 : decode cX3_nameAt 11 = .ok (.new 36, 3) := by decide +kernel
theorem dX3_nameAt_14 : decode cX3_nameAt 14 = .ok (.dup, 1) := by decide +kernel
theorem dX3_nameAt_15 : decode cX3_nameAt 15 = .ok (.ldc 64, 2) := by decide +kernel
theorem dX3_nameAt_17 : decode cX3_nameAt 17 = .ok (.invokespecial 40, 3) := by decide +kernel
theorem dX3_nameAt_20 : decode cX3_nameAt 20 = .ok (.athrow, 1) := by decide +kernel
theorem dX3_nameAt_21 : decode cX3_nameAt 21 = .ok (.aload_n 0, 1) := by decide +kernel
theorem dX3_nameAt_22 : decode cX3_nameAt 22 = .ok (.getfield 10, 3) := by decide +kernel
theorem dX3_nameAt_25 : decode cX3_nameAt 25 = .ok (.iload_n 1, 1) := by decide +kernel
theorem dX3_nameAt_26 : decode cX3_nameAt 26 = .ok (.invokevirtual 100, 3) := by decide +kernel
theorem dX3_nameAt_29 : decode cX3_nameAt 29 = .ok (.istore_n 2, 1) := by decide +kernel
theorem dX3_nameAt_30 : decode cX3_nameAt 30 = .ok (.iload_n 2, 1) := by decide +kernel
theorem dX3_nameAt_31 : decode cX3_nameAt 31 = .ok (.iconst (-1), 1) := by decide +kernel
theorem dX3_nameAt_32 : decode cX3_nameAt 32 = .ok (.if_icmp .ne 13, 3) := by decide +kernel
theorem dX3_nameAt_35 : decode cX3_nameAt 35 = .ok (.new 103, 3) := by decide +kernel
theorem dX3_nameAt_38 : decode cX3_nameAt 38 = .ok (.dup, 1) := by decide +kernel
theorem dX3_nameAt_39 : decode cX3_nameAt 39 = .ok (.ldc 105, 2) := by decide +kernel
theorem dX3_nameAt_41 : decode cX3_nameAt 41 = .ok (.invokespecial 107, 3) := by decide +kernel
theorem dX3_nameAt_44 : decode cX3_nameAt 44 = .ok (.athrow, 1) := by decide +kernel
theorem dX3_nameAt_45 : decode cX3_nameAt 45 = .ok (.iload_n 2, 1) := by decide +kernel
theorem dX3_nameAt_46 : decode cX3_nameAt 46 = .ok (.ireturn, 1) := by decide +kernel
theorem dX3_meet_0 : decode cX3_meet 0 = .ok (.aload_n 0, 1) := by decide +kernel
theorem dX3_meet_1 : decode cX3_meet 1 = .ok (.iload_n 1, 1) := by decide +kernel
theorem dX3_meet_2 : decode cX3_meet 2 = .ok (.invokevirtual 56, 3) := by decide +kernel
theorem dX3_meet_5 : decode cX3_meet 5 = .ok (.aload_n 0, 1) := by decide +kernel
theorem dX3_meet_6 : decode cX3_meet 6 = .ok (.iload_n 2, 1) := by decide +kernel
theorem dX3_meet_7 : decode cX3_meet 7 = .ok (.invokevirtual 56, 3) := by decide +kernel
theorem dX3_meet_10 : decode cX3_meet 10 = .ok (.iload_n 1, 1) := by decide +kernel
theorem dX3_meet_11 : decode cX3_meet 11 = .ok (.iload_n 2, 1) := by decide +kernel
theorem dX3_meet_12 : decode cX3_meet 12 = .ok (.if_icmp .ne 13, 3) := by decide +kernel
theorem dX3_meet_15 : decode cX3_meet 15 = .ok (.new 36, 3) := by decide +kernel
theorem dX3_meet_18 : decode cX3_meet 18 = .ok (.dup, 1) := by decide +kernel
theorem dX3_meet_19 : decode cX3_meet 19 = .ok (.ldc 108, 2) := by decide +kernel
theorem dX3_meet_21 : decode cX3_meet 21 = .ok (.invokespecial 40, 3) := by decide +kernel
theorem dX3_meet_24 : decode cX3_meet 24 = .ok (.athrow, 1) := by decide +kernel
theorem dX3_meet_25 : decode cX3_meet 25 = .ok (.aload_n 0, 1) := by decide +kernel
theorem dX3_meet_26 : decode cX3_meet 26 = .ok (.getfield 10, 3) := by decide +kernel
theorem dX3_meet_29 : decode cX3_meet 29 = .ok (.iload_n 1, 1) := by decide +kernel
theorem dX3_meet_30 : decode cX3_meet 30 = .ok (.iload_n 2, 1) := by decide +kernel
theorem dX3_meet_31 : decode cX3_meet 31 = .ok (.invokevirtual 110, 3) := by decide +kernel
theorem dX3_meet_34 : decode cX3_meet 34 = .ok (.ireturn, 1) := by decide +kernel
theorem dX3_read_0 : decode cX3_read 0 = .ok (.aload_n 0, 1) := by decide +kernel
theorem dX3_read_1 : decode cX3_read 1 = .ok (.iconst 0, 1) := by decide +kernel
theorem dX3_read_2 : decode cX3_read 2 = .ok (.iload_n 1, 1) := by decide +kernel
theorem dX3_read_3 : decode cX3_read 3 = .ok (.iload_n 2, 1) := by decide +kernel
theorem dX3_read_4 : decode cX3_read 4 = .ok (.iload_n 3, 1) := by decide +kernel
theorem dX3_read_5 : decode cX3_read 5 = .ok (.invokevirtual 115, 3) := by decide +kernel
theorem dX3_read_8 : decode cX3_read 8 = .ok (.ireturn, 1) := by decide +kernel
theorem dX3_write_0 : decode cX3_write 0 = .ok (.aload_n 0, 1) := by decide +kernel
theorem dX3_write_1 : decode cX3_write 1 = .ok (.iconst 1, 1) := by decide +kernel
theorem dX3_write_2 : decode cX3_write 2 = .ok (.iload_n 1, 1) := by decide +kernel
theorem dX3_write_3 : decode cX3_write 3 = .ok (.iload_n 2, 1) := by decide +kernel
theorem dX3_write_4 : decode cX3_write 4 = .ok (.iload_n 3, 1) := by decide +kernel
theorem dX3_write_5 : decode cX3_write 5 = .ok (.invokevirtual 115, 3) := by decide +kernel
theorem dX3_write_8 : decode cX3_write 8 = .ok (.ireturn, 1) := by decide +kernel
theorem dX3_empty_0 : decode cX3_empty 0 = .ok (.iload_n 1, 1) := by decide +kernel
theorem dX3_empty_1 : decode cX3_empty 1 = .ok (.invokestatic 119, 3) := by decide +kernel
theorem dX3_empty_4 : decode cX3_empty 4 = .ok (.aload_n 0, 1) := by decide +kernel
theorem dX3_empty_5 : decode cX3_empty 5 = .ok (.invokevirtual 122, 3) := by decide +kernel
theorem dX3_empty_8 : decode cX3_empty 8 = .ok (.ifCond .eq 5, 3) := by decide +kernel
theorem dX3_empty_11 : decode cX3_empty 11 = .ok (.iconst 0, 1) := by decide +kernel
theorem dX3_empty_12 : decode cX3_empty 12 = .ok (.ireturn, 1) := by decide +kernel
theorem dX3_empty_13 : decode cX3_empty 13 = .ok (.aload_n 0, 1) := by decide +kernel
theorem dX3_empty_14 : decode cX3_empty 14 = .ok (.getfield 29, 3) := by decide +kernel
theorem dX3_empty_17 : decode cX3_empty 17 = .ok (.new 113, 3) := by decide +kernel
theorem dX3_empty_20 : decode cX3_empty 20 = .ok (.dup, 1) := by decide +kernel
theorem dX3_empty_21 : decode cX3_empty 21 = .ok (.iconst 2, 1) := by decide +kernel
theorem dX3_empty_22 : decode cX3_empty 22 = .ok (.iload_n 1, 1) := by decide +kernel
theorem dX3_empty_23 : decode cX3_empty 23 = .ok (.invokespecial 123, 3) := by decide +kernel
theorem dX3_empty_26 : decode cX3_empty 26 = .ok (.invokeinterface 125 2, 5) := by decide +kernel
theorem dX3_empty_31 : decode cX3_empty 31 = .ok (.pop, 1) := by decide +kernel
theorem dX3_empty_32 : decode cX3_empty 32 = .ok (.aload_n 0, 1) := by decide +kernel
theorem dX3_empty_33 : decode cX3_empty 33 = .ok (.getfield 19, 3) := by decide +kernel
theorem dX3_empty_36 : decode cX3_empty 36 = .ok (.iload_n 1, 1) := by decide +kernel
theorem dX3_empty_37 : decode cX3_empty 37 = .ok (.invokevirtual 131, 3) := by decide +kernel
theorem dX3_empty_40 : decode cX3_empty 40 = .ok (.ireturn, 1) := by decide +kernel
theorem dX3_setAhead_0 : decode cX3_setAhead 0 = .ok (.iload_n 1, 1) := by decide +kernel
theorem dX3_setAhead_1 : decode cX3_setAhead 1 = .ok (.invokestatic 119, 3) := by decide +kernel
theorem dX3_setAhead_4 : decode cX3_setAhead 4 = .ok (.aload_n 0, 1) := by decide +kernel
theorem dX3_setAhead_5 : decode cX3_setAhead 5 = .ok (.getfield 19, 3) := by decide +kernel
theorem dX3_setAhead_8 : decode cX3_setAhead 8 = .ok (.iload_n 1, 1) := by decide +kernel
theorem dX3_setAhead_9 : decode cX3_setAhead 9 = .ok (.invokevirtual 134, 3) := by decide +kernel
theorem dX3_setAhead_12 : decode cX3_setAhead 12 = .ok (.istore_n 3, 1) := by decide +kernel
theorem dX3_setAhead_13 : decode cX3_setAhead 13 = .ok (.aload_n 0, 1) := by decide +kernel
theorem dX3_setAhead_14 : decode cX3_setAhead 14 = .ok (.invokevirtual 122, 3) := by decide +kernel
theorem dX3_setAhead_17 : decode cX3_setAhead 17 = .ok (.ifCond .eq 5, 3) := by decide +kernel
theorem dX3_setAhead_20 : decode cX3_setAhead 20 = .ok (.iload_n 3, 1) := by decide +kernel
theorem dX3_setAhead_21 : decode cX3_setAhead 21 = .ok (.ireturn, 1) := by decide +kernel
theorem dX3_setAhead_22 : decode cX3_setAhead 22 = .ok (.iload_n 2, 1) := by decide +kernel
theorem dX3_setAhead_23 : decode cX3_setAhead 23 = .ok (.ifCond .eq 7, 3) := by decide +kernel
theorem dX3_setAhead_26 : decode cX3_setAhead 26 = .ok (.iconst 3, 1) := by decide +kernel
theorem dX3_setAhead_27 : decode cX3_setAhead 27 = .ok (.goto 4, 3) := by decide +kernel
theorem dX3_setAhead_30 : decode cX3_setAhead 30 = .ok (.iconst 4, 1) := by decide +kernel
theorem dX3_setAhead_31 : decode cX3_setAhead 31 = .ok (.istore 4, 2) := by decide +kernel
theorem dX3_setAhead_33 : decode cX3_setAhead 33 = .ok (.aload_n 0, 1) := by decide +kernel
theorem dX3_setAhead_34 : decode cX3_setAhead 34 = .ok (.getfield 29, 3) := by decide +kernel
theorem dX3_setAhead_37 : decode cX3_setAhead 37 = .ok (.new 113, 3) := by decide +kernel
theorem dX3_setAhead_40 : decode cX3_setAhead 40 = .ok (.dup, 1) := by decide +kernel
theorem dX3_setAhead_41 : decode cX3_setAhead 41 = .ok (.iload 4, 2) := by decide +kernel
theorem dX3_setAhead_43 : decode cX3_setAhead 43 = .ok (.iload_n 1, 1) := by decide +kernel
theorem dX3_setAhead_44 : decode cX3_setAhead 44 = .ok (.invokespecial 123, 3) := by decide +kernel
theorem dX3_setAhead_47 : decode cX3_setAhead 47 = .ok (.invokeinterface 125 2, 5) := by decide +kernel
theorem dX3_setAhead_52 : decode cX3_setAhead 52 = .ok (.pop, 1) := by decide +kernel
theorem dX3_setAhead_53 : decode cX3_setAhead 53 = .ok (.aload_n 0, 1) := by decide +kernel
theorem dX3_setAhead_54 : decode cX3_setAhead 54 = .ok (.getfield 19, 3) := by decide +kernel
theorem dX3_setAhead_57 : decode cX3_setAhead 57 = .ok (.iload_n 1, 1) := by decide +kernel
theorem dX3_setAhead_58 : decode cX3_setAhead 58 = .ok (.iload_n 2, 1) := by decide +kernel
theorem dX3_setAhead_59 : decode cX3_setAhead 59 = .ok (.invokevirtual 137, 3) := by decide +kernel
theorem dX3_setAhead_62 : decode cX3_setAhead 62 = .ok (.iload_n 3, 1) := by decide +kernel
theorem dX3_setAhead_63 : decode cX3_setAhead 63 = .ok (.ireturn, 1) := by decide +kernel
theorem dX3_accesses_0 : decode cX3_accesses 0 = .ok (.aload_n 0, 1) := by decide +kernel
theorem dX3_accesses_1 : decode cX3_accesses 1 = .ok (.getfield 33, 3) := by decide +kernel
theorem dX3_accesses_4 : decode cX3_accesses 4 = .ok (.invokeinterface 141 1, 5) := by decide +kernel
theorem dX3_accesses_9 : decode cX3_accesses 9 = .ok (.ireturn, 1) := by decide +kernel
theorem dX3_costOf_0 : decode cX3_costOf 0 = .ok (.aload_n 0, 1) := by decide +kernel
theorem dX3_costOf_1 : decode cX3_costOf 1 = .ok (.iload_n 1, 1) := by decide +kernel
theorem dX3_costOf_2 : decode cX3_costOf 2 = .ok (.invokevirtual 145, 3) := by decide +kernel
theorem dX3_costOf_5 : decode cX3_costOf 5 = .ok (.aload_n 0, 1) := by decide +kernel
theorem dX3_costOf_6 : decode cX3_costOf 6 = .ok (.getfield 33, 3) := by decide +kernel
theorem dX3_costOf_9 : decode cX3_costOf 9 = .ok (.iload_n 1, 1) := by decide +kernel
theorem dX3_costOf_10 : decode cX3_costOf 10 = .ok (.invokeinterface 148 2, 5) := by decide +kernel
theorem dX3_costOf_15 : decode cX3_costOf 15 = .ok (.checkcast 113, 3) := by decide +kernel
theorem dX3_costOf_18 : decode cX3_costOf 18 = .ok (.getfield 152, 3) := by decide +kernel
theorem dX3_costOf_21 : decode cX3_costOf 21 = .ok (.ireturn, 1) := by decide +kernel
theorem dX3_costByReplay_0 : decode cX3_costByReplay 0 = .ok (.aload_n 0, 1) := by decide +kernel
theorem dX3_costByReplay_1 : decode cX3_costByReplay 1 = .ok (.iload_n 1, 1) := by decide +kernel
theorem dX3_costByReplay_2 : decode cX3_costByReplay 2 = .ok (.invokevirtual 145, 3) := by decide +kernel
theorem dX3_costByReplay_5 : decode cX3_costByReplay 5 = .ok (.aload_n 0, 1) := by decide +kernel
theorem dX3_costByReplay_6 : decode cX3_costByReplay 6 = .ok (.iload_n 1, 1) := by decide +kernel
theorem dX3_costByReplay_7 : decode cX3_costByReplay 7 = .ok (.invokevirtual 156, 3) := by decide +kernel
theorem dX3_costByReplay_10 : decode cX3_costByReplay 10 = .ok (.ireturn, 1) := by decide +kernel
theorem dX3_causeOf_0 : decode cX3_causeOf 0 = .ok (.aload_n 0, 1) := by decide +kernel
theorem dX3_causeOf_1 : decode cX3_causeOf 1 = .ok (.iload_n 1, 1) := by decide +kernel
theorem dX3_causeOf_2 : decode cX3_causeOf 2 = .ok (.invokevirtual 145, 3) := by decide +kernel
theorem dX3_causeOf_5 : decode cX3_causeOf 5 = .ok (.aload_n 0, 1) := by decide +kernel
theorem dX3_causeOf_6 : decode cX3_causeOf 6 = .ok (.getfield 33, 3) := by decide +kernel
theorem dX3_causeOf_9 : decode cX3_causeOf 9 = .ok (.iload_n 1, 1) := by decide +kernel
theorem dX3_causeOf_10 : decode cX3_causeOf 10 = .ok (.invokeinterface 148 2, 5) := by decide +kernel
theorem dX3_causeOf_15 : decode cX3_causeOf 15 = .ok (.checkcast 113, 3) := by decide +kernel
theorem dX3_causeOf_18 : decode cX3_causeOf 18 = .ok (.getfield 159, 3) := by decide +kernel
theorem dX3_causeOf_21 : decode cX3_causeOf 21 = .ok (.ireturn, 1) := by decide +kernel
theorem dX3_state_0 : decode cX3_state 0 = .ok (.iload_n 1, 1) := by decide +kernel
theorem dX3_state_1 : decode cX3_state 1 = .ok (.invokestatic 119, 3) := by decide +kernel
theorem dX3_state_4 : decode cX3_state 4 = .ok (.iload_n 2, 1) := by decide +kernel
theorem dX3_state_5 : decode cX3_state 5 = .ok (.invokestatic 163, 3) := by decide +kernel
theorem dX3_state_8 : decode cX3_state 8 = .ok (.aload_n 0, 1) := by decide +kernel
theorem dX3_state_9 : decode cX3_state 9 = .ok (.getfield 19, 3) := by decide +kernel
theorem dX3_state_12 : decode cX3_state 12 = .ok (.iload_n 1, 1) := by decide +kernel
theorem dX3_state_13 : decode cX3_state 13 = .ok (.iload_n 2, 1) := by decide +kernel
theorem dX3_state_14 : decode cX3_state 14 = .ok (.invokevirtual 166, 3) := by decide +kernel
theorem dX3_state_17 : decode cX3_state 17 = .ok (.ireturn, 1) := by decide +kernel
theorem dX3_owner_0 : decode cX3_owner 0 = .ok (.iload_n 1, 1) := by decide +kernel
theorem dX3_owner_1 : decode cX3_owner 1 = .ok (.invokestatic 163, 3) := by decide +kernel
theorem dX3_owner_4 : decode cX3_owner 4 = .ok (.aload_n 0, 1) := by decide +kernel
theorem dX3_owner_5 : decode cX3_owner 5 = .ok (.getfield 19, 3) := by decide +kernel
theorem dX3_owner_8 : decode cX3_owner 8 = .ok (.iload_n 1, 1) := by decide +kernel
theorem dX3_owner_9 : decode cX3_owner 9 = .ok (.invokevirtual 170, 3) := by decide +kernel
theorem dX3_owner_12 : decode cX3_owner 12 = .ok (.istore_n 2, 1) := by decide +kernel
theorem dX3_owner_13 : decode cX3_owner 13 = .ok (.iload_n 2, 1) := by decide +kernel
theorem dX3_owner_14 : decode cX3_owner 14 = .ok (.iconst (-1), 1) := by decide +kernel
theorem dX3_owner_15 : decode cX3_owner 15 = .ok (.if_icmp .ne 13, 3) := by decide +kernel
theorem dX3_owner_18 : decode cX3_owner 18 = .ok (.new 103, 3) := by decide +kernel
theorem dX3_owner_21 : decode cX3_owner 21 = .ok (.dup, 1) := by decide +kernel
theorem dX3_owner_22 : decode cX3_owner 22 = .ok (.ldc 173, 2) := by decide +kernel
theorem dX3_owner_24 : decode cX3_owner 24 = .ok (.invokespecial 107, 3) := by decide +kernel
theorem dX3_owner_27 : decode cX3_owner 27 = .ok (.athrow, 1) := by decide +kernel
theorem dX3_owner_28 : decode cX3_owner 28 = .ok (.iload_n 2, 1) := by decide +kernel
theorem dX3_owner_29 : decode cX3_owner 29 = .ok (.ireturn, 1) := by decide +kernel
theorem dX3_holders_0 : decode cX3_holders 0 = .ok (.iload_n 1, 1) := by decide +kernel
theorem dX3_holders_1 : decode cX3_holders 1 = .ok (.invokestatic 163, 3) := by decide +kernel
theorem dX3_holders_4 : decode cX3_holders 4 = .ok (.aload_n 0, 1) := by decide +kernel
theorem dX3_holders_5 : decode cX3_holders 5 = .ok (.getfield 19, 3) := by decide +kernel
theorem dX3_holders_8 : decode cX3_holders 8 = .ok (.iload_n 1, 1) := by decide +kernel
theorem dX3_holders_9 : decode cX3_holders 9 = .ok (.invokevirtual 175, 3) := by decide +kernel
theorem dX3_holders_12 : decode cX3_holders 12 = .ok (.ireturn, 1) := by decide +kernel
theorem dX3_lines_0 : decode cX3_lines 0 = .ok (.iload_n 1, 1) := by decide +kernel
theorem dX3_lines_1 : decode cX3_lines 1 = .ok (.invokestatic 119, 3) := by decide +kernel
theorem dX3_lines_4 : decode cX3_lines 4 = .ok (.iconst 0, 1) := by decide +kernel
theorem dX3_lines_5 : decode cX3_lines 5 = .ok (.istore_n 2, 1) := by decide +kernel
theorem dX3_lines_6 : decode cX3_lines 6 = .ok (.iconst 0, 1) := by decide +kernel
theorem dX3_lines_7 : decode cX3_lines 7 = .ok (.istore_n 3, 1) := by decide +kernel
