theorem dX4_notes_108 : decode cX4_notes 108 = .ok (.getfield 70, 3) := by decide +kernel
theorem dX4_notes_111 : decode cX4_notes 111 = .ok (.iload_n 2, 1) := by decide +kernel
theorem dX4_notes_112 : decode cX4_notes 112 = .ok (.iastore, 1) := by decide +kernel
theorem dX4_notes_113 : decode cX4_notes 113 = .ok (.aload_n 0, 1) := by decide +kernel
theorem dX4_notes_114 : decode cX4_notes 114 = .ok (.getfield 57, 3) := by decide +kernel
theorem dX4_notes_117 : decode cX4_notes 117 = .ok (.aload_n 0, 1) := by decide +kernel
theorem dX4_notes_118 : decode cX4_notes 118 = .ok (.getfield 70, 3) := by decide +kernel
theorem dX4_notes_121 : decode cX4_notes 121 = .ok (.iload_n 1, 1) := by decide +kernel
theorem dX4_notes_122 : decode cX4_notes 122 = .ok (.iastore, 1) := by decide +kernel
theorem dX4_notes_123 : decode cX4_notes 123 = .ok (.aload_n 0, 1) := by decide +kernel
theorem dX4_notes_124 : decode cX4_notes 124 = .ok (.getfield 60, 3) := by decide +kernel
theorem dX4_notes_127 : decode cX4_notes 127 = .ok (.aload_n 0, 1) := by decide +kernel
theorem dX4_notes_128 : decode cX4_notes 128 = .ok (.getfield 70, 3) := by decide +kernel
theorem dX4_notes_131 : decode cX4_notes 131 = .ok (.iload 4, 2) := by decide +kernel
theorem dX4_notes_133 : decode cX4_notes 133 = .ok (.castore, 1) := by decide +kernel
theorem dX4_notes_134 : decode cX4_notes 134 = .ok (.aload_n 0, 1) := by decide +kernel
theorem dX4_notes_135 : decode cX4_notes 135 = .ok (.dup, 1) := by decide +kernel
theorem dX4_notes_136 : decode cX4_notes 136 = .ok (.getfield 70, 3) := by decide +kernel
theorem dX4_notes_139 : decode cX4_notes 139 = .ok (.iconst 1, 1) := by decide +kernel
theorem dX4_notes_140 : decode cX4_notes 140 = .ok (.iadd, 1) := by decide +kernel
theorem dX4_notes_141 : decode cX4_notes 141 = .ok (.putfield 70, 3) := by decide +kernel
theorem dX4_notes_144 : decode cX4_notes 144 = .ok (.iload_n 3, 1) := by decide +kernel
theorem dX4_notes_145 : decode cX4_notes 145 = .ok (.ireturn, 1) := by decide +kernel
theorem dX4_uses_0 : decode cX4_uses 0 = .ok (.aload_n 0, 1) := by decide +kernel
theorem dX4_uses_1 : decode cX4_uses 1 = .ok (.dup, 1) := by decide +kernel
theorem dX4_uses_2 : decode cX4_uses 2 = .ok (.getfield 73, 3) := by decide +kernel
theorem dX4_uses_5 : decode cX4_uses 5 = .ok (.iconst 1, 1) := by decide +kernel
theorem dX4_uses_6 : decode cX4_uses 6 = .ok (.iadd, 1) := by decide +kernel
theorem dX4_uses_7 : decode cX4_uses 7 = .ok (.putfield 73, 3) := by decide +kernel
theorem dX4_uses_10 : decode cX4_uses 10 = .ok (.aload_n 0, 1) := by decide +kernel
theorem dX4_uses_11 : decode cX4_uses 11 = .ok (.getfield 20, 3) := by decide +kernel
theorem dX4_uses_14 : decode cX4_uses 14 = .ok (.iload_n 1, 1) := by decide +kernel
theorem dX4_uses_15 : decode cX4_uses 15 = .ok (.iload_n 2, 1) := by decide +kernel
theorem dX4_uses_16 : decode cX4_uses 16 = .ok (.invokestatic 100, 3) := by decide +kernel
theorem dX4_uses_19 : decode cX4_uses 19 = .ok (.aload_n 0, 1) := by decide +kernel
theorem dX4_uses_20 : decode cX4_uses 20 = .ok (.getfield 73, 3) := by decide +kernel
theorem dX4_uses_23 : decode cX4_uses 23 = .ok (.iastore, 1) := by decide +kernel
theorem dX4_uses_24 : decode cX4_uses 24 = .ok (.aload_n 0, 1) := by decide +kernel
theorem dX4_uses_25 : decode cX4_uses 25 = .ok (.getfield 26, 3) := by decide +kernel
theorem dX4_uses_28 : decode cX4_uses 28 = .ok (.iload_n 1, 1) := by decide +kernel
theorem dX4_uses_29 : decode cX4_uses 29 = .ok (.iload_n 2, 1) := by decide +kernel
theorem dX4_uses_30 : decode cX4_uses 30 = .ok (.invokestatic 100, 3) := by decide +kernel
theorem dX4_uses_33 : decode cX4_uses 33 = .ok (.baload, 1) := by decide +kernel
theorem dX4_uses_34 : decode cX4_uses 34 = .ok (.ifCond .eq 13, 3) := by decide +kernel
theorem dX4_uses_37 : decode cX4_uses 37 = .ok (.aload_n 0, 1) := by decide +kernel
theorem dX4_uses_38 : decode cX4_uses 38 = .ok (.getfield 45, 3) := by decide +kernel
theorem dX4_uses_41 : decode cX4_uses 41 = .ok (.iload_n 1, 1) := by decide +kernel
theorem dX4_uses_42 : decode cX4_uses 42 = .ok (.dup2, 1) := by decide +kernel
theorem dX4_uses_43 : decode cX4_uses 43 = .ok (.iaload, 1) := by decide +kernel
theorem dX4_uses_44 : decode cX4_uses 44 = .ok (.iconst 1, 1) := by decide +kernel
theorem dX4_uses_45 : decode cX4_uses 45 = .ok (.iadd, 1) := by decide +kernel
theorem dX4_uses_46 : decode cX4_uses 46 = .ok (.iastore, 1) := by decide +kernel
theorem dX4_uses_47 : decode cX4_uses 47 = .ok (.aload_n 0, 1) := by decide +kernel
theorem dX4_uses_48 : decode cX4_uses 48 = .ok (.getfield 26, 3) := by decide +kernel
theorem dX4_uses_51 : decode cX4_uses 51 = .ok (.iload_n 1, 1) := by decide +kernel
theorem dX4_uses_52 : decode cX4_uses 52 = .ok (.iload_n 2, 1) := by decide +kernel
theorem dX4_uses_53 : decode cX4_uses 53 = .ok (.invokestatic 100, 3) := by decide +kernel
theorem dX4_uses_56 : decode cX4_uses 56 = .ok (.iconst 0, 1) := by decide +kernel
theorem dX4_uses_57 : decode cX4_uses 57 = .ok (.bastore, 1) := by decide +kernel
theorem dX4_uses_58 : decode cX4_uses 58 = .ok (.return_, 1) := by decide +kernel
theorem dX4_learns_0 : decode cX4_learns 0 = .ok (.aload_n 0, 1) := by decide +kernel
theorem dX4_learns_1 : decode cX4_learns 1 = .ok (.getfield 30, 3) := by decide +kernel
theorem dX4_learns_4 : decode cX4_learns 4 = .ok (.iload_n 1, 1) := by decide +kernel
theorem dX4_learns_5 : decode cX4_learns 5 = .ok (.baload, 1) := by decide +kernel
theorem dX4_learns_6 : decode cX4_learns 6 = .ok (.ifCond .ne 4, 3) := by decide +kernel
theorem dX4_learns_9 : decode cX4_learns 9 = .ok (.return_, 1) := by decide +kernel
theorem dX4_learns_10 : decode cX4_learns 10 = .ok (.iload_n 2, 1) := by decide +kernel
theorem dX4_learns_11 : decode cX4_learns 11 = .ok (.aload_n 0, 1) := by decide +kernel
theorem dX4_learns_12 : decode cX4_learns 12 = .ok (.getfield 36, 3) := by decide +kernel
theorem dX4_learns_15 : decode cX4_learns 15 = .ok (.iload_n 1, 1) := by decide +kernel
theorem dX4_learns_16 : decode cX4_learns 16 = .ok (.iaload, 1) := by decide +kernel
theorem dX4_learns_17 : decode cX4_learns 17 = .ok (.isub, 1) := by decide +kernel
theorem dX4_learns_18 : decode cX4_learns 18 = .ok (.istore_n 3, 1) := by decide +kernel
theorem dX4_learns_19 : decode cX4_learns 19 = .ok (.aload_n 0, 1) := by decide +kernel
theorem dX4_learns_20 : decode cX4_learns 20 = .ok (.getfield 33, 3) := by decide +kernel
theorem dX4_learns_23 : decode cX4_learns 23 = .ok (.iload_n 1, 1) := by decide +kernel
theorem dX4_learns_24 : decode cX4_learns 24 = .ok (.iaload, 1) := by decide +kernel
theorem dX4_learns_25 : decode cX4_learns 25 = .ok (.iconst 2, 1) := by decide +kernel
theorem dX4_learns_26 : decode cX4_learns 26 = .ok (.if_icmp .lt 21, 3) := by decide +kernel
theorem dX4_learns_29 : decode cX4_learns 29 = .ok (.iload_n 3, 1) := by decide +kernel
theorem dX4_learns_30 : decode cX4_learns 30 = .ok (.ifCond .eq 17, 3) := by decide +kernel
theorem dX4_learns_33 : decode cX4_learns 33 = .ok (.iload_n 3, 1) := by decide +kernel
theorem dX4_learns_34 : decode cX4_learns 34 = .ok (.aload_n 0, 1) := by decide +kernel
theorem dX4_learns_35 : decode cX4_learns 35 = .ok (.getfield 39, 3) := by decide +kernel
theorem dX4_learns_38 : decode cX4_learns 38 = .ok (.iload_n 1, 1) := by decide +kernel
theorem dX4_learns_39 : decode cX4_learns 39 = .ok (.iaload, 1) := by decide +kernel
theorem dX4_learns_40 : decode cX4_learns 40 = .ok (.if_icmp .ne 7, 3) := by decide +kernel
theorem dX4_learns_43 : decode cX4_learns 43 = .ok (.iconst 1, 1) := by decide +kernel
theorem dX4_learns_44 : decode cX4_learns 44 = .ok (.goto 4, 3) := by decide +kernel
theorem dX4_learns_47 : decode cX4_learns 47 = .ok (.iconst 0, 1) := by decide +kernel
theorem dX4_learns_48 : decode cX4_learns 48 = .ok (.istore 4, 2) := by decide +kernel
theorem dX4_learns_50 : decode cX4_learns 50 = .ok (.aload_n 0, 1) := by decide +kernel
theorem dX4_learns_51 : decode cX4_learns 51 = .ok (.getfield 39, 3) := by decide +kernel
theorem dX4_learns_54 : decode cX4_learns 54 = .ok (.iload_n 1, 1) := by decide +kernel
theorem dX4_learns_55 : decode cX4_learns 55 = .ok (.iload_n 3, 1) := by decide +kernel
theorem dX4_learns_56 : decode cX4_learns 56 = .ok (.iastore, 1) := by decide +kernel
theorem dX4_learns_57 : decode cX4_learns 57 = .ok (.aload_n 0, 1) := by decide +kernel
theorem dX4_learns_58 : decode cX4_learns 58 = .ok (.getfield 36, 3) := by decide +kernel
theorem dX4_learns_61 : decode cX4_learns 61 = .ok (.iload_n 1, 1) := by decide +kernel
theorem dX4_learns_62 : decode cX4_learns 62 = .ok (.iload_n 2, 1) := by decide +kernel
theorem dX4_learns_63 : decode cX4_learns 63 = .ok (.iastore, 1) := by decide +kernel
theorem dX4_learns_64 : decode cX4_learns 64 = .ok (.aload_n 0, 1) := by decide +kernel
theorem dX4_learns_65 : decode cX4_learns 65 = .ok (.getfield 33, 3) := by decide +kernel
theorem dX4_learns_68 : decode cX4_learns 68 = .ok (.iload_n 1, 1) := by decide +kernel
theorem dX4_learns_69 : decode cX4_learns 69 = .ok (.dup2, 1) := by decide +kernel
theorem dX4_learns_70 : decode cX4_learns 70 = .ok (.iaload, 1) := by decide +kernel
theorem dX4_learns_71 : decode cX4_learns 71 = .ok (.iconst 1, 1) := by decide +kernel
theorem dX4_learns_72 : decode cX4_learns 72 = .ok (.iadd, 1) := by decide +kernel
theorem dX4_learns_73 : decode cX4_learns 73 = .ok (.iastore, 1) := by decide +kernel
theorem dX4_learns_74 : decode cX4_learns 74 = .ok (.iload_n 2, 1) := by decide +kernel
theorem dX4_learns_75 : decode cX4_learns 75 = .ok (.iload_n 3, 1) := by decide +kernel
theorem dX4_learns_76 : decode cX4_learns 76 = .ok (.iadd, 1) := by decide +kernel
theorem dX4_learns_77 : decode cX4_learns 77 = .ok (.istore 5, 2) := by decide +kernel
theorem dX4_learns_79 : decode cX4_learns 79 = .ok (.iload 4, 2) := by decide +kernel
theorem dX4_learns_81 : decode cX4_learns 81 = .ok (.ifCond .eq 33, 3) := by decide +kernel
theorem dX4_learns_84 : decode cX4_learns 84 = .ok (.iload 5, 2) := by decide +kernel
theorem dX4_learns_86 : decode cX4_learns 86 = .ok (.iconst 0, 1) := by decide +kernel
theorem dX4_learns_87 : decode cX4_learns 87 = .ok (.bipush 63, 2) := by decide +kernel
theorem dX4_learns_89 : decode cX4_learns 89 = .ok (.invokestatic 76, 3) := by decide +kernel
theorem dX4_learns_92 : decode cX4_learns 92 = .ok (.ifCond .eq 22, 3) := by decide +kernel
theorem dX4_learns_95 : decode cX4_learns 95 = .ok (.aload_n 0, 1) := by decide +kernel
theorem dX4_learns_96 : decode cX4_learns 96 = .ok (.iload_n 1, 1) := by decide +kernel
theorem dX4_learns_97 : decode cX4_learns 97 = .ok (.iload 5, 2) := by decide +kernel
theorem dX4_learns_99 : decode cX4_learns 99 = .ok (.invokevirtual 103, 3) := by decide +kernel
theorem dX4_learns_102 : decode cX4_learns 102 = .ok (.ifCond .ne 12, 3) := by decide +kernel
theorem dX4_learns_105 : decode cX4_learns 105 = .ok (.aload_n 0, 1) := by decide +kernel
theorem dX4_learns_106 : decode cX4_learns 106 = .ok (.iload 5, 2) := by decide +kernel
theorem dX4_learns_108 : decode cX4_learns 108 = .ok (.invokevirtual 120, 3) := by decide +kernel
theorem dX4_learns_111 : decode cX4_learns 111 = .ok (.ifCond .lt 4, 3) := by decide +kernel
theorem dX4_learns_114 : decode cX4_learns 114 = .ok (.return_, 1) := by decide +kernel
theorem dX4_learns_115 : decode cX4_learns 115 = .ok (.aload_n 0, 1) := by decide +kernel
theorem dX4_learns_116 : decode cX4_learns 116 = .ok (.iload_n 1, 1) := by decide +kernel
theorem dX4_learns_117 : decode cX4_learns 117 = .ok (.iload 5, 2) := by decide +kernel
theorem dX4_learns_119 : decode cX4_learns 119 = .ok (.aload_n 0, 1) := by decide +kernel
theorem dX4_learns_120 : decode cX4_learns 120 = .ok (.iload_n 1, 1) := by decide +kernel
theorem dX4_learns_121 : decode cX4_learns 121 = .ok (.iload 5, 2) := by decide +kernel
theorem dX4_learns_123 : decode cX4_learns 123 = .ok (.invokevirtual 123, 3) := by decide +kernel
theorem dX4_learns_126 : decode cX4_learns 126 = .ok (.ifCond .le 8, 3) := by decide +kernel
theorem dX4_learns_129 : decode cX4_learns 129 = .ok (.bipush 115, 2) := by decide +kernel
theorem dX4_learns_131 : decode cX4_learns 131 = .ok (.goto 5, 3) := by decide +kernel
theorem dX4_learns_134 : decode cX4_learns 134 = .ok (.bipush 101, 2) := by decide +kernel
theorem dX4_learns_136 : decode cX4_learns 136 = .ok (.invokevirtual 126, 3) := by decide +kernel
theorem dX4_learns_139 : decode cX4_learns 139 = .ok (.istore 6, 2) := by decide +kernel
theorem dX4_learns_141 : decode cX4_learns 141 = .ok (.aload_n 0, 1) := by decide +kernel
theorem dX4_learns_142 : decode cX4_learns 142 = .ok (.getfield 26, 3) := by decide +kernel
theorem dX4_learns_145 : decode cX4_learns 145 = .ok (.iload_n 1, 1) := by decide +kernel
theorem dX4_learns_146 : decode cX4_learns 146 = .ok (.iload 5, 2) := by decide +kernel
theorem dX4_learns_148 : decode cX4_learns 148 = .ok (.invokestatic 100, 3) := by decide +kernel
theorem dX4_learns_151 : decode cX4_learns 151 = .ok (.iconst 1, 1) := by decide +kernel
theorem dX4_learns_152 : decode cX4_learns 152 = .ok (.bastore, 1) := by decide +kernel
theorem dX4_learns_153 : decode cX4_learns 153 = .ok (.aload_n 0, 1) := by decide +kernel
theorem dX4_learns_154 : decode cX4_learns 154 = .ok (.getfield 42, 3) := by decide +kernel
theorem dX4_learns_157 : decode cX4_learns 157 = .ok (.iload_n 1, 1) := by decide +kernel
theorem dX4_learns_158 : decode cX4_learns 158 = .ok (.dup2, 1) := by decide +kernel
theorem dX4_learns_159 : decode cX4_learns 159 = .ok (.iaload, 1) := by decide +kernel
theorem dX4_learns_160 : decode cX4_learns 160 = .ok (.iconst 1, 1) := by decide +kernel
theorem dX4_learns_161 : decode cX4_learns 161 = .ok (.iadd, 1) := by decide +kernel
theorem dX4_learns_162 : decode cX4_learns 162 = .ok (.iastore, 1) := by decide +kernel
theorem dX4_learns_163 : decode cX4_learns 163 = .ok (.return_, 1) := by decide +kernel
theorem dX4_wrongAccess_0 : decode cX4_wrongAccess 0 = .ok (.iload_n 1, 1) := by decide +kernel
theorem dX4_wrongAccess_1 : decode cX4_wrongAccess 1 = .ok (.invokestatic 130, 3) := by decide +kernel
theorem dX4_wrongAccess_4 : decode cX4_wrongAccess 4 = .ok (.ifCond .ne 5, 3) := by decide +kernel
theorem dX4_wrongAccess_7 : decode cX4_wrongAccess 7 = .ok (.iconst 1, 1) := by decide +kernel
theorem dX4_wrongAccess_8 : decode cX4_wrongAccess 8 = .ok (.ireturn, 1) := by decide +kernel
theorem dX4_wrongAccess_9 : decode cX4_wrongAccess 9 = .ok (.aload_n 0, 1) := by decide +kernel
theorem dX4_wrongAccess_10 : decode cX4_wrongAccess 10 = .ok (.iload_n 2, 1) := by decide +kernel
theorem dX4_wrongAccess_11 : decode cX4_wrongAccess 11 = .ok (.invokevirtual 84, 3) := by decide +kernel
theorem dX4_wrongAccess_14 : decode cX4_wrongAccess 14 = .ok (.ifCond .ne 5, 3) := by decide +kernel
theorem dX4_wrongAccess_17 : decode cX4_wrongAccess 17 = .ok (.iconst 2, 1) := by decide +kernel
theorem dX4_wrongAccess_18 : decode cX4_wrongAccess 18 = .ok (.ireturn, 1) := by decide +kernel
theorem dX4_wrongAccess_19 : decode cX4_wrongAccess 19 = .ok (.aload_n 0, 1) := by decide +kernel
theorem dX4_wrongAccess_20 : decode cX4_wrongAccess 20 = .ok (.getfield 13, 3) := by decide +kernel
theorem dX4_wrongAccess_23 : decode cX4_wrongAccess 23 = .ok (.iload_n 2, 1) := by decide +kernel
theorem dX4_wrongAccess_24 : decode cX4_wrongAccess 24 = .ok (.iaload, 1) := by decide +kernel
theorem dX4_wrongAccess_25 : decode cX4_wrongAccess 25 = .ok (.ifCond .ge 7, 3) := by decide +kernel
theorem dX4_wrongAccess_28 : decode cX4_wrongAccess 28 = .ok (.iconst 3, 1) := by decide +kernel
theorem dX4_wrongAccess_29 : decode cX4_wrongAccess 29 = .ok (.goto 24, 3) := by decide +kernel
theorem dX4_wrongAccess_32 : decode cX4_wrongAccess 32 = .ok (.iload_n 3, 1) := by decide +kernel
theorem dX4_wrongAccess_33 : decode cX4_wrongAccess 33 = .ok (.iconst 0, 1) := by decide +kernel
theorem dX4_wrongAccess_34 : decode cX4_wrongAccess 34 = .ok (.aload_n 0, 1) := by decide +kernel
theorem dX4_wrongAccess_35 : decode cX4_wrongAccess 35 = .ok (.getfield 7, 3) := by decide +kernel
theorem dX4_wrongAccess_38 : decode cX4_wrongAccess 38 = .ok (.iload_n 2, 1) := by decide +kernel
theorem dX4_wrongAccess_39 : decode cX4_wrongAccess 39 = .ok (.iaload, 1) := by decide +kernel
theorem dX4_wrongAccess_40 : decode cX4_wrongAccess 40 = .ok (.iconst 1, 1) := by decide +kernel
theorem dX4_wrongAccess_41 : decode cX4_wrongAccess 41 = .ok (.isub, 1) := by decide +kernel
theorem dX4_wrongAccess_42 : decode cX4_wrongAccess 42 = .ok (.invokestatic 76, 3) := by decide +kernel
theorem dX4_wrongAccess_45 : decode cX4_wrongAccess 45 = .ok (.ifCond .ne 7, 3) := by decide +kernel
theorem dX4_wrongAccess_48 : decode cX4_wrongAccess 48 = .ok (.iconst 4, 1) := by decide +kernel
theorem dX4_wrongAccess_49 : decode cX4_wrongAccess 49 = .ok (.goto 4, 3) := by decide +kernel
theorem dX4_wrongAccess_52 : decode cX4_wrongAccess 52 = .ok (.iconst 0, 1) := by decide +kernel
theorem dX4_wrongAccess_53 : decode cX4_wrongAccess 53 = .ok (.ireturn, 1) := by decide +kernel
theorem dX4_read_0 : decode cX4_read 0 = .ok (.aload_n 0, 1) := by decide +kernel
theorem dX4_read_1 : decode cX4_read 1 = .ok (.aload_n 0, 1) := by decide +kernel
theorem dX4_read_2 : decode cX4_read 2 = .ok (.iload_n 1, 1) := by decide +kernel
theorem dX4_read_3 : decode cX4_read 3 = .ok (.iload_n 2, 1) := by decide +kernel
theorem dX4_read_4 : decode cX4_read 4 = .ok (.iload_n 3, 1) := by decide +kernel
theorem dX4_read_5 : decode cX4_read 5 = .ok (.invokevirtual 133, 3) := by decide +kernel
theorem dX4_read_8 : decode cX4_read 8 = .ok (.putfield 63, 3) := by decide +kernel
theorem dX4_read_11 : decode cX4_read 11 = .ok (.aload_n 0, 1) := by decide +kernel
theorem dX4_read_12 : decode cX4_read 12 = .ok (.getfield 63, 3) := by decide +kernel
theorem dX4_read_15 : decode cX4_read 15 = .ok (.ifCond .le 5, 3) := by decide +kernel
theorem dX4_read_18 : decode cX4_read 18 = .ok (.iconst 0, 1) := by decide +kernel
theorem dX4_read_19 : decode cX4_read 19 = .ok (.ireturn, 1) := by decide +kernel
theorem dX4_read_20 : decode cX4_read 20 = .ok (.aload_n 0, 1) := by decide +kernel
theorem dX4_read_21 : decode cX4_read 21 = .ok (.getfield 13, 3) := by decide +kernel
theorem dX4_read_24 : decode cX4_read 24 = .ok (.iload_n 2, 1) := by decide +kernel
theorem dX4_read_25 : decode cX4_read 25 = .ok (.iaload, 1) := by decide +kernel
theorem dX4_read_26 : decode cX4_read 26 = .ok (.iload_n 3, 1) := by decide +kernel
theorem dX4_read_27 : decode cX4_read 27 = .ok (.iadd, 1) := by decide +kernel
theorem dX4_read_28 : decode cX4_read 28 = .ok (.bipush 8, 2) := by decide +kernel
theorem dX4_read_30 : decode cX4_read 30 = .ok (.idiv, 1) := by decide +kernel
theorem dX4_read_31 : decode cX4_read 31 = .ok (.istore 4, 2) := by decide +kernel
theorem dX4_read_33 : decode cX4_read 33 = .ok (.aload_n 0, 1) := by decide +kernel
theorem dX4_read_34 : decode cX4_read 34 = .ok (.iload_n 1, 1) := by decide +kernel
theorem dX4_read_35 : decode cX4_read 35 = .ok (.iload 4, 2) := by decide +kernel
theorem dX4_read_37 : decode cX4_read 37 = .ok (.invokevirtual 103, 3) := by decide +kernel
theorem dX4_read_40 : decode cX4_read 40 = .ok (.ifCond .eq 20, 3) := by decide +kernel
theorem dX4_read_43 : decode cX4_read 43 = .ok (.aload_n 0, 1) := by decide +kernel
theorem dX4_read_44 : decode cX4_read 44 = .ok (.iload_n 1, 1) := by decide +kernel
theorem dX4_read_45 : decode cX4_read 45 = .ok (.iload 4, 2) := by decide +kernel
theorem dX4_read_47 : decode cX4_read 47 = .ok (.invokevirtual 137, 3) := by decide +kernel
theorem dX4_read_50 : decode cX4_read 50 = .ok (.aload_n 0, 1) := by decide +kernel
theorem dX4_read_51 : decode cX4_read 51 = .ok (.iload_n 1, 1) := by decide +kernel
theorem dX4_read_52 : decode cX4_read 52 = .ok (.iload_n 2, 1) := by decide +kernel
theorem dX4_read_53 : decode cX4_read 53 = .ok (.iconst 1, 1) := by decide +kernel
theorem dX4_read_54 : decode cX4_read 54 = .ok (.bipush 104, 2) := by decide +kernel
theorem dX4_read_56 : decode cX4_read 56 = .ok (.invokevirtual 141, 3) := by decide +kernel
theorem dX4_read_59 : decode cX4_read 59 = .ok (.ireturn, 1) := by decide +kernel
theorem dX4_read_60 : decode cX4_read 60 = .ok (.aload_n 0, 1) := by decide +kernel
theorem dX4_read_61 : decode cX4_read 61 = .ok (.iload_n 1, 1) := by decide +kernel
theorem dX4_read_62 : decode cX4_read 62 = .ok (.iload 4, 2) := by decide +kernel
theorem dX4_read_64 : decode cX4_read 64 = .ok (.iload_n 2, 1) := by decide +kernel
theorem dX4_read_65 : decode cX4_read 65 = .ok (.invokevirtual 145, 3) := by decide +kernel
theorem dX4_read_68 : decode cX4_read 68 = .ok (.istore 5, 2) := by decide +kernel
theorem dX4_read_70 : decode cX4_read 70 = .ok (.aload_n 0, 1) := by decide +kernel
theorem dX4_read_71 : decode cX4_read 71 = .ok (.iload_n 1, 1) := by decide +kernel
theorem dX4_read_72 : decode cX4_read 72 = .ok (.iload 4, 2) := by decide +kernel
theorem dX4_read_74 : decode cX4_read 74 = .ok (.invokevirtual 123, 3) := by decide +kernel
theorem dX4_read_77 : decode cX4_read 77 = .ok (.ifCond .le 7, 3) := by decide +kernel
theorem dX4_read_80 : decode cX4_read 80 = .ok (.iconst 1, 1) := by decide +kernel
theorem dX4_read_81 : decode cX4_read 81 = .ok (.goto 4, 3) := by decide +kernel
theorem dX4_read_84 : decode cX4_read 84 = .ok (.iconst 0, 1) := by decide +kernel
theorem dX4_read_85 : decode cX4_read 85 = .ok (.istore 6, 2) := by decide +kernel
theorem dX4_read_87 : decode cX4_read 87 = .ok (.iconst 0, 1) := by decide +kernel
theorem dX4_read_88 : decode cX4_read 88 = .ok (.istore 7, 2) := by decide +kernel
theorem dX4_read_90 : decode cX4_read 90 = .ok (.iload 7, 2) := by decide +kernel
theorem dX4_read_92 : decode cX4_read 92 = .ok (.iconst 4, 1) := by decide +kernel
theorem dX4_read_93 : decode cX4_read 93 = .ok (.if_icmp .ge 34, 3) := by decide +kernel
theorem dX4_read_96 : decode cX4_read 96 = .ok (.aload_n 0, 1) := by decide +kernel
theorem dX4_read_97 : decode cX4_read 97 = .ok (.iload 7, 2) := by decide +kernel
theorem dX4_read_99 : decode cX4_read 99 = .ok (.iload 4, 2) := by decide +kernel
theorem dX4_read_101 : decode cX4_read 101 = .ok (.invokevirtual 103, 3) := by decide +kernel
theorem dX4_read_104 : decode cX4_read 104 = .ok (.ifCond .eq 17, 3) := by decide +kernel
theorem dX4_read_107 : decode cX4_read 107 = .ok (.aload_n 0, 1) := by decide +kernel
theorem dX4_read_108 : decode cX4_read 108 = .ok (.getfield 16, 3) := by decide +kernel
theorem dX4_read_111 : decode cX4_read 111 = .ok (.iload 7, 2) := by decide +kernel
theorem dX4_read_113 : decode cX4_read 113 = .ok (.iload 4, 2) := by decide +kernel
theorem dX4_read_115 : decode cX4_read 115 = .ok (.invokestatic 100, 3) := by decide +kernel
theorem dX4_read_118 : decode cX4_read 118 = .ok (.bipush 115, 2) := by decide +kernel
theorem dX4_read_120 : decode cX4_read 120 = .ok (.castore, 1) := by decide +kernel
theorem dX4_read_121 : decode cX4_read 121 = .ok (.iinc 7 1, 3) := by decide +kernel
theorem dX4_read_124 : decode cX4_read 124 = .ok (.goto (-34), 3) := by decide +kernel
theorem dX4_read_127 : decode cX4_read 127 = .ok (.aload_n 0, 1) := by decide +kernel
theorem dX4_read_128 : decode cX4_read 128 = .ok (.iload_n 1, 1) := by decide +kernel
theorem dX4_read_129 : decode cX4_read 129 = .ok (.iload 4, 2) := by decide +kernel
theorem dX4_read_131 : decode cX4_read 131 = .ok (.iload 6, 2) := by decide +kernel
theorem dX4_read_133 : decode cX4_read 133 = .ok (.ifCond .eq 8, 3) := by decide +kernel
theorem dX4_read_136 : decode cX4_read 136 = .ok (.bipush 115, 2) := by decide +kernel
theorem dX4_read_138 : decode cX4_read 138 = .ok (.goto 5, 3) := by decide +kernel
theorem dX4_read_141 : decode cX4_read 141 = .ok (.bipush 101, 2) := by decide +kernel
theorem dX4_read_143 : decode cX4_read 143 = .ok (.invokevirtual 126, 3) := by decide +kernel
theorem dX4_read_146 : decode cX4_read 146 = .ok (.ifCond .eq 7, 3) := by decide +kernel
theorem dX4_read_149 : decode cX4_read 149 = .ok (.iconst 5, 1) := by decide +kernel
theorem dX4_read_150 : decode cX4_read 150 = .ok (.goto 4, 3) := by decide +kernel
theorem dX4_read_153 : decode cX4_read 153 = .ok (.iconst 0, 1) := by decide +kernel
theorem dX4_read_154 : decode cX4_read 154 = .ok (.istore 7, 2) := by decide +kernel
theorem dX4_read_156 : decode cX4_read 156 = .ok (.aload_n 0, 1) := by decide +kernel
theorem dX4_read_157 : decode cX4_read 157 = .ok (.iload_n 1, 1) := by decide +kernel
theorem dX4_read_158 : decode cX4_read 158 = .ok (.iload 4, 2) := by decide +kernel
theorem dX4_read_160 : decode cX4_read 160 = .ok (.invokevirtual 149, 3) := by decide +kernel
theorem dX4_read_163 : decode cX4_read 163 = .ok (.aload_n 0, 1) := by decide +kernel
theorem dX4_read_164 : decode cX4_read 164 = .ok (.iload_n 1, 1) := by decide +kernel
theorem dX4_read_165 : decode cX4_read 165 = .ok (.iload_n 2, 1) := by decide +kernel
theorem dX4_read_166 : decode cX4_read 166 = .ok (.iload 7, 2) := by decide +kernel
theorem dX4_read_168 : decode cX4_read 168 = .ok (.iload 6, 2) := by decide +kernel
theorem dX4_read_170 : decode cX4_read 170 = .ok (.ifCond .eq 8, 3) := by decide +kernel
theorem dX4_read_173 : decode cX4_read 173 = .ok (.bipush 12, 2) := by decide +kernel
theorem dX4_read_175 : decode cX4_read 175 = .ok (.goto 5, 3) := by decide +kernel
theorem dX4_read_178 : decode cX4_read 178 = .ok (.bipush 40, 2) := by decide +kernel
theorem dX4_read_180 : decode cX4_read 180 = .ok (.iadd, 1) := by decide +kernel
theorem dX4_read_181 : decode cX4_read 181 = .ok (.iload 5, 2) := by decide +kernel
theorem dX4_read_183 : decode cX4_read 183 = .ok (.invokevirtual 141, 3) := by decide +kernel
theorem dX4_read_186 : decode cX4_read 186 = .ok (.ireturn, 1) := by decide +kernel
theorem dX4_takesFromOthers_0 : decode cX4_takesFromOthers 0 = .ok (.iconst 0, 1) := by decide +kernel
theorem dX4_takesFromOthers_1 : decode cX4_takesFromOthers 1 = .ok (.istore 4, 2) := by decide +kernel
theorem dX4_takesFromOthers_3 : decode cX4_takesFromOthers 3 = .ok (.iload 4, 2) := by decide +kernel
theorem dX4_takesFromOthers_5 : decode cX4_takesFromOthers 5 = .ok (.iconst 4, 1) := by decide +kernel
theorem dX4_takesFromOthers_6 : decode cX4_takesFromOthers 6 = .ok (.if_icmp .ge 33, 3) := by decide +kernel
theorem dX4_takesFromOthers_9 : decode cX4_takesFromOthers 9 = .ok (.iload 4, 2) := by decide +kernel
theorem dX4_takesFromOthers_11 : decode cX4_takesFromOthers 11 = .ok (.iload_n 1, 1) := by decide +kernel
theorem dX4_takesFromOthers_12 : decode cX4_takesFromOthers 12 = .ok (.if_icmp .eq 21, 3) := by decide +kernel
theorem dX4_takesFromOthers_15 : decode cX4_takesFromOthers 15 = .ok (.aload_n 0, 1) := by decide +kernel
theorem dX4_takesFromOthers_16 : decode cX4_takesFromOthers 16 = .ok (.iload 4, 2) := by decide +kernel
theorem dX4_takesFromOthers_18 : decode cX4_takesFromOthers 18 = .ok (.iload_n 2, 1) := by decide +kernel
theorem dX4_takesFromOthers_19 : decode cX4_takesFromOthers 19 = .ok (.invokevirtual 103, 3) := by decide +kernel
theorem dX4_takesFromOthers_22 : decode cX4_takesFromOthers 22 = .ok (.ifCond .eq 11, 3) := by decide +kernel
theorem dX4_takesFromOthers_25 : decode cX4_takesFromOthers 25 = .ok (.aload_n 0, 1) := by decide +kernel
theorem dX4_takesFromOthers_26 : decode cX4_takesFromOthers 26 = .ok (.iload 4, 2) := by decide +kernel
theorem dX4_takesFromOthers_28 : decode cX4_takesFromOthers 28 = .ok (.iload_n 2, 1) := by decide +kernel
theorem dX4_takesFromOthers_29 : decode cX4_takesFromOthers 29 = .ok (.iload_n 3, 1) := by decide +kernel
theorem dX4_takesFromOthers_30 : decode cX4_takesFromOthers 30 = .ok (.invokevirtual 112, 3) := by decide +kernel
theorem dX4_takesFromOthers_33 : decode cX4_takesFromOthers 33 = .ok (.iinc 4 1, 3) := by decide +kernel
theorem dX4_takesFromOthers_36 : decode cX4_takesFromOthers 36 = .ok (.goto (-33), 3) := by decide +kernel
theorem dX4_takesFromOthers_39 : decode cX4_takesFromOthers 39 = .ok (.return_, 1) := by decide +kernel
theorem dX4_write_0 : decode cX4_write 0 = .ok (.aload_n 0, 1) := by decide +kernel
theorem dX4_write_1 : decode cX4_write 1 = .ok (.aload_n 0, 1) := by decide +kernel
theorem dX4_write_2 : decode cX4_write 2 = .ok (.iload_n 1, 1) := by decide +kernel
theorem dX4_write_3 : decode cX4_write 3 = .ok (.iload_n 2, 1) := by decide +kernel
theorem dX4_write_4 : decode cX4_write 4 = .ok (.iload_n 3, 1) := by decide +kernel
theorem dX4_write_5 : decode cX4_write 5 = .ok (.invokevirtual 133, 3) := by decide +kernel
theorem dX4_write_8 : decode cX4_write 8 = .ok (.putfield 63, 3) := by decide +kernel
theorem dX4_write_11 : decode cX4_write 11 = .ok (.aload_n 0, 1) := by decide +kernel
theorem dX4_write_12 : decode cX4_write 12 = .ok (.getfield 63, 3) := by decide +kernel
theorem dX4_write_15 : decode cX4_write 15 = .ok (.ifCond .le 5, 3) := by decide +kernel
theorem dX4_write_18 : decode cX4_write 18 = .ok (.iconst 0, 1) := by decide +kernel
theorem dX4_write_19 : decode cX4_write 19 = .ok (.ireturn, 1) := by decide +kernel
theorem dX4_write_20 : decode cX4_write 20 = .ok (.aload_n 0, 1) := by decide +kernel
theorem dX4_write_21 : decode cX4_write 21 = .ok (.getfield 13, 3) := by decide +kernel
theorem dX4_write_24 : decode cX4_write 24 = .ok (.iload_n 2, 1) := by decide +kernel
theorem dX4_write_25 : decode cX4_write 25 = .ok (.iaload, 1) := by decide +kernel
theorem dX4_write_26 : decode cX4_write 26 = .ok (.iload_n 3, 1) := by decide +kernel
theorem dX4_write_27 : decode cX4_write 27 = .ok (.iadd, 1) := by decide +kernel
theorem dX4_write_28 : decode cX4_write 28 = .ok (.bipush 8, 2) := by decide +kernel
theorem dX4_write_30 : decode cX4_write 30 = .ok (.idiv, 1) := by decide +kernel
theorem dX4_write_31 : decode cX4_write 31 = .ok (.istore 4, 2) := by decide +kernel
theorem dX4_write_33 : decode cX4_write 33 = .ok (.aload_n 0, 1) := by decide +kernel
theorem dX4_write_34 : decode cX4_write 34 = .ok (.getfield 16, 3) := by decide +kernel
theorem dX4_write_37 : decode cX4_write 37 = .ok (.iload_n 1, 1) := by decide +kernel
theorem dX4_write_38 : decode cX4_write 38 = .ok (.iload 4, 2) := by decide +kernel
theorem dX4_write_40 : decode cX4_write 40 = .ok (.invokestatic 100, 3) := by decide +kernel
theorem dX4_write_43 : decode cX4_write 43 = .ok (.caload, 1) := by decide +kernel
theorem dX4_write_44 : decode cX4_write 44 = .ok (.istore 5, 2) := by decide +kernel
theorem dX4_write_46 : decode cX4_write 46 = .ok (.aload_n 0, 1) := by decide +kernel
theorem dX4_write_47 : decode cX4_write 47 = .ok (.iload_n 1, 1) := by decide +kernel
theorem dX4_write_48 : decode cX4_write 48 = .ok (.iload 4, 2) := by decide +kernel
theorem dX4_write_50 : decode cX4_write 50 = .ok (.invokevirtual 123, 3) := by decide +kernel
theorem dX4_write_53 : decode cX4_write 53 = .ok (.ifCond .le 7, 3) := by decide +kernel
theorem dX4_write_56 : decode cX4_write 56 = .ok (.iconst 1, 1) := by decide +kernel
theorem dX4_write_57 : decode cX4_write 57 = .ok (.goto 4, 3) := by decide +kernel
theorem dX4_write_60 : decode cX4_write 60 = .ok (.iconst 0, 1) := by decide +kernel
theorem dX4_write_61 : decode cX4_write 61 = .ok (.istore 6, 2) := by decide +kernel
theorem dX4_write_63 : decode cX4_write 63 = .ok (.aload_n 0, 1) := by decide +kernel
theorem dX4_write_64 : decode cX4_write 64 = .ok (.iload_n 1, 1) := by decide +kernel
theorem dX4_write_65 : decode cX4_write 65 = .ok (.iload 4, 2) := by decide +kernel
theorem dX4_write_67 : decode cX4_write 67 = .ok (.iload_n 2, 1) := by decide +kernel
theorem dX4_write_68 : decode cX4_write 68 = .ok (.invokevirtual 152, 3) := by decide +kernel
theorem dX4_write_71 : decode cX4_write 71 = .ok (.iload 5, 2) := by decide +kernel
theorem dX4_write_73 : decode cX4_write 73 = .ok (.bipush 45, 2) := by decide +kernel
theorem dX4_write_75 : decode cX4_write 75 = .ok (.if_icmp .eq 57, 3) := by decide +kernel
theorem dX4_write_78 : decode cX4_write 78 = .ok (.aload_n 0, 1) := by decide +kernel
theorem dX4_write_79 : decode cX4_write 79 = .ok (.iload_n 1, 1) := by decide +kernel
theorem dX4_write_80 : decode cX4_write 80 = .ok (.iload 4, 2) := by decide +kernel
theorem dX4_write_82 : decode cX4_write 82 = .ok (.invokevirtual 137, 3) := by decide +kernel
theorem dX4_write_85 : decode cX4_write 85 = .ok (.aload_n 0, 1) := by decide +kernel
theorem dX4_write_86 : decode cX4_write 86 = .ok (.getfield 16, 3) := by decide +kernel
theorem dX4_write_89 : decode cX4_write 89 = .ok (.iload_n 1, 1) := by decide +kernel
theorem dX4_write_90 : decode cX4_write 90 = .ok (.iload 4, 2) := by decide +kernel
theorem dX4_write_92 : decode cX4_write 92 = .ok (.invokestatic 100, 3) := by decide +kernel
theorem dX4_write_95 : decode cX4_write 95 = .ok (.bipush 109, 2) := by decide +kernel
theorem dX4_write_97 : decode cX4_write 97 = .ok (.castore, 1) := by decide +kernel
theorem dX4_write_98 : decode cX4_write 98 = .ok (.aload_n 0, 1) := by decide +kernel
theorem dX4_write_99 : decode cX4_write 99 = .ok (.iload_n 1, 1) := by decide +kernel
theorem dX4_write_100 : decode cX4_write 100 = .ok (.iload_n 2, 1) := by decide +kernel
theorem dX4_write_101 : decode cX4_write 101 = .ok (.iload 5, 2) := by decide +kernel
theorem dX4_write_103 : decode cX4_write 103 = .ok (.bipush 115, 2) := by decide +kernel
theorem dX4_write_105 : decode cX4_write 105 = .ok (.if_icmp .ne 8, 3) := by decide +kernel
theorem dX4_write_108 : decode cX4_write 108 = .ok (.bipush 8, 2) := by decide +kernel
theorem dX4_write_110 : decode cX4_write 110 = .ok (.goto 4, 3) := by decide +kernel
theorem dX4_write_113 : decode cX4_write 113 = .ok (.iconst 1, 1) := by decide +kernel
theorem dX4_write_114 : decode cX4_write 114 = .ok (.iload 5, 2) := by decide +kernel
theorem dX4_write_116 : decode cX4_write 116 = .ok (.bipush 115, 2) := by decide +kernel
theorem dX4_write_118 : decode cX4_write 118 = .ok (.if_icmp .ne 8, 3) := by decide +kernel
theorem dX4_write_121 : decode cX4_write 121 = .ok (.bipush 117, 2) := by decide +kernel
theorem dX4_write_123 : decode cX4_write 123 = .ok (.goto 5, 3) := by decide +kernel
theorem dX4_write_126 : decode cX4_write 126 = .ok (.bipush 104, 2) := by decide +kernel
theorem dX4_write_128 : decode cX4_write 128 = .ok (.invokevirtual 141, 3) := by decide +kernel
theorem dX4_write_131 : decode cX4_write 131 = .ok (.ireturn, 1) := by decide +kernel
theorem dX4_write_132 : decode cX4_write 132 = .ok (.aload_n 0, 1) := by decide +kernel
theorem dX4_write_133 : decode cX4_write 133 = .ok (.iload_n 1, 1) := by decide +kernel
theorem dX4_write_134 : decode cX4_write 134 = .ok (.iload 4, 2) := by decide +kernel
theorem dX4_write_136 : decode cX4_write 136 = .ok (.iload_n 2, 1) := by decide +kernel
theorem dX4_write_137 : decode cX4_write 137 = .ok (.invokevirtual 145, 3) := by decide +kernel
theorem dX4_write_140 : decode cX4_write 140 = .ok (.istore 7, 2) := by decide +kernel
theorem dX4_write_142 : decode cX4_write 142 = .ok (.aload_n 0, 1) := by decide +kernel
theorem dX4_write_143 : decode cX4_write 143 = .ok (.iload_n 1, 1) := by decide +kernel
theorem dX4_write_144 : decode cX4_write 144 = .ok (.iload 4, 2) := by decide +kernel
theorem dX4_write_146 : decode cX4_write 146 = .ok (.bipush 109, 2) := by decide +kernel
theorem dX4_write_148 : decode cX4_write 148 = .ok (.invokevirtual 126, 3) := by decide +kernel
theorem dX4_write_151 : decode cX4_write 151 = .ok (.ifCond .eq 7, 3) := by decide +kernel
theorem dX4_write_154 : decode cX4_write 154 = .ok (.iconst 5, 1) := by decide +kernel
theorem dX4_write_155 : decode cX4_write 155 = .ok (.goto 4, 3) := by decide +kernel
theorem dX4_write_158 : decode cX4_write 158 = .ok (.iconst 0, 1) := by decide +kernel
theorem dX4_write_159 : decode cX4_write 159 = .ok (.istore 8, 2) := by decide +kernel
theorem dX4_write_161 : decode cX4_write 161 = .ok (.aload_n 0, 1) := by decide +kernel
theorem dX4_write_162 : decode cX4_write 162 = .ok (.iload_n 1, 1) := by decide +kernel
theorem dX4_write_163 : decode cX4_write 163 = .ok (.iload 4, 2) := by decide +kernel
theorem dX4_write_165 : decode cX4_write 165 = .ok (.invokevirtual 149, 3) := by decide +kernel
theorem dX4_write_168 : decode cX4_write 168 = .ok (.aload_n 0, 1) := by decide +kernel
theorem dX4_write_169 : decode cX4_write 169 = .ok (.iload_n 1, 1) := by decide +kernel
theorem dX4_write_170 : decode cX4_write 170 = .ok (.iload_n 2, 1) := by decide +kernel
theorem dX4_write_171 : decode cX4_write 171 = .ok (.iload 8, 2) := by decide +kernel
theorem dX4_write_173 : decode cX4_write 173 = .ok (.iload 6, 2) := by decide +kernel
theorem dX4_write_175 : decode cX4_write 175 = .ok (.ifCond .eq 8, 3) := by decide +kernel
theorem dX4_write_178 : decode cX4_write 178 = .ok (.bipush 12, 2) := by decide +kernel
theorem dX4_write_180 : decode cX4_write 180 = .ok (.goto 5, 3) := by decide +kernel
theorem dX4_write_183 : decode cX4_write 183 = .ok (.bipush 40, 2) := by decide +kernel
theorem dX4_write_185 : decode cX4_write 185 = .ok (.iadd, 1) := by decide +kernel
theorem dX4_write_186 : decode cX4_write 186 = .ok (.iload 7, 2) := by decide +kernel
theorem dX4_write_188 : decode cX4_write 188 = .ok (.invokevirtual 141, 3) := by decide +kernel
theorem dX4_write_191 : decode cX4_write 191 = .ok (.ireturn, 1) := by decide +kernel
theorem dX4_empty_0 : decode cX4_empty 0 = .ok (.aload_n 0, 1) := by decide +kernel
theorem dX4_empty_1 : decode cX4_empty 1 = .ok (.iload_n 1, 1) := by decide +kernel
theorem dX4_empty_2 : decode cX4_empty 2 = .ok (.invokestatic 130, 3) := by decide +kernel
theorem dX4_empty_5 : decode cX4_empty 5 = .ok (.invokevirtual 92, 3) := by decide +kernel
theorem dX4_empty_8 : decode cX4_empty 8 = .ok (.ifCond .le 5, 3) := by decide +kernel
theorem dX4_empty_11 : decode cX4_empty 11 = .ok (.iconst 0, 1) := by decide +kernel
theorem dX4_empty_12 : decode cX4_empty 12 = .ok (.ireturn, 1) := by decide +kernel
theorem dX4_empty_13 : decode cX4_empty 13 = .ok (.iconst 0, 1) := by decide +kernel
theorem dX4_empty_14 : decode cX4_empty 14 = .ok (.istore_n 2, 1) := by decide +kernel
theorem dX4_empty_15 : decode cX4_empty 15 = .ok (.iconst 0, 1) := by decide +kernel
theorem dX4_empty_16 : decode cX4_empty 16 = .ok (.istore_n 3, 1) := by decide +kernel
theorem dX4_empty_17 : decode cX4_empty 17 = .ok (.iload_n 3, 1) := by decide +kernel
theorem dX4_empty_18 : decode cX4_empty 18 = .ok (.bipush 64, 2) := by decide +kernel
theorem dX4_empty_20 : decode cX4_empty 20 = .ok (.if_icmp .ge 52, 3) := by decide +kernel
theorem dX4_empty_23 : decode cX4_empty 23 = .ok (.aload_n 0, 1) := by decide +kernel
theorem dX4_empty_24 : decode cX4_empty 24 = .ok (.iload_n 1, 1) := by decide +kernel
theorem dX4_empty_25 : decode cX4_empty 25 = .ok (.iload_n 3, 1) := by decide +kernel
theorem dX4_empty_26 : decode cX4_empty 26 = .ok (.invokevirtual 103, 3) := by decide +kernel
theorem dX4_empty_29 : decode cX4_empty 29 = .ok (.ifCond .ne 6, 3) := by decide +kernel
theorem dX4_empty_32 : decode cX4_empty 32 = .ok (.goto 34, 3) := by decide +kernel
theorem dX4_empty_35 : decode cX4_empty 35 = .ok (.iload_n 2, 1) := by decide +kernel
theorem dX4_empty_36 : decode cX4_empty 36 = .ok (.aload_n 0, 1) := by decide +kernel
theorem dX4_empty_37 : decode cX4_empty 37 = .ok (.getfield 16, 3) := by decide +kernel
theorem dX4_empty_40 : decode cX4_empty 40 = .ok (.iload_n 1, 1) := by decide +kernel
theorem dX4_empty_41 : decode cX4_empty 41 = .ok (.iload_n 3, 1) := by decide +kernel
theorem dX4_empty_42 : decode cX4_empty 42 = .ok (.invokestatic 100, 3) := by decide +kernel
theorem dX4_empty_45 : decode cX4_empty 45 = .ok (.caload, 1) := by decide +kernel
theorem dX4_empty_46 : decode cX4_empty 46 = .ok (.bipush 109, 2) := by decide +kernel
theorem dX4_empty_48 : decode cX4_empty 48 = .ok (.if_icmp .ne 7, 3) := by decide +kernel
theorem dX4_empty_51 : decode cX4_empty 51 = .ok (.iconst 1, 1) := by decide +kernel
theorem dX4_empty_52 : decode cX4_empty 52 = .ok (.goto 4, 3) := by decide +kernel
theorem dX4_empty_55 : decode cX4_empty 55 = .ok (.iconst 0, 1) := by decide +kernel
theorem dX4_empty_56 : decode cX4_empty 56 = .ok (.iadd, 1) := by decide +kernel
theorem dX4_empty_57 : decode cX4_empty 57 = .ok (.istore_n 2, 1) := by decide +kernel
theorem dX4_empty_58 : decode cX4_empty 58 = .ok (.aload_n 0, 1) := by decide +kernel
theorem dX4_empty_59 : decode cX4_empty 59 = .ok (.iload_n 1, 1) := by decide +kernel
theorem dX4_empty_60 : decode cX4_empty 60 = .ok (.iload_n 3, 1) := by decide +kernel
theorem dX4_empty_61 : decode cX4_empty 61 = .ok (.bipush (-2), 2) := by decide +kernel
theorem dX4_empty_63 : decode cX4_empty 63 = .ok (.invokevirtual 112, 3) := by decide +kernel
theorem dX4_empty_66 : decode cX4_empty 66 = .ok (.iinc 3 1, 3) := by decide +kernel
theorem dX4_empty_69 : decode cX4_empty 69 = .ok (.goto (-52), 3) := by decide +kernel
theorem dX4_empty_72 : decode cX4_empty 72 = .ok (.iload_n 2, 1) := by decide +kernel
theorem dX4_empty_73 : decode cX4_empty 73 = .ok (.ireturn, 1) := by decide +kernel
theorem dX4_setAhead_0 : decode cX4_setAhead 0 = .ok (.aload_n 0, 1) := by decide +kernel
theorem dX4_setAhead_1 : decode cX4_setAhead 1 = .ok (.iload_n 1, 1) := by decide +kernel
theorem dX4_setAhead_2 : decode cX4_setAhead 2 = .ok (.invokestatic 130, 3) := by decide +kernel
theorem dX4_setAhead_5 : decode cX4_setAhead 5 = .ok (.invokevirtual 92, 3) := by decide +kernel
theorem dX4_setAhead_8 : decode cX4_setAhead 8 = .ok (.ifCond .le 5, 3) := by decide +kernel
theorem dX4_setAhead_11 : decode cX4_setAhead 11 = .ok (.iconst 0, 1) := by decide +kernel
theorem dX4_setAhead_12 : decode cX4_setAhead 12 = .ok (.ireturn, 1) := by decide +kernel
theorem dX4_setAhead_13 : decode cX4_setAhead 13 = .ok (.aload_n 0, 1) := by decide +kernel
theorem dX4_setAhead_14 : decode cX4_setAhead 14 = .ok (.getfield 30, 3) := by decide +kernel
theorem dX4_setAhead_17 : decode cX4_setAhead 17 = .ok (.iload_n 1, 1) := by decide +kernel
theorem dX4_setAhead_18 : decode cX4_setAhead 18 = .ok (.baload, 1) := by decide +kernel
theorem dX4_setAhead_19 : decode cX4_setAhead 19 = .ok (.istore_n 3, 1) := by decide +kernel
theorem dX4_setAhead_20 : decode cX4_setAhead 20 = .ok (.aload_n 0, 1) := by decide +kernel
theorem dX4_setAhead_21 : decode cX4_setAhead 21 = .ok (.getfield 30, 3) := by decide +kernel
theorem dX4_setAhead_24 : decode cX4_setAhead 24 = .ok (.iload_n 1, 1) := by decide +kernel
theorem dX4_setAhead_25 : decode cX4_setAhead 25 = .ok (.iload_n 2, 1) := by decide +kernel
theorem dX4_setAhead_26 : decode cX4_setAhead 26 = .ok (.bastore, 1) := by decide +kernel
theorem dX4_setAhead_27 : decode cX4_setAhead 27 = .ok (.aload_n 0, 1) := by decide +kernel
theorem dX4_setAhead_28 : decode cX4_setAhead 28 = .ok (.getfield 33, 3) := by decide +kernel
theorem dX4_setAhead_31 : decode cX4_setAhead 31 = .ok (.iload_n 1, 1) := by decide +kernel
theorem dX4_setAhead_32 : decode cX4_setAhead 32 = .ok (.iconst 0, 1) := by decide +kernel
theorem dX4_setAhead_33 : decode cX4_setAhead 33 = .ok (.iastore, 1) := by decide +kernel
theorem dX4_setAhead_34 : decode cX4_setAhead 34 = .ok (.aload_n 0, 1) := by decide +kernel
theorem dX4_setAhead_35 : decode cX4_setAhead 35 = .ok (.getfield 39, 3) := by decide +kernel
theorem dX4_setAhead_38 : decode cX4_setAhead 38 = .ok (.iload_n 1, 1) := by decide +kernel
theorem dX4_setAhead_39 : decode cX4_setAhead 39 = .ok (.iconst 0, 1) := by decide +kernel
theorem dX4_setAhead_40 : decode cX4_setAhead 40 = .ok (.iastore, 1) := by decide +kernel
theorem dX4_setAhead_41 : decode cX4_setAhead 41 = .ok (.iload_n 3, 1) := by decide +kernel
theorem dX4_setAhead_42 : decode cX4_setAhead 42 = .ok (.ireturn, 1) := by decide +kernel
theorem dX4_accesses_0 : decode cX4_accesses 0 = .ok (.aload_n 0, 1) := by decide +kernel
theorem dX4_accesses_1 : decode cX4_accesses 1 = .ok (.iconst 0, 1) := by decide +kernel
theorem dX4_accesses_2 : decode cX4_accesses 2 = .ok (.putfield 63, 3) := by decide +kernel
theorem dX4_accesses_5 : decode cX4_accesses 5 = .ok (.aload_n 0, 1) := by decide +kernel
theorem dX4_accesses_6 : decode cX4_accesses 6 = .ok (.getfield 70, 3) := by decide +kernel
theorem dX4_accesses_9 : decode cX4_accesses 9 = .ok (.ireturn, 1) := by decide +kernel
theorem dX4_isAccess_0 : decode cX4_isAccess 0 = .ok (.iload_n 1, 1) := by decide +kernel
theorem dX4_isAccess_1 : decode cX4_isAccess 1 = .ok (.iconst 0, 1) := by decide +kernel
theorem dX4_isAccess_2 : decode cX4_isAccess 2 = .ok (.aload_n 0, 1) := by decide +kernel
theorem dX4_isAccess_3 : decode cX4_isAccess 3 = .ok (.getfield 70, 3) := by decide +kernel
theorem dX4_isAccess_6 : decode cX4_isAccess 6 = .ok (.iconst 1, 1) := by decide +kernel
theorem dX4_isAccess_7 : decode cX4_isAccess 7 = .ok (.isub, 1) := by decide +kernel
theorem dX4_isAccess_8 : decode cX4_isAccess 8 = .ok (.invokestatic 76, 3) := by decide +kernel
theorem dX4_isAccess_11 : decode cX4_isAccess 11 = .ok (.ireturn, 1) := by decide +kernel
theorem dX4_costOf_0 : decode cX4_costOf 0 = .ok (.aload_n 0, 1) := by decide +kernel
theorem dX4_costOf_1 : decode cX4_costOf 1 = .ok (.aload_n 0, 1) := by decide +kernel
theorem dX4_costOf_2 : decode cX4_costOf 2 = .ok (.iload_n 1, 1) := by decide +kernel
theorem dX4_costOf_3 : decode cX4_costOf 3 = .ok (.invokevirtual 155, 3) := by decide +kernel
theorem dX4_costOf_6 : decode cX4_costOf 6 = .ok (.invokevirtual 92, 3) := by decide +kernel
theorem dX4_costOf_9 : decode cX4_costOf 9 = .ok (.ifCond .le 7, 3) := by decide +kernel
theorem dX4_costOf_12 : decode cX4_costOf 12 = .ok (.iconst 0, 1) := by decide +kernel
theorem dX4_costOf_13 : decode cX4_costOf 13 = .ok (.goto 9, 3) := by decide +kernel
theorem dX4_costOf_16 : decode cX4_costOf 16 = .ok (.aload_n 0, 1) := by decide +kernel
theorem dX4_costOf_17 : decode cX4_costOf 17 = .ok (.getfield 51, 3) := by decide +kernel
theorem dX4_costOf_20 : decode cX4_costOf 20 = .ok (.iload_n 1, 1) := by decide +kernel
theorem dX4_costOf_21 : decode cX4_costOf 21 = .ok (.iaload, 1) := by decide +kernel
theorem dX4_costOf_22 : decode cX4_costOf 22 = .ok (.ireturn, 1) := by decide +kernel
theorem dX4_costByReplay_0 : decode cX4_costByReplay 0 = .ok (.aload_n 0, 1) := by decide +kernel
theorem dX4_costByReplay_1 : decode cX4_costByReplay 1 = .ok (.iload_n 1, 1) := by decide +kernel
theorem dX4_costByReplay_2 : decode cX4_costByReplay 2 = .ok (.invokevirtual 158, 3) := by decide +kernel
theorem dX4_costByReplay_5 : decode cX4_costByReplay 5 = .ok (.ireturn, 1) := by decide +kernel
theorem dX4_causeOf_0 : decode cX4_causeOf 0 = .ok (.aload_n 0, 1) := by decide +kernel
theorem dX4_causeOf_1 : decode cX4_causeOf 1 = .ok (.aload_n 0, 1) := by decide +kernel
theorem dX4_causeOf_2 : decode cX4_causeOf 2 = .ok (.iload_n 1, 1) := by decide +kernel
theorem dX4_causeOf_3 : decode cX4_causeOf 3 = .ok (.invokevirtual 155, 3) := by decide +kernel
theorem dX4_causeOf_6 : decode cX4_causeOf 6 = .ok (.invokevirtual 92, 3) := by decide +kernel
theorem dX4_causeOf_9 : decode cX4_causeOf 9 = .ok (.ifCond .le 8, 3) := by decide +kernel
theorem dX4_causeOf_12 : decode cX4_causeOf 12 = .ok (.bipush 32, 2) := by decide +kernel
theorem dX4_causeOf_14 : decode cX4_causeOf 14 = .ok (.goto 9, 3) := by decide +kernel
theorem dX4_causeOf_17 : decode cX4_causeOf 17 = .ok (.aload_n 0, 1) := by decide +kernel
theorem dX4_causeOf_18 : decode cX4_causeOf 18 = .ok (.getfield 60, 3) := by decide +kernel
theorem dX4_causeOf_21 : decode cX4_causeOf 21 = .ok (.iload_n 1, 1) := by decide +kernel
theorem dX4_causeOf_22 : decode cX4_causeOf 22 = .ok (.caload, 1) := by decide +kernel
theorem dX4_causeOf_23 : decode cX4_causeOf 23 = .ok (.ireturn, 1) := by decide +kernel
theorem dX4_isLine_0 : decode cX4_isLine 0 = .ok (.iload_n 0, 1) := by decide +kernel
theorem dX4_isLine_1 : decode cX4_isLine 1 = .ok (.iconst 0, 1) := by decide +kernel
theorem dX4_isLine_2 : decode cX4_isLine 2 = .ok (.bipush 63, 2) := by decide +kernel
theorem dX4_isLine_4 : decode cX4_isLine 4 = .ok (.invokestatic 76, 3) := by decide +kernel
theorem dX4_isLine_7 : decode cX4_isLine 7 = .ok (.ireturn, 1) := by decide +kernel
theorem dX4_state_0 : decode cX4_state 0 = .ok (.aload_n 0, 1) := by decide +kernel
theorem dX4_state_1 : decode cX4_state 1 = .ok (.iload_n 1, 1) := by decide +kernel
theorem dX4_state_2 : decode cX4_state 2 = .ok (.invokestatic 130, 3) := by decide +kernel
theorem dX4_state_5 : decode cX4_state 5 = .ok (.ifCond .ne 7, 3) := by decide +kernel
theorem dX4_state_8 : decode cX4_state 8 = .ok (.iconst 1, 1) := by decide +kernel
theorem dX4_state_9 : decode cX4_state 9 = .ok (.goto 15, 3) := by decide +kernel
theorem dX4_state_12 : decode cX4_state 12 = .ok (.iload_n 2, 1) := by decide +kernel
theorem dX4_state_13 : decode cX4_state 13 = .ok (.invokestatic 161, 3) := by decide +kernel
theorem dX4_state_16 : decode cX4_state 16 = .ok (.ifCond .ne 7, 3) := by decide +kernel
theorem dX4_state_19 : decode cX4_state 19 = .ok (.iconst 2, 1) := by decide +kernel
theorem dX4_state_20 : decode cX4_state 20 = .ok (.goto 4, 3) := by decide +kernel
theorem dX4_state_23 : decode cX4_state 23 = .ok (.iconst 0, 1) := by decide +kernel
theorem dX4_state_24 : decode cX4_state 24 = .ok (.putfield 63, 3) := by decide +kernel
theorem dX4_state_27 : decode cX4_state 27 = .ok (.aload_n 0, 1) := by decide +kernel
theorem dX4_state_28 : decode cX4_state 28 = .ok (.getfield 63, 3) := by decide +kernel
theorem dX4_state_31 : decode cX4_state 31 = .ok (.ifCond .le 8, 3) := by decide +kernel
theorem dX4_state_34 : decode cX4_state 34 = .ok (.bipush 32, 2) := by decide +kernel
theorem dX4_state_36 : decode cX4_state 36 = .ok (.goto 13, 3) := by decide +kernel
theorem dX4_state_39 : decode cX4_state 39 = .ok (.aload_n 0, 1) := by decide +kernel
theorem dX4_state_40 : decode cX4_state 40 = .ok (.getfield 16, 3) := by decide +kernel
theorem dX4_state_43 : decode cX4_state 43 = .ok (.iload_n 1, 1) := by decide +kernel
theorem dX4_state_44 : decode cX4_state 44 = .ok (.iload_n 2, 1) := by decide +kernel
theorem dX4_state_45 : decode cX4_state 45 = .ok (.invokestatic 100, 3) := by decide +kernel
theorem dX4_state_48 : decode cX4_state 48 = .ok (.caload, 1) := by decide +kernel
theorem dX4_state_49 : decode cX4_state 49 = .ok (.ireturn, 1) := by decide +kernel
theorem dX4_owner_0 : decode cX4_owner 0 = .ok (.aload_n 0, 1) := by decide +kernel
theorem dX4_owner_1 : decode cX4_owner 1 = .ok (.iload_n 1, 1) := by decide +kernel
theorem dX4_owner_2 : decode cX4_owner 2 = .ok (.invokestatic 161, 3) := by decide +kernel
theorem dX4_owner_5 : decode cX4_owner 5 = .ok (.ifCond .ne 7, 3) := by decide +kernel
theorem dX4_owner_8 : decode cX4_owner 8 = .ok (.iconst 1, 1) := by decide +kernel
theorem dX4_owner_9 : decode cX4_owner 9 = .ok (.goto 16, 3) := by decide +kernel
theorem dX4_owner_12 : decode cX4_owner 12 = .ok (.aload_n 0, 1) := by decide +kernel
theorem dX4_owner_13 : decode cX4_owner 13 = .ok (.iload_n 1, 1) := by decide +kernel
theorem dX4_owner_14 : decode cX4_owner 14 = .ok (.invokevirtual 120, 3) := by decide +kernel
theorem dX4_owner_17 : decode cX4_owner 17 = .ok (.ifCond .ge 7, 3) := by decide +kernel
theorem dX4_owner_20 : decode cX4_owner 20 = .ok (.iconst 2, 1) := by decide +kernel
theorem dX4_owner_21 : decode cX4_owner 21 = .ok (.goto 4, 3) := by decide +kernel
theorem dX4_owner_24 : decode cX4_owner 24 = .ok (.iconst 0, 1) := by decide +kernel
theorem dX4_owner_25 : decode cX4_owner 25 = .ok (.putfield 63, 3) := by decide +kernel
theorem dX4_owner_28 : decode cX4_owner 28 = .ok (.aload_n 0, 1) := by decide +kernel
theorem dX4_owner_29 : decode cX4_owner 29 = .ok (.getfield 63, 3) := by decide +kernel
theorem dX4_owner_32 : decode cX4_owner 32 = .ok (.ifCond .le 7, 3) := by decide +kernel
theorem dX4_owner_35 : decode cX4_owner 35 = .ok (.iconst 0, 1) := by decide +kernel
theorem dX4_owner_36 : decode cX4_owner 36 = .ok (.goto 8, 3) := by decide +kernel
theorem dX4_owner_39 : decode cX4_owner 39 = .ok (.aload_n 0, 1) := by decide +kernel
theorem dX4_owner_40 : decode cX4_owner 40 = .ok (.iload_n 1, 1) := by decide +kernel
theorem dX4_owner_41 : decode cX4_owner 41 = .ok (.invokevirtual 120, 3) := by decide +kernel
theorem dX4_owner_44 : decode cX4_owner 44 = .ok (.ireturn, 1) := by decide +kernel
theorem dX4_holders_0 : decode cX4_holders 0 = .ok (.aload_n 0, 1) := by decide +kernel
theorem dX4_holders_1 : decode cX4_holders 1 = .ok (.iload_n 1, 1) := by decide +kernel
theorem dX4_holders_2 : decode cX4_holders 2 = .ok (.invokestatic 161, 3) := by decide +kernel
theorem dX4_holders_5 : decode cX4_holders 5 = .ok (.invokevirtual 92, 3) := by decide +kernel
theorem dX4_holders_8 : decode cX4_holders 8 = .ok (.ifCond .le 7, 3) := by decide +kernel
theorem dX4_holders_11 : decode cX4_holders 11 = .ok (.iconst 0, 1) := by decide +kernel
theorem dX4_holders_12 : decode cX4_holders 12 = .ok (.goto 9, 3) := by decide +kernel
theorem dX4_holders_15 : decode cX4_holders 15 = .ok (.aload_n 0, 1) := by decide +kernel
theorem dX4_holders_16 : decode cX4_holders 16 = .ok (.iconst (-1), 1) := by decide +kernel
theorem dX4_holders_17 : decode cX4_holders 17 = .ok (.iload_n 1, 1) := by decide +kernel
theorem dX4_holders_18 : decode cX4_holders 18 = .ok (.invokevirtual 123, 3) := by decide +kernel
theorem dX4_holders_21 : decode cX4_holders 21 = .ok (.ireturn, 1) := by decide +kernel
theorem dX4_lines_0 : decode cX4_lines 0 = .ok (.aload_n 0, 1) := by decide +kernel
theorem dX4_lines_1 : decode cX4_lines 1 = .ok (.iload_n 1, 1) := by decide +kernel
theorem dX4_lines_2 : decode cX4_lines 2 = .ok (.invokestatic 130, 3) := by decide +kernel
theorem dX4_lines_5 : decode cX4_lines 5 = .ok (.invokevirtual 92, 3) := by decide +kernel
theorem dX4_lines_8 : decode cX4_lines 8 = .ok (.ifCond .le 5, 3) := by decide +kernel
theorem dX4_lines_11 : decode cX4_lines 11 = .ok (.iconst 0, 1) := by decide +kernel
theorem dX4_lines_12 : decode cX4_lines 12 = .ok (.ireturn, 1) := by decide +kernel
theorem dX4_lines_13 : decode cX4_lines 13 = .ok (.iconst 0, 1) := by decide +kernel
theorem dX4_lines_14 : decode cX4_lines 14 = .ok (.istore_n 2, 1) := by decide +kernel
theorem dX4_lines_15 : decode cX4_lines 15 = .ok (.iconst 0, 1) := by decide +kernel
theorem dX4_lines_16 : decode cX4_lines 16 = .ok (.istore_n 3, 1) := by decide +kernel
theorem dX4_lines_17 : decode cX4_lines 17 = .ok (.iload_n 3, 1) := by decide +kernel
theorem dX4_lines_18 : decode cX4_lines 18 = .ok (.iconst 4, 1) := by decide +kernel
theorem dX4_lines_19 : decode cX4_lines 19 = .ok (.if_icmp .ge 18, 3) := by decide +kernel
theorem dX4_lines_22 : decode cX4_lines 22 = .ok (.iload_n 2, 1) := by decide +kernel
theorem dX4_lines_23 : decode cX4_lines 23 = .ok (.aload_n 0, 1) := by decide +kernel
theorem dX4_lines_24 : decode cX4_lines 24 = .ok (.iload_n 1, 1) := by decide +kernel
theorem dX4_lines_25 : decode cX4_lines 25 = .ok (.iload_n 3, 1) := by decide +kernel
theorem dX4_lines_26 : decode cX4_lines 26 = .ok (.invokevirtual 106, 3) := by decide +kernel
theorem dX4_lines_29 : decode cX4_lines 29 = .ok (.iadd, 1) := by decide +kernel
theorem dX4_lines_30 : decode cX4_lines 30 = .ok (.istore_n 2, 1) := by decide +kernel
theorem dX4_lines_31 : decode cX4_lines 31 = .ok (.iinc 3 1, 3) := by decide +kernel
theorem dX4_lines_34 : decode cX4_lines 34 = .ok (.goto (-17), 3) := by decide +kernel
theorem dX4_lines_37 : decode cX4_lines 37 = .ok (.iload_n 2, 1) := by decide +kernel
theorem dX4_lines_38 : decode cX4_lines 38 = .ok (.ireturn, 1) := by decide +kernel
theorem dX4_oldest_0 : decode cX4_oldest 0 = .ok (.aload_n 0, 1) := by decide +kernel
theorem dX4_oldest_1 : decode cX4_oldest 1 = .ok (.iload_n 1, 1) := by decide +kernel
theorem dX4_oldest_2 : decode cX4_oldest 2 = .ok (.invokestatic 130, 3) := by decide +kernel
theorem dX4_oldest_5 : decode cX4_oldest 5 = .ok (.ifCond .ne 7, 3) := by decide +kernel
theorem dX4_oldest_8 : decode cX4_oldest 8 = .ok (.iconst 1, 1) := by decide +kernel
theorem dX4_oldest_9 : decode cX4_oldest 9 = .ok (.goto 30, 3) := by decide +kernel
theorem dX4_oldest_12 : decode cX4_oldest 12 = .ok (.iload_n 2, 1) := by decide +kernel
theorem dX4_oldest_13 : decode cX4_oldest 13 = .ok (.iconst 0, 1) := by decide +kernel
theorem dX4_oldest_14 : decode cX4_oldest 14 = .ok (.iconst 3, 1) := by decide +kernel
theorem dX4_oldest_15 : decode cX4_oldest 15 = .ok (.invokestatic 76, 3) := by decide +kernel
theorem dX4_oldest_18 : decode cX4_oldest 18 = .ok (.ifCond .ne 7, 3) := by decide +kernel
theorem dX4_oldest_21 : decode cX4_oldest 21 = .ok (.iconst 2, 1) := by decide +kernel
theorem dX4_oldest_22 : decode cX4_oldest 22 = .ok (.goto 17, 3) := by decide +kernel
theorem dX4_oldest_25 : decode cX4_oldest 25 = .ok (.aload_n 0, 1) := by decide +kernel
theorem dX4_oldest_26 : decode cX4_oldest 26 = .ok (.iload_n 1, 1) := by decide +kernel
theorem dX4_oldest_27 : decode cX4_oldest 27 = .ok (.iload_n 2, 1) := by decide +kernel
theorem dX4_oldest_28 : decode cX4_oldest 28 = .ok (.invokevirtual 109, 3) := by decide +kernel
theorem dX4_oldest_31 : decode cX4_oldest 31 = .ok (.ifCond .ge 7, 3) := by decide +kernel
theorem dX4_oldest_34 : decode cX4_oldest 34 = .ok (.iconst 3, 1) := by decide +kernel
theorem dX4_oldest_35 : decode cX4_oldest 35 = .ok (.goto 4, 3) := by decide +kernel
theorem dX4_oldest_38 : decode cX4_oldest 38 = .ok (.iconst 0, 1) := by decide +kernel
theorem dX4_oldest_39 : decode cX4_oldest 39 = .ok (.putfield 63, 3) := by decide +kernel
theorem dX4_oldest_42 : decode cX4_oldest 42 = .ok (.aload_n 0, 1) := by decide +kernel
theorem dX4_oldest_43 : decode cX4_oldest 43 = .ok (.getfield 63, 3) := by decide +kernel
theorem dX4_oldest_46 : decode cX4_oldest 46 = .ok (.ifCond .le 7, 3) := by decide +kernel
theorem dX4_oldest_49 : decode cX4_oldest 49 = .ok (.iconst 0, 1) := by decide +kernel
theorem dX4_oldest_50 : decode cX4_oldest 50 = .ok (.goto 9, 3) := by decide +kernel
theorem dX4_oldest_53 : decode cX4_oldest 53 = .ok (.aload_n 0, 1) := by decide +kernel
theorem dX4_oldest_54 : decode cX4_oldest 54 = .ok (.iload_n 1, 1) := by decide +kernel
theorem dX4_oldest_55 : decode cX4_oldest 55 = .ok (.iload_n 2, 1) := by decide +kernel
theorem dX4_oldest_56 : decode cX4_oldest 56 = .ok (.invokevirtual 109, 3) := by decide +kernel
theorem dX4_oldest_59 : decode cX4_oldest 59 = .ok (.ireturn, 1) := by decide +kernel
theorem dX4_isCause_0 : decode cX4_isCause 0 = .ok (.iload_n 0, 1) := by decide +kernel
theorem dX4_isCause_1 : decode cX4_isCause 1 = .ok (.bipush 104, 2) := by decide +kernel
theorem dX4_isCause_3 : decode cX4_isCause 3 = .ok (.if_icmp .eq 33, 3) := by decide +kernel
theorem dX4_isCause_6 : decode cX4_isCause 6 = .ok (.iload_n 0, 1) := by decide +kernel
theorem dX4_isCause_7 : decode cX4_isCause 7 = .ok (.bipush 117, 2) := by decide +kernel
theorem dX4_isCause_9 : decode cX4_isCause 9 = .ok (.if_icmp .eq 27, 3) := by decide +kernel
theorem dX4_isCause_12 : decode cX4_isCause 12 = .ok (.iload_n 0, 1) := by decide +kernel
theorem dX4_isCause_13 : decode cX4_isCause 13 = .ok (.bipush 99, 2) := by decide +kernel
theorem dX4_isCause_15 : decode cX4_isCause 15 = .ok (.if_icmp .eq 21, 3) := by decide +kernel
theorem dX4_isCause_18 : decode cX4_isCause 18 = .ok (.iload_n 0, 1) := by decide +kernel
theorem dX4_isCause_19 : decode cX4_isCause 19 = .ok (.bipush 101, 2) := by decide +kernel
theorem dX4_isCause_21 : decode cX4_isCause 21 = .ok (.if_icmp .eq 15, 3) := by decide +kernel
theorem dX4_isCause_24 : decode cX4_isCause 24 = .ok (.iload_n 0, 1) := by decide +kernel
theorem dX4_isCause_25 : decode cX4_isCause 25 = .ok (.bipush 116, 2) := by decide +kernel
theorem dX4_isCause_27 : decode cX4_isCause 27 = .ok (.if_icmp .eq 9, 3) := by decide +kernel
theorem dX4_isCause_30 : decode cX4_isCause 30 = .ok (.iload_n 0, 1) := by decide +kernel
theorem dX4_isCause_31 : decode cX4_isCause 31 = .ok (.bipush 102, 2) := by decide +kernel
theorem dX4_isCause_33 : decode cX4_isCause 33 = .ok (.if_icmp .ne 7, 3) := by decide +kernel
theorem dX4_isCause_36 : decode cX4_isCause 36 = .ok (.iconst 1, 1) := by decide +kernel
theorem dX4_isCause_37 : decode cX4_isCause 37 = .ok (.goto 4, 3) := by decide +kernel
theorem dX4_isCause_40 : decode cX4_isCause 40 = .ok (.iconst 0, 1) := by decide +kernel
theorem dX4_isCause_41 : decode cX4_isCause 41 = .ok (.ireturn, 1) := by decide +kernel
theorem dX4_count_0 : decode cX4_count 0 = .ok (.aload_n 0, 1) := by decide +kernel
theorem dX4_count_1 : decode cX4_count 1 = .ok (.aload_n 0, 1) := by decide +kernel
theorem dX4_count_2 : decode cX4_count 2 = .ok (.iload_n 1, 1) := by decide +kernel
theorem dX4_count_3 : decode cX4_count 3 = .ok (.invokevirtual 84, 3) := by decide +kernel
theorem dX4_count_6 : decode cX4_count 6 = .ok (.ifCond .ne 7, 3) := by decide +kernel
theorem dX4_count_9 : decode cX4_count 9 = .ok (.iconst 1, 1) := by decide +kernel
theorem dX4_count_10 : decode cX4_count 10 = .ok (.goto 15, 3) := by decide +kernel
theorem dX4_count_13 : decode cX4_count 13 = .ok (.iload_n 2, 1) := by decide +kernel
theorem dX4_count_14 : decode cX4_count 14 = .ok (.invokestatic 164, 3) := by decide +kernel
theorem dX4_count_17 : decode cX4_count 17 = .ok (.ifCond .ne 7, 3) := by decide +kernel
theorem dX4_count_20 : decode cX4_count 20 = .ok (.iconst 2, 1) := by decide +kernel
theorem dX4_count_21 : decode cX4_count 21 = .ok (.goto 4, 3) := by decide +kernel
theorem dX4_count_24 : decode cX4_count 24 = .ok (.iconst 0, 1) := by decide +kernel
theorem dX4_count_25 : decode cX4_count 25 = .ok (.putfield 63, 3) := by decide +kernel
theorem dX4_count_28 : decode cX4_count 28 = .ok (.aload_n 0, 1) := by decide +kernel
theorem dX4_count_29 : decode cX4_count 29 = .ok (.getfield 63, 3) := by decide +kernel
theorem dX4_count_32 : decode cX4_count 32 = .ok (.ifCond .le 5, 3) := by decide +kernel
theorem dX4_count_35 : decode cX4_count 35 = .ok (.iconst 0, 1) := by decide +kernel
theorem dX4_count_36 : decode cX4_count 36 = .ok (.ireturn, 1) := by decide +kernel
theorem dX4_count_37 : decode cX4_count 37 = .ok (.iconst 0, 1) := by decide +kernel
theorem dX4_count_38 : decode cX4_count 38 = .ok (.istore_n 3, 1) := by decide +kernel
theorem dX4_count_39 : decode cX4_count 39 = .ok (.iconst 0, 1) := by decide +kernel
theorem dX4_count_40 : decode cX4_count 40 = .ok (.istore 4, 2) := by decide +kernel
theorem dX4_count_42 : decode cX4_count 42 = .ok (.iload 4, 2) := by decide +kernel
theorem dX4_count_44 : decode cX4_count 44 = .ok (.aload_n 0, 1) := by decide +kernel
theorem dX4_count_45 : decode cX4_count 45 = .ok (.getfield 70, 3) := by decide +kernel
theorem dX4_count_48 : decode cX4_count 48 = .ok (.if_icmp .ge 39, 3) := by decide +kernel
theorem dX4_count_51 : decode cX4_count 51 = .ok (.iload_n 3, 1) := by decide +kernel
theorem dX4_count_52 : decode cX4_count 52 = .ok (.aload_n 0, 1) := by decide +kernel
theorem dX4_count_53 : decode cX4_count 53 = .ok (.getfield 54, 3) := by decide +kernel
theorem dX4_count_56 : decode cX4_count 56 = .ok (.iload 4, 2) := by decide +kernel
theorem dX4_count_58 : decode cX4_count 58 = .ok (.iaload, 1) := by decide +kernel
theorem dX4_count_59 : decode cX4_count 59 = .ok (.iload_n 1, 1) := by decide +kernel
theorem dX4_count_60 : decode cX4_count 60 = .ok (.if_icmp .ne 18, 3) := by decide +kernel
theorem dX4_count_63 : decode cX4_count 63 = .ok (.aload_n 0, 1) := by decide +kernel
theorem dX4_count_64 : decode cX4_count 64 = .ok (.getfield 60, 3) := by decide +kernel
theorem dX4_count_67 : decode cX4_count 67 = .ok (.iload 4, 2) := by decide +kernel
theorem dX4_count_69 : decode cX4_count 69 = .ok (.caload, 1) := by decide +kernel
theorem dX4_count_70 : decode cX4_count 70 = .ok (.iload_n 2, 1) := by decide +kernel
theorem dX4_count_71 : decode cX4_count 71 = .ok (.if_icmp .ne 7, 3) := by decide +kernel
theorem dX4_count_74 : decode cX4_count 74 = .ok (.iconst 1, 1) := by decide +kernel
theorem dX4_count_75 : decode cX4_count 75 = .ok (.goto 4, 3) := by decide +kernel
theorem dX4_count_78 : decode cX4_count 78 = .ok (.iconst 0, 1) := by decide +kernel
theorem dX4_count_79 : decode cX4_count 79 = .ok (.iadd, 1) := by decide +kernel
theorem dX4_count_80 : decode cX4_count 80 = .ok (.istore_n 3, 1) := by decide +kernel
theorem dX4_count_81 : decode cX4_count 81 = .ok (.iinc 4 1, 3) := by decide +kernel
theorem dX4_count_84 : decode cX4_count 84 = .ok (.goto (-42), 3) := by decide +kernel
theorem dX4_count_87 : decode cX4_count 87 = .ok (.iload_n 3, 1) := by decide +kernel
theorem dX4_count_88 : decode cX4_count 88 = .ok (.ireturn, 1) := by decide +kernel
theorem dX4_billFor_0 : decode cX4_billFor 0 = .ok (.lconst 0, 1) := by decide +kernel
theorem dX4_billFor_1 : decode cX4_billFor 1 = .ok (.lstore_n 2, 1) := by decide +kernel
theorem dX4_billFor_2 : decode cX4_billFor 2 = .ok (.iconst 0, 1) := by decide +kernel
theorem dX4_billFor_3 : decode cX4_billFor 3 = .ok (.istore 4, 2) := by decide +kernel
theorem dX4_billFor_5 : decode cX4_billFor 5 = .ok (.iload 4, 2) := by decide +kernel
theorem dX4_billFor_7 : decode cX4_billFor 7 = .ok (.aload_n 0, 1) := by decide +kernel
theorem dX4_billFor_8 : decode cX4_billFor 8 = .ok (.getfield 70, 3) := by decide +kernel
theorem dX4_billFor_11 : decode cX4_billFor 11 = .ok (.if_icmp .ge 35, 3) := by decide +kernel
theorem dX4_billFor_14 : decode cX4_billFor 14 = .ok (.lload_n 2, 1) := by decide +kernel
theorem dX4_billFor_15 : decode cX4_billFor 15 = .ok (.aload_n 0, 1) := by decide +kernel
theorem dX4_billFor_16 : decode cX4_billFor 16 = .ok (.getfield 54, 3) := by decide +kernel
theorem dX4_billFor_19 : decode cX4_billFor 19 = .ok (.iload 4, 2) := by decide +kernel
theorem dX4_billFor_21 : decode cX4_billFor 21 = .ok (.iaload, 1) := by decide +kernel
theorem dX4_billFor_22 : decode cX4_billFor 22 = .ok (.iload_n 1, 1) := by decide +kernel
theorem dX4_billFor_23 : decode cX4_billFor 23 = .ok (.if_icmp .ne 14, 3) := by decide +kernel
theorem dX4_billFor_26 : decode cX4_billFor 26 = .ok (.aload_n 0, 1) := by decide +kernel
theorem dX4_billFor_27 : decode cX4_billFor 27 = .ok (.getfield 51, 3) := by decide +kernel
theorem dX4_billFor_30 : decode cX4_billFor 30 = .ok (.iload 4, 2) := by decide +kernel
theorem dX4_billFor_32 : decode cX4_billFor 32 = .ok (.iaload, 1) := by decide +kernel
theorem dX4_billFor_33 : decode cX4_billFor 33 = .ok (.i2l, 1) := by decide +kernel
theorem dX4_billFor_34 : decode cX4_billFor 34 = .ok (.goto 4, 3) := by decide +kernel
theorem dX4_billFor_37 : decode cX4_billFor 37 = .ok (.lconst 0, 1) := by decide +kernel
theorem dX4_billFor_38 : decode cX4_billFor 38 = .ok (.ladd, 1) := by decide +kernel
theorem dX4_billFor_39 : decode cX4_billFor 39 = .ok (.lstore_n 2, 1) := by decide +kernel
theorem dX4_billFor_40 : decode cX4_billFor 40 = .ok (.iinc 4 1, 3) := by decide +kernel
theorem dX4_billFor_43 : decode cX4_billFor 43 = .ok (.goto (-38), 3) := by decide +kernel
theorem dX4_billFor_46 : decode cX4_billFor 46 = .ok (.lload_n 2, 1) := by decide +kernel
theorem dX4_billFor_47 : decode cX4_billFor 47 = .ok (.lreturn, 1) := by decide +kernel
theorem dX4_bill_0 : decode cX4_bill 0 = .ok (.aload_n 0, 1) := by decide +kernel
theorem dX4_bill_1 : decode cX4_bill 1 = .ok (.aload_n 0, 1) := by decide +kernel
theorem dX4_bill_2 : decode cX4_bill 2 = .ok (.iload_n 1, 1) := by decide +kernel
theorem dX4_bill_3 : decode cX4_bill 3 = .ok (.invokevirtual 84, 3) := by decide +kernel
theorem dX4_bill_6 : decode cX4_bill 6 = .ok (.invokevirtual 92, 3) := by decide +kernel
theorem dX4_bill_9 : decode cX4_bill 9 = .ok (.ifCond .le 7, 3) := by decide +kernel
theorem dX4_bill_12 : decode cX4_bill 12 = .ok (.lconst 0, 1) := by decide +kernel
theorem dX4_bill_13 : decode cX4_bill 13 = .ok (.goto 8, 3) := by decide +kernel
theorem dX4_bill_16 : decode cX4_bill 16 = .ok (.aload_n 0, 1) := by decide +kernel
theorem dX4_bill_17 : decode cX4_bill 17 = .ok (.iload_n 1, 1) := by decide +kernel
theorem dX4_bill_18 : decode cX4_bill 18 = .ok (.invokevirtual 168, 3) := by decide +kernel
theorem dX4_bill_21 : decode cX4_bill 21 = .ok (.lreturn, 1) := by decide +kernel
theorem dX4_worst_0 : decode cX4_worst 0 = .ok (.aload_n 0, 1) := by decide +kernel
theorem dX4_worst_1 : decode cX4_worst 1 = .ok (.aload_n 0, 1) := by decide +kernel
theorem dX4_worst_2 : decode cX4_worst 2 = .ok (.getfield 67, 3) := by decide +kernel
theorem dX4_worst_5 : decode cX4_worst 5 = .ok (.ifCond .le 7, 3) := by decide +kernel
theorem dX4_worst_8 : decode cX4_worst 8 = .ok (.iconst 1, 1) := by decide +kernel
theorem dX4_worst_9 : decode cX4_worst 9 = .ok (.goto 4, 3) := by decide +kernel
theorem dX4_worst_12 : decode cX4_worst 12 = .ok (.iconst 0, 1) := by decide +kernel
theorem dX4_worst_13 : decode cX4_worst 13 = .ok (.invokevirtual 92, 3) := by decide +kernel
theorem dX4_worst_16 : decode cX4_worst 16 = .ok (.ifCond .le 5, 3) := by decide +kernel
theorem dX4_worst_19 : decode cX4_worst 19 = .ok (.iconst 0, 1) := by decide +kernel
theorem dX4_worst_20 : decode cX4_worst 20 = .ok (.ireturn, 1) := by decide +kernel
theorem dX4_worst_21 : decode cX4_worst 21 = .ok (.iconst 0, 1) := by decide +kernel
theorem dX4_worst_22 : decode cX4_worst 22 = .ok (.istore_n 1, 1) := by decide +kernel
theorem dX4_worst_23 : decode cX4_worst 23 = .ok (.iconst 1, 1) := by decide +kernel
theorem dX4_worst_24 : decode cX4_worst 24 = .ok (.istore_n 2, 1) := by decide +kernel
theorem dX4_worst_25 : decode cX4_worst 25 = .ok (.iload_n 2, 1) := by decide +kernel
theorem dX4_worst_26 : decode cX4_worst 26 = .ok (.aload_n 0, 1) := by decide +kernel
theorem dX4_worst_27 : decode cX4_worst 27 = .ok (.getfield 67, 3) := by decide +kernel
theorem dX4_worst_30 : decode cX4_worst 30 = .ok (.if_icmp .ge 25, 3) := by decide +kernel
theorem dX4_worst_33 : decode cX4_worst 33 = .ok (.aload_n 0, 1) := by decide +kernel
theorem dX4_worst_34 : decode cX4_worst 34 = .ok (.iload_n 2, 1) := by decide +kernel
theorem dX4_worst_35 : decode cX4_worst 35 = .ok (.invokevirtual 168, 3) := by decide +kernel
theorem dX4_worst_38 : decode cX4_worst 38 = .ok (.aload_n 0, 1) := by decide +kernel
theorem dX4_worst_39 : decode cX4_worst 39 = .ok (.iload_n 1, 1) := by decide +kernel
theorem dX4_worst_40 : decode cX4_worst 40 = .ok (.invokevirtual 168, 3) := by decide +kernel
theorem dX4_worst_43 : decode cX4_worst 43 = .ok (.lcmp, 1) := by decide +kernel
theorem dX4_worst_44 : decode cX4_worst 44 = .ok (.ifCond .le 5, 3) := by decide +kernel
theorem dX4_worst_47 : decode cX4_worst 47 = .ok (.iload_n 2, 1) := by decide +kernel
theorem dX4_worst_48 : decode cX4_worst 48 = .ok (.istore_n 1, 1) := by decide +kernel
theorem dX4_worst_49 : decode cX4_worst 49 = .ok (.iinc 2 1, 3) := by decide +kernel
theorem dX4_worst_52 : decode cX4_worst 52 = .ok (.goto (-27), 3) := by decide +kernel
theorem dX4_worst_55 : decode cX4_worst 55 = .ok (.iload_n 1, 1) := by decide +kernel
theorem dX4_worst_56 : decode cX4_worst 56 = .ok (.ireturn, 1) := by decide +kernel
theorem dX4_cycles_0 : decode cX4_cycles 0 = .ok (.aload_n 0, 1) := by decide +kernel
theorem dX4_cycles_1 : decode cX4_cycles 1 = .ok (.iload_n 1, 1) := by decide +kernel
theorem dX4_cycles_2 : decode cX4_cycles 2 = .ok (.invokestatic 130, 3) := by decide +kernel
theorem dX4_cycles_5 : decode cX4_cycles 5 = .ok (.invokevirtual 92, 3) := by decide +kernel
theorem dX4_cycles_8 : decode cX4_cycles 8 = .ok (.ifCond .le 5, 3) := by decide +kernel
theorem dX4_cycles_11 : decode cX4_cycles 11 = .ok (.lconst 0, 1) := by decide +kernel
theorem dX4_cycles_12 : decode cX4_cycles 12 = .ok (.lreturn, 1) := by decide +kernel
theorem dX4_cycles_13 : decode cX4_cycles 13 = .ok (.lconst 0, 1) := by decide +kernel
theorem dX4_cycles_14 : decode cX4_cycles 14 = .ok (.lstore_n 2, 1) := by decide +kernel
theorem dX4_cycles_15 : decode cX4_cycles 15 = .ok (.iconst 0, 1) := by decide +kernel
theorem dX4_cycles_16 : decode cX4_cycles 16 = .ok (.istore 4, 2) := by decide +kernel
theorem dX4_cycles_18 : decode cX4_cycles 18 = .ok (.iload 4, 2) := by decide +kernel
theorem dX4_cycles_20 : decode cX4_cycles 20 = .ok (.aload_n 0, 1) := by decide +kernel
theorem dX4_cycles_21 : decode cX4_cycles 21 = .ok (.getfield 70, 3) := by decide +kernel
theorem dX4_cycles_24 : decode cX4_cycles 24 = .ok (.if_icmp .ge 35, 3) := by decide +kernel
theorem dX4_cycles_27 : decode cX4_cycles 27 = .ok (.lload_n 2, 1) := by decide +kernel
theorem dX4_cycles_28 : decode cX4_cycles 28 = .ok (.aload_n 0, 1) := by decide +kernel
theorem dX4_cycles_29 : decode cX4_cycles 29 = .ok (.getfield 57, 3) := by decide +kernel
theorem dX4_cycles_32 : decode cX4_cycles 32 = .ok (.iload 4, 2) := by decide +kernel
theorem dX4_cycles_34 : decode cX4_cycles 34 = .ok (.iaload, 1) := by decide +kernel
theorem dX4_cycles_35 : decode cX4_cycles 35 = .ok (.iload_n 1, 1) := by decide +kernel
theorem dX4_cycles_36 : decode cX4_cycles 36 = .ok (.if_icmp .ne 14, 3) := by decide +kernel
theorem dX4_cycles_39 : decode cX4_cycles 39 = .ok (.aload_n 0, 1) := by decide +kernel
theorem dX4_cycles_40 : decode cX4_cycles 40 = .ok (.getfield 51, 3) := by decide +kernel
theorem dX4_cycles_43 : decode cX4_cycles 43 = .ok (.iload 4, 2) := by decide +kernel
theorem dX4_cycles_45 : decode cX4_cycles 45 = .ok (.iaload, 1) := by decide +kernel
theorem dX4_cycles_46 : decode cX4_cycles 46 = .ok (.i2l, 1) := by decide +kernel
theorem dX4_cycles_47 : decode cX4_cycles 47 = .ok (.goto 4, 3) := by decide +kernel
theorem dX4_cycles_50 : decode cX4_cycles 50 = .ok (.lconst 0, 1) := by decide +kernel
theorem dX4_cycles_51 : decode cX4_cycles 51 = .ok (.ladd, 1) := by decide +kernel
theorem dX4_cycles_52 : decode cX4_cycles 52 = .ok (.lstore_n 2, 1) := by decide +kernel
theorem dX4_cycles_53 : decode cX4_cycles 53 = .ok (.iinc 4 1, 3) := by decide +kernel
theorem dX4_cycles_56 : decode cX4_cycles 56 = .ok (.goto (-38), 3) := by decide +kernel
theorem dX4_cycles_59 : decode cX4_cycles 59 = .ok (.lload_n 2, 1) := by decide +kernel
theorem dX4_cycles_60 : decode cX4_cycles 60 = .ok (.lreturn, 1) := by decide +kernel
theorem dX4_fetched_0 : decode cX4_fetched 0 = .ok (.aload_n 0, 1) := by decide +kernel
theorem dX4_fetched_1 : decode cX4_fetched 1 = .ok (.iload_n 1, 1) := by decide +kernel
theorem dX4_fetched_2 : decode cX4_fetched 2 = .ok (.invokestatic 130, 3) := by decide +kernel
theorem dX4_fetched_5 : decode cX4_fetched 5 = .ok (.invokevirtual 92, 3) := by decide +kernel
theorem dX4_fetched_8 : decode cX4_fetched 8 = .ok (.ifCond .le 7, 3) := by decide +kernel
theorem dX4_fetched_11 : decode cX4_fetched 11 = .ok (.iconst 0, 1) := by decide +kernel
theorem dX4_fetched_12 : decode cX4_fetched 12 = .ok (.goto 9, 3) := by decide +kernel
theorem dX4_fetched_15 : decode cX4_fetched 15 = .ok (.aload_n 0, 1) := by decide +kernel
theorem dX4_fetched_16 : decode cX4_fetched 16 = .ok (.getfield 42, 3) := by decide +kernel
theorem dX4_fetched_19 : decode cX4_fetched 19 = .ok (.iload_n 1, 1) := by decide +kernel
theorem dX4_fetched_20 : decode cX4_fetched 20 = .ok (.iaload, 1) := by decide +kernel
theorem dX4_fetched_21 : decode cX4_fetched 21 = .ok (.ireturn, 1) := by decide +kernel
theorem dX4_useful_0 : decode cX4_useful 0 = .ok (.aload_n 0, 1) := by decide +kernel
theorem dX4_useful_1 : decode cX4_useful 1 = .ok (.iload_n 1, 1) := by decide +kernel
theorem dX4_useful_2 : decode cX4_useful 2 = .ok (.invokestatic 130, 3) := by decide +kernel
theorem dX4_useful_5 : decode cX4_useful 5 = .ok (.invokevirtual 92, 3) := by decide +kernel
theorem dX4_useful_8 : decode cX4_useful 8 = .ok (.ifCond .le 7, 3) := by decide +kernel
theorem dX4_useful_11 : decode cX4_useful 11 = .ok (.iconst 0, 1) := by decide +kernel
theorem dX4_useful_12 : decode cX4_useful 12 = .ok (.goto 9, 3) := by decide +kernel
theorem dX4_useful_15 : decode cX4_useful 15 = .ok (.aload_n 0, 1) := by decide +kernel
theorem dX4_useful_16 : decode cX4_useful 16 = .ok (.getfield 45, 3) := by decide +kernel
theorem dX4_useful_19 : decode cX4_useful 19 = .ok (.iload_n 1, 1) := by decide +kernel
theorem dX4_useful_20 : decode cX4_useful 20 = .ok (.iaload, 1) := by decide +kernel
theorem dX4_useful_21 : decode cX4_useful 21 = .ok (.ireturn, 1) := by decide +kernel
theorem dX4_wrong_0 : decode cX4_wrong 0 = .ok (.aload_n 0, 1) := by decide +kernel
theorem dX4_wrong_1 : decode cX4_wrong 1 = .ok (.iload_n 1, 1) := by decide +kernel
theorem dX4_wrong_2 : decode cX4_wrong 2 = .ok (.invokestatic 130, 3) := by decide +kernel
theorem dX4_wrong_5 : decode cX4_wrong 5 = .ok (.invokevirtual 92, 3) := by decide +kernel
theorem dX4_wrong_8 : decode cX4_wrong 8 = .ok (.ifCond .le 7, 3) := by decide +kernel
theorem dX4_wrong_11 : decode cX4_wrong 11 = .ok (.iconst 0, 1) := by decide +kernel
theorem dX4_wrong_12 : decode cX4_wrong 12 = .ok (.goto 9, 3) := by decide +kernel
theorem dX4_wrong_15 : decode cX4_wrong 15 = .ok (.aload_n 0, 1) := by decide +kernel
theorem dX4_wrong_16 : decode cX4_wrong 16 = .ok (.getfield 48, 3) := by decide +kernel
theorem dX4_wrong_19 : decode cX4_wrong 19 = .ok (.iload_n 1, 1) := by decide +kernel
theorem dX4_wrong_20 : decode cX4_wrong 20 = .ok (.iaload, 1) := by decide +kernel
theorem dX4_wrong_21 : decode cX4_wrong 21 = .ok (.ireturn, 1) := by decide +kernel
theorem dX4_missShare_0 : decode cX4_missShare 0 = .ok (.iconst 0, 1) := by decide +kernel
theorem dX4_missShare_1 : decode cX4_missShare 1 = .ok (.istore_n 1, 1) := by decide +kernel
theorem dX4_missShare_2 : decode cX4_missShare 2 = .ok (.iconst 0, 1) := by decide +kernel
theorem dX4_missShare_3 : decode cX4_missShare 3 = .ok (.istore_n 2, 1) := by decide +kernel
theorem dX4_missShare_4 : decode cX4_missShare 4 = .ok (.iload_n 2, 1) := by decide +kernel
theorem dX4_missShare_5 : decode cX4_missShare 5 = .ok (.aload_n 0, 1) := by decide +kernel
theorem dX4_missShare_6 : decode cX4_missShare 6 = .ok (.getfield 70, 3) := by decide +kernel
theorem dX4_missShare_9 : decode cX4_missShare 9 = .ok (.if_icmp .ge 39, 3) := by decide +kernel
theorem dX4_missShare_12 : decode cX4_missShare 12 = .ok (.iload_n 1, 1) := by decide +kernel
theorem dX4_missShare_13 : decode cX4_missShare 13 = .ok (.aload_n 0, 1) := by decide +kernel
theorem dX4_missShare_14 : decode cX4_missShare 14 = .ok (.getfield 60, 3) := by decide +kernel
theorem dX4_missShare_17 : decode cX4_missShare 17 = .ok (.iload_n 2, 1) := by decide +kernel
theorem dX4_missShare_18 : decode cX4_missShare 18 = .ok (.caload, 1) := by decide +kernel
theorem dX4_missShare_19 : decode cX4_missShare 19 = .ok (.bipush 104, 2) := by decide +kernel
theorem dX4_missShare_21 : decode cX4_missShare 21 = .ok (.if_icmp .eq 14, 3) := by decide +kernel
theorem dX4_missShare_24 : decode cX4_missShare 24 = .ok (.aload_n 0, 1) := by decide +kernel
theorem dX4_missShare_25 : decode cX4_missShare 25 = .ok (.getfield 60, 3) := by decide +kernel
theorem dX4_missShare_28 : decode cX4_missShare 28 = .ok (.iload_n 2, 1) := by decide +kernel
theorem dX4_missShare_29 : decode cX4_missShare 29 = .ok (.caload, 1) := by decide +kernel
theorem dX4_missShare_30 : decode cX4_missShare 30 = .ok (.bipush 117, 2) := by decide +kernel
theorem dX4_missShare_32 : decode cX4_missShare 32 = .ok (.if_icmp .ne 7, 3) := by decide +kernel
theorem dX4_missShare_35 : decode cX4_missShare 35 = .ok (.iconst 0, 1) := by decide +kernel
theorem dX4_missShare_36 : decode cX4_missShare 36 = .ok (.goto 4, 3) := by decide +kernel
theorem dX4_missShare_39 : decode cX4_missShare 39 = .ok (.iconst 1, 1) := by decide +kernel
theorem dX4_missShare_40 : decode cX4_missShare 40 = .ok (.iadd, 1) := by decide +kernel
theorem dX4_missShare_41 : decode cX4_missShare 41 = .ok (.istore_n 1, 1) := by decide +kernel
theorem dX4_missShare_42 : decode cX4_missShare 42 = .ok (.iinc 2 1, 3) := by decide +kernel
theorem dX4_missShare_45 : decode cX4_missShare 45 = .ok (.goto (-41), 3) := by decide +kernel
theorem dX4_missShare_48 : decode cX4_missShare 48 = .ok (.aload_n 0, 1) := by decide +kernel
theorem dX4_missShare_49 : decode cX4_missShare 49 = .ok (.aload_n 0, 1) := by decide +kernel
theorem dX4_missShare_50 : decode cX4_missShare 50 = .ok (.getfield 70, 3) := by decide +kernel
theorem dX4_missShare_53 : decode cX4_missShare 53 = .ok (.ifCond .le 7, 3) := by decide +kernel
theorem dX4_missShare_56 : decode cX4_missShare 56 = .ok (.iconst 1, 1) := by decide +kernel
theorem dX4_missShare_57 : decode cX4_missShare 57 = .ok (.goto 4, 3) := by decide +kernel
theorem dX4_missShare_60 : decode cX4_missShare 60 = .ok (.iconst 0, 1) := by decide +kernel
theorem dX4_missShare_61 : decode cX4_missShare 61 = .ok (.invokevirtual 92, 3) := by decide +kernel
theorem dX4_missShare_64 : decode cX4_missShare 64 = .ok (.ifCond .le 7, 3) := by decide +kernel
theorem dX4_missShare_67 : decode cX4_missShare 67 = .ok (.fconst 0, 1) := by decide +kernel
theorem dX4_missShare_68 : decode cX4_missShare 68 = .ok (.goto 11, 3) := by decide +kernel
theorem dX4_missShare_71 : decode cX4_missShare 71 = .ok (.iload_n 1, 1) := by decide +kernel
theorem dX4_missShare_72 : decode cX4_missShare 72 = .ok (.i2f, 1) := by decide +kernel
theorem dX4_missShare_73 : decode cX4_missShare 73 = .ok (.aload_n 0, 1) := by decide +kernel
theorem dX4_missShare_74 : decode cX4_missShare 74 = .ok (.getfield 70, 3) := by decide +kernel
theorem dX4_missShare_77 : decode cX4_missShare 77 = .ok (.i2f, 1) := by decide +kernel
theorem dX4_missShare_78 : decode cX4_missShare 78 = .ok (.fdiv, 1) := by decide +kernel
theorem dX4_missShare_79 : decode cX4_missShare 79 = .ok (.freturn, 1) := by decide +kernel
theorem dX4_meanCost_0 : decode cX4_meanCost 0 = .ok (.lconst 0, 1) := by decide +kernel
theorem dX4_meanCost_1 : decode cX4_meanCost 1 = .ok (.lstore_n 1, 1) := by decide +kernel
theorem dX4_meanCost_2 : decode cX4_meanCost 2 = .ok (.iconst 0, 1) := by decide +kernel
theorem dX4_meanCost_3 : decode cX4_meanCost 3 = .ok (.istore_n 3, 1) := by decide +kernel
theorem dX4_meanCost_4 : decode cX4_meanCost 4 = .ok (.iload_n 3, 1) := by decide +kernel
theorem dX4_meanCost_5 : decode cX4_meanCost 5 = .ok (.aload_n 0, 1) := by decide +kernel
theorem dX4_meanCost_6 : decode cX4_meanCost 6 = .ok (.getfield 70, 3) := by decide +kernel
theorem dX4_meanCost_9 : decode cX4_meanCost 9 = .ok (.if_icmp .ge 19, 3) := by decide +kernel
theorem dX4_meanCost_12 : decode cX4_meanCost 12 = .ok (.lload_n 1, 1) := by decide +kernel
theorem dX4_meanCost_13 : decode cX4_meanCost 13 = .ok (.aload_n 0, 1) := by decide +kernel
theorem dX4_meanCost_14 : decode cX4_meanCost 14 = .ok (.getfield 51, 3) := by decide +kernel
theorem dX4_meanCost_17 : decode cX4_meanCost 17 = .ok (.iload_n 3, 1) := by decide +kernel
theorem dX4_meanCost_18 : decode cX4_meanCost 18 = .ok (.iaload, 1) := by decide +kernel
theorem dX4_meanCost_19 : decode cX4_meanCost 19 = .ok (.i2l, 1) := by decide +kernel
theorem dX4_meanCost_20 : decode cX4_meanCost 20 = .ok (.ladd, 1) := by decide +kernel
theorem dX4_meanCost_21 : decode cX4_meanCost 21 = .ok (.lstore_n 1, 1) := by decide +kernel
theorem dX4_meanCost_22 : decode cX4_meanCost 22 = .ok (.iinc 3 1, 3) := by decide +kernel
theorem dX4_meanCost_25 : decode cX4_meanCost 25 = .ok (.goto (-21), 3) := by decide +kernel
theorem dX4_meanCost_28 : decode cX4_meanCost 28 = .ok (.aload_n 0, 1) := by decide +kernel
theorem dX4_meanCost_29 : decode cX4_meanCost 29 = .ok (.aload_n 0, 1) := by decide +kernel
theorem dX4_meanCost_30 : decode cX4_meanCost 30 = .ok (.getfield 70, 3) := by decide +kernel
theorem dX4_meanCost_33 : decode cX4_meanCost 33 = .ok (.ifCond .le 7, 3) := by decide +kernel
theorem dX4_meanCost_36 : decode cX4_meanCost 36 = .ok (.iconst 1, 1) := by decide +kernel
theorem dX4_meanCost_37 : decode cX4_meanCost 37 = .ok (.goto 4, 3) := by decide +kernel
theorem dX4_meanCost_40 : decode cX4_meanCost 40 = .ok (.iconst 0, 1) := by decide +kernel
theorem dX4_meanCost_41 : decode cX4_meanCost 41 = .ok (.invokevirtual 92, 3) := by decide +kernel
theorem dX4_meanCost_44 : decode cX4_meanCost 44 = .ok (.ifCond .le 7, 3) := by decide +kernel
theorem dX4_meanCost_47 : decode cX4_meanCost 47 = .ok (.dconst 0, 1) := by decide +kernel
theorem dX4_meanCost_48 : decode cX4_meanCost 48 = .ok (.goto 11, 3) := by decide +kernel
theorem dX4_meanCost_51 : decode cX4_meanCost 51 = .ok (.lload_n 1, 1) := by decide +kernel
theorem dX4_meanCost_52 : decode cX4_meanCost 52 = .ok (.l2d, 1) := by decide +kernel
theorem dX4_meanCost_53 : decode cX4_meanCost 53 = .ok (.aload_n 0, 1) := by decide +kernel
theorem dX4_meanCost_54 : decode cX4_meanCost 54 = .ok (.getfield 70, 3) := by decide +kernel
theorem dX4_meanCost_57 : decode cX4_meanCost 57 = .ok (.i2d, 1) := by decide +kernel
theorem dX4_meanCost_58 : decode cX4_meanCost 58 = .ok (.ddiv, 1) := by decide +kernel
theorem dX4_meanCost_59 : decode cX4_meanCost 59 = .ok (.dreturn, 1) := by decide +kernel
theorem dX4_isCoherent_0 : decode cX4_isCoherent 0 = .ok (.aload_n 0, 1) := by decide +kernel
theorem dX4_isCoherent_1 : decode cX4_isCoherent 1 = .ok (.iconst 0, 1) := by decide +kernel
theorem dX4_isCoherent_2 : decode cX4_isCoherent 2 = .ok (.putfield 63, 3) := by decide +kernel
theorem dX4_isCoherent_5 : decode cX4_isCoherent 5 = .ok (.iconst 1, 1) := by decide +kernel
theorem dX4_isCoherent_6 : decode cX4_isCoherent 6 = .ok (.ireturn, 1) := by decide +kernel
theorem dJx00060_init_a7421_0 : decode cJx00060_init_a7421 0 = .ok (.aload_n 0, 1) := by decide +kernel
theorem dJx00060_init_a7421_1 : decode cJx00060_init_a7421 1 = .ok (.aload_n 1, 1) := by decide +kernel
theorem dJx00060_init_a7421_2 : decode cJx00060_init_a7421 2 = .ok (.invokespecial 7, 3) := by decide +kernel
theorem dJx00060_init_a7421_5 : decode cJx00060_init_a7421 5 = .ok (.return_, 1) := by decide +kernel
theorem dJ9_max_7cf53_0 : decode cJ9_max_7cf53 0 = .ok (.iload_n 0, 1) := by decide +kernel
theorem dJ9_max_7cf53_1 : decode cJ9_max_7cf53 1 = .ok (.iload_n 1, 1) := by decide +kernel
theorem dJ9_max_7cf53_2 : decode cJ9_max_7cf53 2 = .ok (.if_icmp .lt 7, 3) := by decide +kernel
theorem dJ9_max_7cf53_5 : decode cJ9_max_7cf53 5 = .ok (.iload_n 0, 1) := by decide +kernel
theorem dJ9_max_7cf53_6 : decode cJ9_max_7cf53 6 = .ok (.goto 4, 3) := by decide +kernel
theorem dJ9_max_7cf53_9 : decode cJ9_max_7cf53 9 = .ok (.iload_n 1, 1) := by decide +kernel
theorem dJ9_max_7cf53_10 : decode cJ9_max_7cf53 10 = .ok (.ireturn, 1) := by decide +kernel
theorem dJ9_min_7cf53_0 : decode cJ9_min_7cf53 0 = .ok (.iload_n 0, 1) := by decide +kernel
theorem dJ9_min_7cf53_1 : decode cJ9_min_7cf53 1 = .ok (.iload_n 1, 1) := by decide +kernel
theorem dJ9_min_7cf53_2 : decode cJ9_min_7cf53 2 = .ok (.if_icmp .gt 7, 3) := by decide +kernel
theorem dJ9_min_7cf53_5 : decode cJ9_min_7cf53 5 = .ok (.iload_n 0, 1) := by decide +kernel
theorem dJ9_min_7cf53_6 : decode cJ9_min_7cf53 6 = .ok (.goto 4, 3) := by decide +kernel
theorem dJ9_min_7cf53_9 : decode cJ9_min_7cf53 9 = .ok (.iload_n 1, 1) := by decide +kernel
theorem dJ9_min_7cf53_10 : decode cJ9_min_7cf53 10 = .ok (.ireturn, 1) := by decide +kernel
theorem dJxa1e45_init_da8c8_0 : decode cJxa1e45_init_da8c8 0 = .ok (.aload_n 0, 1) := by decide +kernel
theorem dJxa1e45_init_da8c8_1 : decode cJxa1e45_init_da8c8 1 = .ok (.invokespecial 1, 3) := by decide +kernel
theorem dJxa1e45_init_da8c8_4 : decode cJxa1e45_init_da8c8 4 = .ok (.return_, 1) := by decide +kernel
theorem dJxc12de_init_da8c8_0 : decode cJxc12de_init_da8c8 0 = .ok (.aload_n 0, 1) := by decide +kernel
theorem dJxc12de_init_da8c8_1 : decode cJxc12de_init_da8c8 1 = .ok (.invokespecial 1, 3) := by decide +kernel
theorem dJxc12de_init_da8c8_4 : decode cJxc12de_init_da8c8 4 = .ok (.aload_n 0, 1) := by decide +kernel
theorem dJxc12de_init_da8c8_5 : decode cJxc12de_init_da8c8 5 = .ok (.iconst 0, 1) := by decide +kernel
theorem dJxc12de_init_da8c8_6 : decode cJxc12de_init_da8c8 6 = .ok (.putfield 7, 3) := by decide +kernel
theorem dJxc12de_init_da8c8_9 : decode cJxc12de_init_da8c8 9 = .ok (.return_, 1) := by decide +kernel
theorem dJx4a65c_init_da8c8_0 : decode cJx4a65c_init_da8c8 0 = .ok (.aload_n 0, 1) := by decide +kernel
theorem dJx4a65c_init_da8c8_1 : decode cJx4a65c_init_da8c8 1 = .ok (.invokespecial 1, 3) := by decide +kernel
theorem dJx4a65c_init_da8c8_4 : decode cJx4a65c_init_da8c8 4 = .ok (.aload_n 0, 1) := by decide +kernel
theorem dJx4a65c_init_da8c8_5 : decode cJx4a65c_init_da8c8 5 = .ok (.getstatic 39, 3) := by decide +kernel
theorem dJx4a65c_init_da8c8_8 : decode cJx4a65c_init_da8c8 8 = .ok (.putfield 9, 3) := by decide +kernel
theorem dJx4a65c_init_da8c8_11 : decode cJx4a65c_init_da8c8 11 = .ok (.return_, 1) := by decide +kernel
theorem dJx4a65c_grow_92f84_0 : decode cJx4a65c_grow_92f84 0 = .ok (.aload_n 0, 1) := by decide +kernel
theorem dJx4a65c_grow_92f84_1 : decode cJx4a65c_grow_92f84 1 = .ok (.getfield 9, 3) := by decide +kernel
theorem dJx4a65c_grow_92f84_4 : decode cJx4a65c_grow_92f84 4 = .ok (.arraylength, 1) := by decide +kernel
theorem dJx4a65c_grow_92f84_5 : decode cJx4a65c_grow_92f84 5 = .ok (.istore_n 2, 1) := by decide +kernel
theorem dJx4a65c_grow_92f84_6 : decode cJx4a65c_grow_92f84 6 = .ok (.iload_n 2, 1) := by decide +kernel
theorem dJx4a65c_grow_92f84_7 : decode cJx4a65c_grow_92f84 7 = .ok (.ifCond .gt 13, 3) := by decide +kernel
theorem dJx4a65c_grow_92f84_10 : decode cJx4a65c_grow_92f84 10 = .ok (.aload_n 0, 1) := by decide +kernel
theorem dJx4a65c_grow_92f84_11 : decode cJx4a65c_grow_92f84 11 = .ok (.getfield 9, 3) := by decide +kernel
theorem dJx4a65c_grow_92f84_14 : decode cJx4a65c_grow_92f84 14 = .ok (.getstatic 39, 3) := by decide +kernel
theorem dJx4a65c_grow_92f84_17 : decode cJx4a65c_grow_92f84 17 = .ok (.if_acmp .eq 28, 3) := by decide +kernel
theorem dJx4a65c_grow_92f84_20 : decode cJx4a65c_grow_92f84 20 = .ok (.iload_n 2, 1) := by decide +kernel
theorem dJx4a65c_grow_92f84_21 : decode cJx4a65c_grow_92f84 21 = .ok (.iload_n 1, 1) := by decide +kernel
theorem dJx4a65c_grow_92f84_22 : decode cJx4a65c_grow_92f84 22 = .ok (.iload_n 2, 1) := by decide +kernel
theorem dJx4a65c_grow_92f84_23 : decode cJx4a65c_grow_92f84 23 = .ok (.isub, 1) := by decide +kernel
theorem dJx4a65c_grow_92f84_24 : decode cJx4a65c_grow_92f84 24 = .ok (.iload_n 2, 1) := by decide +kernel
theorem dJx4a65c_grow_92f84_25 : decode cJx4a65c_grow_92f84 25 = .ok (.iconst 1, 1) := by decide +kernel
theorem dJx4a65c_grow_92f84_26 : decode cJx4a65c_grow_92f84 26 = .ok (.ishr, 1) := by decide +kernel
theorem dJx4a65c_grow_92f84_27 : decode cJx4a65c_grow_92f84 27 = .ok (.invokestatic 73, 3) := by decide +kernel
theorem dJx4a65c_grow_92f84_30 : decode cJx4a65c_grow_92f84 30 = .ok (.istore_n 3, 1) := by decide +kernel
theorem dJx4a65c_grow_92f84_31 : decode cJx4a65c_grow_92f84 31 = .ok (.aload_n 0, 1) := by decide +kernel
theorem dJx4a65c_grow_92f84_32 : decode cJx4a65c_grow_92f84 32 = .ok (.aload_n 0, 1) := by decide +kernel
theorem dJx4a65c_grow_92f84_33 : decode cJx4a65c_grow_92f84 33 = .ok (.getfield 9, 3) := by decide +kernel
theorem dJx4a65c_grow_92f84_36 : decode cJx4a65c_grow_92f84 36 = .ok (.iload_n 3, 1) := by decide +kernel
theorem dJx4a65c_grow_92f84_37 : decode cJx4a65c_grow_92f84 37 = .ok (.invokestatic 66, 3) := by decide +kernel
theorem dJx4a65c_grow_92f84_40 : decode cJx4a65c_grow_92f84 40 = .ok (.dup_x1, 1) := by decide +kernel
theorem dJx4a65c_grow_92f84_41 : decode cJx4a65c_grow_92f84 41 = .ok (.putfield 9, 3) := by decide +kernel
theorem dJx4a65c_grow_92f84_44 : decode cJx4a65c_grow_92f84 44 = .ok (.areturn, 1) := by decide +kernel
theorem dJx4a65c_grow_92f84_45 : decode cJx4a65c_grow_92f84 45 = .ok (.aload_n 0, 1) := by decide +kernel
theorem dJx4a65c_grow_92f84_46 : decode cJx4a65c_grow_92f84 46 = .ok (.bipush 10, 2) := by decide +kernel
theorem dJx4a65c_grow_92f84_48 : decode cJx4a65c_grow_92f84 48 = .ok (.iload_n 1, 1) := by decide +kernel
theorem dJx4a65c_grow_92f84_49 : decode cJx4a65c_grow_92f84 49 = .ok (.invokestatic 79, 3) := by decide +kernel
theorem dJx4a65c_grow_92f84_52 : decode cJx4a65c_grow_92f84 52 = .ok (.anewarray 7, 3) := by decide +kernel
theorem dJx4a65c_grow_92f84_55 : decode cJx4a65c_grow_92f84 55 = .ok (.dup_x1, 1) := by decide +kernel
theorem dJx4a65c_grow_92f84_56 : decode cJx4a65c_grow_92f84 56 = .ok (.putfield 9, 3) := by decide +kernel
theorem dJx4a65c_grow_92f84_59 : decode cJx4a65c_grow_92f84 59 = .ok (.areturn, 1) := by decide +kernel
theorem dJx4a65c_grow_d5877_0 : decode cJx4a65c_grow_d5877 0 = .ok (.aload_n 0, 1) := by decide +kernel
theorem dJx4a65c_grow_d5877_1 : decode cJx4a65c_grow_d5877 1 = .ok (.aload_n 0, 1) := by decide +kernel
theorem dJx4a65c_grow_d5877_2 : decode cJx4a65c_grow_d5877 2 = .ok (.getfield 48, 3) := by decide +kernel
theorem dJx4a65c_grow_d5877_5 : decode cJx4a65c_grow_d5877 5 = .ok (.iconst 1, 1) := by decide +kernel
theorem dJx4a65c_grow_d5877_6 : decode cJx4a65c_grow_d5877 6 = .ok (.iadd, 1) := by decide +kernel
theorem dJx4a65c_grow_d5877_7 : decode cJx4a65c_grow_d5877 7 = .ok (.invokevirtual 69, 3) := by decide +kernel
theorem dJx4a65c_grow_d5877_10 : decode cJx4a65c_grow_d5877 10 = .ok (.areturn, 1) := by decide +kernel
theorem dJx4a65c_size_8abf5_0 : decode cJx4a65c_size_8abf5 0 = .ok (.aload_n 0, 1) := by decide +kernel
theorem dJx4a65c_size_8abf5_1 : decode cJx4a65c_size_8abf5 1 = .ok (.getfield 48, 3) := by decide +kernel
theorem dJx4a65c_size_8abf5_4 : decode cJx4a65c_size_8abf5 4 = .ok (.ireturn, 1) := by decide +kernel
theorem dJx4a65c_isEmpty_aae02_0 : decode cJx4a65c_isEmpty_aae02 0 = .ok (.aload_n 0, 1) := by decide +kernel
theorem dJx4a65c_isEmpty_aae02_1 : decode cJx4a65c_isEmpty_aae02 1 = .ok (.getfield 48, 3) := by decide +kernel
theorem dJx4a65c_isEmpty_aae02_4 : decode cJx4a65c_isEmpty_aae02 4 = .ok (.ifCond .ne 7, 3) := by decide +kernel
theorem dJx4a65c_isEmpty_aae02_7 : decode cJx4a65c_isEmpty_aae02 7 = .ok (.iconst 1, 1) := by decide +kernel
theorem dJx4a65c_isEmpty_aae02_8 : decode cJx4a65c_isEmpty_aae02 8 = .ok (.goto 4, 3) := by decide +kernel
theorem dJx4a65c_isEmpty_aae02_11 : decode cJx4a65c_isEmpty_aae02 11 = .ok (.iconst 0, 1) := by decide +kernel
theorem dJx4a65c_isEmpty_aae02_12 : decode cJx4a65c_isEmpty_aae02 12 = .ok (.ireturn, 1) := by decide +kernel
theorem dJx4a65c_elementData_915e3_0 : decode cJx4a65c_elementData_915e3 0 = .ok (.aload_n 0, 1) := by decide +kernel
theorem dJx4a65c_elementData_915e3_1 : decode cJx4a65c_elementData_915e3 1 = .ok (.getfield 9, 3) := by decide +kernel
theorem dJx4a65c_elementData_915e3_4 : decode cJx4a65c_elementData_915e3 4 = .ok (.iload_n 1, 1) := by decide +kernel
theorem dJx4a65c_elementData_915e3_5 : decode cJx4a65c_elementData_915e3 5 = .ok (.aaload, 1) := by decide +kernel
theorem dJx4a65c_elementData_915e3_6 : decode cJx4a65c_elementData_915e3 6 = .ok (.areturn, 1) := by decide +kernel
theorem dJx4a65c_get_915e3_0 : decode cJx4a65c_get_915e3 0 = .ok (.iload_n 1, 1) := by decide +kernel
theorem dJx4a65c_get_915e3_1 : decode cJx4a65c_get_915e3 1 = .ok (.aload_n 0, 1) := by decide +kernel
theorem dJx4a65c_get_915e3_2 : decode cJx4a65c_get_915e3 2 = .ok (.getfield 48, 3) := by decide +kernel
theorem dJx4a65c_get_915e3_5 : decode cJx4a65c_get_915e3 5 = .ok (.invokestatic 118, 3) := by decide +kernel
theorem dJx4a65c_get_915e3_8 : decode cJx4a65c_get_915e3 8 = .ok (.pop, 1) := by decide +kernel
theorem dJx4a65c_get_915e3_9 : decode cJx4a65c_get_915e3 9 = .ok (.aload_n 0, 1) := by decide +kernel
theorem dJx4a65c_get_915e3_10 : decode cJx4a65c_get_915e3 10 = .ok (.iload_n 1, 1) := by decide +kernel
theorem dJx4a65c_get_915e3_11 : decode cJx4a65c_get_915e3 11 = .ok (.invokevirtual 123, 3) := by decide +kernel
theorem dJx4a65c_get_915e3_14 : decode cJx4a65c_get_915e3 14 = .ok (.areturn, 1) := by decide +kernel
theorem dJx4a65c_add_72be8_0 : decode cJx4a65c_add_72be8 0 = .ok (.iload_n 3, 1) := by decide +kernel
theorem dJx4a65c_add_72be8_1 : decode cJx4a65c_add_72be8 1 = .ok (.aload_n 2, 1) := by decide +kernel
theorem dJx4a65c_add_72be8_2 : decode cJx4a65c_add_72be8 2 = .ok (.arraylength, 1) := by decide +kernel
theorem dJx4a65c_add_72be8_3 : decode cJx4a65c_add_72be8 3 = .ok (.if_icmp .ne 8, 3) := by decide +kernel
theorem dJx4a65c_add_72be8_6 : decode cJx4a65c_add_72be8 6 = .ok (.aload_n 0, 1) := by decide +kernel
theorem dJx4a65c_add_72be8_7 : decode cJx4a65c_add_72be8 7 = .ok (.invokevirtual 129, 3) := by decide +kernel
theorem dJx4a65c_add_72be8_10 : decode cJx4a65c_add_72be8 10 = .ok (.astore_n 2, 1) := by decide +kernel
theorem dJx4a65c_add_72be8_11 : decode cJx4a65c_add_72be8 11 = .ok (.aload_n 2, 1) := by decide +kernel
theorem dJx4a65c_add_72be8_12 : decode cJx4a65c_add_72be8 12 = .ok (.iload_n 3, 1) := by decide +kernel
theorem dJx4a65c_add_72be8_13 : decode cJx4a65c_add_72be8 13 = .ok (.aload_n 1, 1) := by decide +kernel
theorem dJx4a65c_add_72be8_14 : decode cJx4a65c_add_72be8 14 = .ok (.aastore, 1) := by decide +kernel
theorem dJx4a65c_add_72be8_15 : decode cJx4a65c_add_72be8 15 = .ok (.aload_n 0, 1) := by decide +kernel
theorem dJx4a65c_add_72be8_16 : decode cJx4a65c_add_72be8 16 = .ok (.iload_n 3, 1) := by decide +kernel
theorem dJx4a65c_add_72be8_17 : decode cJx4a65c_add_72be8 17 = .ok (.iconst 1, 1) := by decide +kernel
theorem dJx4a65c_add_72be8_18 : decode cJx4a65c_add_72be8 18 = .ok (.iadd, 1) := by decide +kernel
theorem dJx4a65c_add_72be8_19 : decode cJx4a65c_add_72be8 19 = .ok (.putfield 48, 3) := by decide +kernel
theorem dJx4a65c_add_72be8_22 : decode cJx4a65c_add_72be8 22 = .ok (.return_, 1) := by decide +kernel
theorem dJx4a65c_add_9ea2d_0 : decode cJx4a65c_add_9ea2d 0 = .ok (.aload_n 0, 1) := by decide +kernel
theorem dJx4a65c_add_9ea2d_1 : decode cJx4a65c_add_9ea2d 1 = .ok (.dup, 1) := by decide +kernel
theorem dJx4a65c_add_9ea2d_2 : decode cJx4a65c_add_9ea2d 2 = .ok (.getfield 63, 3) := by decide +kernel
theorem dJx4a65c_add_9ea2d_5 : decode cJx4a65c_add_9ea2d 5 = .ok (.iconst 1, 1) := by decide +kernel
theorem dJx4a65c_add_9ea2d_6 : decode cJx4a65c_add_9ea2d 6 = .ok (.iadd, 1) := by decide +kernel
theorem dJx4a65c_add_9ea2d_7 : decode cJx4a65c_add_9ea2d 7 = .ok (.putfield 63, 3) := by decide +kernel
theorem dJx4a65c_add_9ea2d_10 : decode cJx4a65c_add_9ea2d 10 = .ok (.aload_n 0, 1) := by decide +kernel
theorem dJx4a65c_add_9ea2d_11 : decode cJx4a65c_add_9ea2d 11 = .ok (.aload_n 1, 1) := by decide +kernel
theorem dJx4a65c_add_9ea2d_12 : decode cJx4a65c_add_9ea2d 12 = .ok (.aload_n 0, 1) := by decide +kernel
theorem dJx4a65c_add_9ea2d_13 : decode cJx4a65c_add_9ea2d 13 = .ok (.getfield 9, 3) := by decide +kernel
theorem dJx4a65c_add_9ea2d_16 : decode cJx4a65c_add_9ea2d 16 = .ok (.aload_n 0, 1) := by decide +kernel
theorem dJx4a65c_add_9ea2d_17 : decode cJx4a65c_add_9ea2d 17 = .ok (.getfield 48, 3) := by decide +kernel
theorem dJx4a65c_add_9ea2d_20 : decode cJx4a65c_add_9ea2d 20 = .ok (.invokevirtual 131, 3) := by decide +kernel
theorem dJx4a65c_add_9ea2d_23 : decode cJx4a65c_add_9ea2d 23 = .ok (.iconst 1, 1) := by decide +kernel
theorem dJx4a65c_add_9ea2d_24 : decode cJx4a65c_add_9ea2d 24 = .ok (.ireturn, 1) := by decide +kernel
theorem dJ7_copyOf_1904c_0 : decode cJ7_copyOf_1904c 0 = .ok (.aload_n 0, 1) := by decide +kernel
theorem dJ7_copyOf_1904c_1 : decode cJ7_copyOf_1904c 1 = .ok (.iload_n 1, 1) := by decide +kernel
theorem dJ7_copyOf_1904c_2 : decode cJ7_copyOf_1904c 2 = .ok (.aload_n 0, 1) := by decide +kernel
theorem dJ7_copyOf_1904c_3 : decode cJ7_copyOf_1904c 3 = .ok (.invokevirtual 86, 3) := by decide +kernel
theorem dJ7_copyOf_1904c_6 : decode cJ7_copyOf_1904c 6 = .ok (.invokestatic 300, 3) := by decide +kernel
theorem dJ7_copyOf_1904c_9 : decode cJ7_copyOf_1904c 9 = .ok (.areturn, 1) := by decide +kernel
theorem dJ7_copyOf_6403c_0 : decode cJ7_copyOf_6403c 0 = .ok (.aload_n 2, 1) := by decide +kernel
theorem dJ7_copyOf_6403c_1 : decode cJ7_copyOf_6403c 1 = .ok (.ldc 110, 2) := by decide +kernel
theorem dJ7_copyOf_6403c_3 : decode cJ7_copyOf_6403c 3 = .ok (.if_acmp .ne 10, 3) := by decide +kernel
theorem dJ7_copyOf_6403c_6 : decode cJ7_copyOf_6403c 6 = .ok (.iload_n 1, 1) := by decide +kernel
theorem dJ7_copyOf_6403c_7 : decode cJ7_copyOf_6403c 7 = .ok (.anewarray 2, 3) := by decide +kernel
theorem dJ7_copyOf_6403c_10 : decode cJ7_copyOf_6403c 10 = .ok (.goto 14, 3) := by decide +kernel
theorem dJ7_copyOf_6403c_13 : decode cJ7_copyOf_6403c 13 = .ok (.aload_n 2, 1) := by decide +kernel
theorem dJ7_copyOf_6403c_14 : decode cJ7_copyOf_6403c 14 = .ok (.invokevirtual 90, 3) := by decide +kernel
theorem dJ7_copyOf_6403c_17 : decode cJ7_copyOf_6403c 17 = .ok (.iload_n 1, 1) := by decide +kernel
theorem dJ7_copyOf_6403c_18 : decode cJ7_copyOf_6403c 18 = .ok (.invokestatic 95, 3) := by decide +kernel
theorem dJ7_copyOf_6403c_21 : decode cJ7_copyOf_6403c 21 = .ok (.checkcast 110, 3) := by decide +kernel
theorem dJ7_copyOf_6403c_24 : decode cJ7_copyOf_6403c 24 = .ok (.astore_n 3, 1) := by decide +kernel
theorem dJ7_copyOf_6403c_25 : decode cJ7_copyOf_6403c 25 = .ok (.aload_n 0, 1) := by decide +kernel
theorem dJ7_copyOf_6403c_26 : decode cJ7_copyOf_6403c 26 = .ok (.iconst 0, 1) := by decide +kernel
theorem dJ7_copyOf_6403c_27 : decode cJ7_copyOf_6403c 27 = .ok (.aload_n 3, 1) := by decide +kernel
theorem dJ7_copyOf_6403c_28 : decode cJ7_copyOf_6403c 28 = .ok (.iconst 0, 1) := by decide +kernel
theorem dJ7_copyOf_6403c_29 : decode cJ7_copyOf_6403c 29 = .ok (.aload_n 0, 1) := by decide +kernel
theorem dJ7_copyOf_6403c_30 : decode cJ7_copyOf_6403c 30 = .ok (.arraylength, 1) := by decide +kernel
theorem dJ7_copyOf_6403c_31 : decode cJ7_copyOf_6403c 31 = .ok (.iload_n 1, 1) := by decide +kernel
theorem dJ7_copyOf_6403c_32 : decode cJ7_copyOf_6403c 32 = .ok (.invokestatic 304, 3) := by decide +kernel
theorem dJ7_copyOf_6403c_35 : decode cJ7_copyOf_6403c 35 = .ok (.invokestatic 150, 3) := by decide +kernel
theorem dJ7_copyOf_6403c_38 : decode cJ7_copyOf_6403c 38 = .ok (.aload_n 3, 1) := by decide +kernel
theorem dJ7_copyOf_6403c_39 : decode cJ7_copyOf_6403c 39 = .ok (.areturn, 1) := by decide +kernel
theorem dJ15_checkIndex_7cf53_0 : decode cJ15_checkIndex_7cf53 0 = .ok (.iload_n 0, 1) := by decide +kernel
theorem dJ15_checkIndex_7cf53_1 : decode cJ15_checkIndex_7cf53 1 = .ok (.iload_n 1, 1) := by decide +kernel
theorem dJ15_checkIndex_7cf53_2 : decode cJ15_checkIndex_7cf53 2 = .ok (.aconst_null, 1) := by decide +kernel
theorem dJ15_checkIndex_7cf53_3 : decode cJ15_checkIndex_7cf53 3 = .ok (.invokestatic 105, 3) := by decide +kernel
theorem dJ15_checkIndex_7cf53_6 : decode cJ15_checkIndex_7cf53 6 = .ok (.ireturn, 1) := by decide +kernel
theorem dJ8_newLength_cabcc_0 : decode cJ8_newLength_cabcc 0 = .ok (.iload_n 0, 1) := by decide +kernel
theorem dJ8_newLength_cabcc_1 : decode cJ8_newLength_cabcc 1 = .ok (.iload_n 1, 1) := by decide +kernel
theorem dJ8_newLength_cabcc_2 : decode cJ8_newLength_cabcc 2 = .ok (.iload_n 2, 1) := by decide +kernel
theorem dJ8_newLength_cabcc_3 : decode cJ8_newLength_cabcc 3 = .ok (.invokestatic 194, 3) := by decide +kernel
theorem dJ8_newLength_cabcc_6 : decode cJ8_newLength_cabcc 6 = .ok (.iadd, 1) := by decide +kernel
theorem dJ8_newLength_cabcc_7 : decode cJ8_newLength_cabcc 7 = .ok (.istore_n 3, 1) := by decide +kernel
theorem dJ8_newLength_cabcc_8 : decode cJ8_newLength_cabcc 8 = .ok (.iconst 0, 1) := by decide +kernel
theorem dJ8_newLength_cabcc_9 : decode cJ8_newLength_cabcc 9 = .ok (.iload_n 3, 1) := by decide +kernel
theorem dJ8_newLength_cabcc_10 : decode cJ8_newLength_cabcc 10 = .ok (.if_icmp .ge 11, 3) := by decide +kernel
theorem dJ8_newLength_cabcc_13 : decode cJ8_newLength_cabcc 13 = .ok (.iload_n 3, 1) := by decide +kernel
theorem dJ8_newLength_cabcc_14 : decode cJ8_newLength_cabcc 14 = .ok (.ldc 200, 2) := by decide +kernel
theorem dJ8_newLength_cabcc_16 : decode cJ8_newLength_cabcc 16 = .ok (.if_icmp .gt 5, 3) := by decide +kernel
theorem dJ8_newLength_cabcc_19 : decode cJ8_newLength_cabcc 19 = .ok (.iload_n 3, 1) := by decide +kernel
theorem dJ8_newLength_cabcc_20 : decode cJ8_newLength_cabcc 20 = .ok (.ireturn, 1) := by decide +kernel
theorem dJ8_newLength_cabcc_21 : decode cJ8_newLength_cabcc 21 = .ok (.iload_n 0, 1) := by decide +kernel
theorem dJ8_newLength_cabcc_22 : decode cJ8_newLength_cabcc 22 = .ok (.iload_n 1, 1) := by decide +kernel
theorem dJ8_newLength_cabcc_23 : decode cJ8_newLength_cabcc 23 = .ok (.invokestatic 201, 3) := by decide +kernel
theorem dJ8_newLength_cabcc_26 : decode cJ8_newLength_cabcc 26 = .ok (.ireturn, 1) := by decide +kernel
theorem dJ8_hugeLength_7cf53_0 : decode cJ8_hugeLength_7cf53 0 = .ok (.iload_n 0, 1) := by decide +kernel
theorem dJ8_hugeLength_7cf53_1 : decode cJ8_hugeLength_7cf53 1 = .ok (.iload_n 1, 1) := by decide +kernel
theorem dJ8_hugeLength_7cf53_2 : decode cJ8_hugeLength_7cf53 2 = .ok (.iadd, 1) := by decide +kernel
theorem dJ8_hugeLength_7cf53_3 : decode cJ8_hugeLength_7cf53 3 = .ok (.istore_n 2, 1) := by decide +kernel
theorem dJ8_hugeLength_7cf53_4 : decode cJ8_hugeLength_7cf53 4 = .ok (.iload_n 2, 1) := by decide +kernel
theorem dJ8_hugeLength_7cf53_5 : decode cJ8_hugeLength_7cf53 5 = .ok (.ifCond .ge 44, 3) := by decide +kernel
theorem dJ8_hugeLength_7cf53_8 : decode cJ8_hugeLength_7cf53 8 = .ok (.new 204, 3) := by decide +kernel
theorem dJ8_hugeLength_7cf53_11 : decode cJ8_hugeLength_7cf53 11 = .ok (.dup, 1) := by decide +kernel
theorem dJ8_hugeLength_7cf53_12 : decode cJ8_hugeLength_7cf53 12 = .ok (.new 89, 3) := by decide +kernel
theorem dJ8_hugeLength_7cf53_15 : decode cJ8_hugeLength_7cf53 15 = .ok (.dup, 1) := by decide +kernel
theorem dJ8_hugeLength_7cf53_16 : decode cJ8_hugeLength_7cf53 16 = .ok (.invokespecial 91, 3) := by decide +kernel
theorem dJ8_hugeLength_7cf53_19 : decode cJ8_hugeLength_7cf53 19 = .ok (.ldc 206, 2) := by decide +kernel
theorem dJ8_hugeLength_7cf53_21 : decode cJ8_hugeLength_7cf53 21 = .ok (.invokevirtual 94, 3) := by decide +kernel
theorem dJ8_hugeLength_7cf53_24 : decode cJ8_hugeLength_7cf53 24 = .ok (.iload_n 0, 1) := by decide +kernel
theorem dJ8_hugeLength_7cf53_25 : decode cJ8_hugeLength_7cf53 25 = .ok (.invokevirtual 98, 3) := by decide +kernel
theorem dJ8_hugeLength_7cf53_28 : decode cJ8_hugeLength_7cf53 28 = .ok (.ldc 208, 2) := by decide +kernel
theorem dJ8_hugeLength_7cf53_30 : decode cJ8_hugeLength_7cf53 30 = .ok (.invokevirtual 94, 3) := by decide +kernel
theorem dJ8_hugeLength_7cf53_33 : decode cJ8_hugeLength_7cf53 33 = .ok (.iload_n 1, 1) := by decide +kernel
theorem dJ8_hugeLength_7cf53_34 : decode cJ8_hugeLength_7cf53 34 = .ok (.invokevirtual 98, 3) := by decide +kernel
theorem dJ8_hugeLength_7cf53_37 : decode cJ8_hugeLength_7cf53 37 = .ok (.ldc 210, 2) := by decide +kernel
theorem dJ8_hugeLength_7cf53_39 : decode cJ8_hugeLength_7cf53 39 = .ok (.invokevirtual 94, 3) := by decide +kernel
theorem dJ8_hugeLength_7cf53_42 : decode cJ8_hugeLength_7cf53 42 = .ok (.invokevirtual 101, 3) := by decide +kernel
theorem dJ8_hugeLength_7cf53_45 : decode cJ8_hugeLength_7cf53 45 = .ok (.invokespecial 212, 3) := by decide +kernel
theorem dJ8_hugeLength_7cf53_48 : decode cJ8_hugeLength_7cf53 48 = .ok (.athrow, 1) := by decide +kernel
theorem dJ8_hugeLength_7cf53_49 : decode cJ8_hugeLength_7cf53 49 = .ok (.iload_n 2, 1) := by decide +kernel
theorem dJ8_hugeLength_7cf53_50 : decode cJ8_hugeLength_7cf53 50 = .ok (.ldc 200, 2) := by decide +kernel
theorem dJ8_hugeLength_7cf53_52 : decode cJ8_hugeLength_7cf53 52 = .ok (.if_icmp .gt 6, 3) := by decide +kernel
theorem dJ8_hugeLength_7cf53_55 : decode cJ8_hugeLength_7cf53 55 = .ok (.ldc 200, 2) := by decide +kernel
theorem dJ8_hugeLength_7cf53_57 : decode cJ8_hugeLength_7cf53 57 = .ok (.ireturn, 1) := by decide +kernel
theorem dJ8_hugeLength_7cf53_58 : decode cJ8_hugeLength_7cf53 58 = .ok (.iload_n 2, 1) := by decide +kernel
theorem dJ8_hugeLength_7cf53_59 : decode cJ8_hugeLength_7cf53 59 = .ok (.ireturn, 1) := by decide +kernel
theorem dJ3_checkIndex_8e157_0 : decode cJ3_checkIndex_8e157 0 = .ok (.iload_n 0, 1) := by decide +kernel
theorem dJ3_checkIndex_8e157_1 : decode cJ3_checkIndex_8e157 1 = .ok (.ifCond .lt 8, 3) := by decide +kernel
theorem dJ3_checkIndex_8e157_4 : decode cJ3_checkIndex_8e157 4 = .ok (.iload_n 0, 1) := by decide +kernel
theorem dJ3_checkIndex_8e157_5 : decode cJ3_checkIndex_8e157 5 = .ok (.iload_n 1, 1) := by decide +kernel
theorem dJ3_checkIndex_8e157_6 : decode cJ3_checkIndex_8e157 6 = .ok (.if_icmp .lt 10, 3) := by decide +kernel
theorem dJ3_checkIndex_8e157_9 : decode cJ3_checkIndex_8e157 9 = .ok (.aload_n 2, 1) := by decide +kernel
theorem dJ3_checkIndex_8e157_10 : decode cJ3_checkIndex_8e157 10 = .ok (.iload_n 0, 1) := by decide +kernel
theorem dJ3_checkIndex_8e157_11 : decode cJ3_checkIndex_8e157 11 = .ok (.iload_n 1, 1) := by decide +kernel
theorem dJ3_checkIndex_8e157_12 : decode cJ3_checkIndex_8e157 12 = .ok (.invokestatic 95, 3) := by decide +kernel
theorem dJ3_checkIndex_8e157_15 : decode cJ3_checkIndex_8e157 15 = .ok (.athrow, 1) := by decide +kernel
theorem dJ3_checkIndex_8e157_16 : decode cJ3_checkIndex_8e157 16 = .ok (.iload_n 0, 1) := by decide +kernel
theorem dJ3_checkIndex_8e157_17 : decode cJ3_checkIndex_8e157 17 = .ok (.ireturn, 1) := by decide +kernel
theorem dL_addName_0 : decode cL_addName 0 = .ok (.aload_n 2, 1) := by decide +kernel
theorem dL_addName_1 : decode cL_addName 1 = .ok (.iconst 0, 1) := by decide +kernel
theorem dL_addName_2 : decode cL_addName 2 = .ok (.aload_n 0, 1) := by decide +kernel
theorem dL_addName_3 : decode cL_addName 3 = .ok (.iload_n 1, 1) := by decide +kernel
theorem dL_addName_4 : decode cL_addName 4 = .ok (.invokevirtual 7, 3) := by decide +kernel
theorem dL_addName_7 : decode cL_addName 7 = .ok (.i2l, 1) := by decide +kernel
theorem dL_addName_8 : decode cL_addName 8 = .ok (.lastore, 1) := by decide +kernel
theorem dL_addName_9 : decode cL_addName 9 = .ok (.goto 9, 3) := by decide +kernel
theorem dL_addName_12 : decode cL_addName 12 = .ok (.astore_n 3, 1) := by decide +kernel
theorem dL_addName_13 : decode cL_addName 13 = .ok (.iconst 1, 1) := by decide +kernel
theorem dL_addName_14 : decode cL_addName 14 = .ok (.ireturn, 1) := by decide +kernel
theorem dL_addName_15 : decode cL_addName 15 = .ok (.astore_n 3, 1) := by decide +kernel
theorem dL_addName_16 : decode cL_addName 16 = .ok (.iconst 2, 1) := by decide +kernel
theorem dL_addName_17 : decode cL_addName 17 = .ok (.ireturn, 1) := by decide +kernel
theorem dL_addName_18 : decode cL_addName 18 = .ok (.iconst 0, 1) := by decide +kernel
theorem dL_addName_19 : decode cL_addName 19 = .ok (.ireturn, 1) := by decide +kernel
theorem dL_place_0 : decode cL_place 0 = .ok (.aload_n 3, 1) := by decide +kernel
theorem dL_place_1 : decode cL_place 1 = .ok (.iconst 0, 1) := by decide +kernel
theorem dL_place_2 : decode cL_place 2 = .ok (.aload_n 0, 1) := by decide +kernel
theorem dL_place_3 : decode cL_place 3 = .ok (.iload_n 1, 1) := by decide +kernel
theorem dL_place_4 : decode cL_place 4 = .ok (.iload_n 2, 1) := by decide +kernel
theorem dL_place_5 : decode cL_place 5 = .ok (.invokevirtual 17, 3) := by decide +kernel
theorem dL_place_8 : decode cL_place 8 = .ok (.i2l, 1) := by decide +kernel
theorem dL_place_9 : decode cL_place 9 = .ok (.lastore, 1) := by decide +kernel
theorem dL_place_10 : decode cL_place 10 = .ok (.goto 15, 3) := by decide +kernel
theorem dL_place_13 : decode cL_place 13 = .ok (.astore 4, 2) := by decide +kernel
theorem dL_place_15 : decode cL_place 15 = .ok (.iconst 1, 1) := by decide +kernel
theorem dL_place_16 : decode cL_place 16 = .ok (.ireturn, 1) := by decide +kernel
theorem dL_place_17 : decode cL_place 17 = .ok (.astore 4, 2) := by decide +kernel
theorem dL_place_19 : decode cL_place 19 = .ok (.iconst 2, 1) := by decide +kernel
theorem dL_place_20 : decode cL_place 20 = .ok (.ireturn, 1) := by decide +kernel
theorem dL_place_21 : decode cL_place 21 = .ok (.astore 4, 2) := by decide +kernel
theorem dL_place_23 : decode cL_place 23 = .ok (.iconst 3, 1) := by decide +kernel
theorem dL_place_24 : decode cL_place 24 = .ok (.ireturn, 1) := by decide +kernel
theorem dL_place_25 : decode cL_place 25 = .ok (.iconst 0, 1) := by decide +kernel
theorem dL_place_26 : decode cL_place 26 = .ok (.ireturn, 1) := by decide +kernel
theorem dL_link_0 : decode cL_link 0 = .ok (.aload_n 2, 1) := by decide +kernel
theorem dL_link_1 : decode cL_link 1 = .ok (.iconst 0, 1) := by decide +kernel
theorem dL_link_2 : decode cL_link 2 = .ok (.aload_n 0, 1) := by decide +kernel
theorem dL_link_3 : decode cL_link 3 = .ok (.iload_n 1, 1) := by decide +kernel
theorem dL_link_4 : decode cL_link 4 = .ok (.invokevirtual 23, 3) := by decide +kernel
theorem dL_link_7 : decode cL_link 7 = .ok (.i2l, 1) := by decide +kernel
theorem dL_link_8 : decode cL_link 8 = .ok (.lastore, 1) := by decide +kernel
theorem dL_link_9 : decode cL_link 9 = .ok (.goto 9, 3) := by decide +kernel
theorem dL_link_12 : decode cL_link 12 = .ok (.astore_n 3, 1) := by decide +kernel
theorem dL_link_13 : decode cL_link 13 = .ok (.iconst 1, 1) := by decide +kernel
theorem dL_link_14 : decode cL_link 14 = .ok (.ireturn, 1) := by decide +kernel
theorem dL_link_15 : decode cL_link 15 = .ok (.astore_n 3, 1) := by decide +kernel
theorem dL_link_16 : decode cL_link 16 = .ok (.iconst 2, 1) := by decide +kernel
theorem dL_link_17 : decode cL_link 17 = .ok (.ireturn, 1) := by decide +kernel
theorem dL_link_18 : decode cL_link 18 = .ok (.iconst 0, 1) := by decide +kernel
theorem dL_link_19 : decode cL_link 19 = .ok (.ireturn, 1) := by decide +kernel
theorem dL_take_0 : decode cL_take 0 = .ok (.aload_n 2, 1) := by decide +kernel
theorem dL_take_1 : decode cL_take 1 = .ok (.iconst 0, 1) := by decide +kernel
theorem dL_take_2 : decode cL_take 2 = .ok (.aload_n 0, 1) := by decide +kernel
theorem dL_take_3 : decode cL_take 3 = .ok (.iload_n 1, 1) := by decide +kernel
theorem dL_take_4 : decode cL_take 4 = .ok (.invokevirtual 28, 3) := by decide +kernel
theorem dL_take_7 : decode cL_take 7 = .ok (.i2l, 1) := by decide +kernel
theorem dL_take_8 : decode cL_take 8 = .ok (.lastore, 1) := by decide +kernel
theorem dL_take_9 : decode cL_take 9 = .ok (.goto 9, 3) := by decide +kernel
theorem dL_take_12 : decode cL_take 12 = .ok (.astore_n 3, 1) := by decide +kernel
theorem dL_take_13 : decode cL_take 13 = .ok (.iconst 1, 1) := by decide +kernel
theorem dL_take_14 : decode cL_take 14 = .ok (.ireturn, 1) := by decide +kernel
theorem dL_take_15 : decode cL_take 15 = .ok (.astore_n 3, 1) := by decide +kernel
theorem dL_take_16 : decode cL_take 16 = .ok (.iconst 2, 1) := by decide +kernel
theorem dL_take_17 : decode cL_take 17 = .ok (.ireturn, 1) := by decide +kernel
theorem dL_take_18 : decode cL_take 18 = .ok (.iconst 0, 1) := by decide +kernel
theorem dL_take_19 : decode cL_take 19 = .ok (.ireturn, 1) := by decide +kernel
theorem dL_addressOf_0 : decode cL_addressOf 0 = .ok (.aload_n 3, 1) := by decide +kernel
theorem dL_addressOf_1 : decode cL_addressOf 1 = .ok (.iconst 0, 1) := by decide +kernel
theorem dL_addressOf_2 : decode cL_addressOf 2 = .ok (.aload_n 0, 1) := by decide +kernel
theorem dL_addressOf_3 : decode cL_addressOf 3 = .ok (.iload_n 1, 1) := by decide +kernel
theorem dL_addressOf_4 : decode cL_addressOf 4 = .ok (.iload_n 2, 1) := by decide +kernel
theorem dL_addressOf_5 : decode cL_addressOf 5 = .ok (.invokevirtual 31, 3) := by decide +kernel
theorem dL_addressOf_8 : decode cL_addressOf 8 = .ok (.i2l, 1) := by decide +kernel
theorem dL_addressOf_9 : decode cL_addressOf 9 = .ok (.lastore, 1) := by decide +kernel
theorem dL_addressOf_10 : decode cL_addressOf 10 = .ok (.goto 15, 3) := by decide +kernel
theorem dL_addressOf_13 : decode cL_addressOf 13 = .ok (.astore 4, 2) := by decide +kernel
theorem dL_addressOf_15 : decode cL_addressOf 15 = .ok (.iconst 1, 1) := by decide +kernel
theorem dL_addressOf_16 : decode cL_addressOf 16 = .ok (.ireturn, 1) := by decide +kernel
theorem dL_addressOf_17 : decode cL_addressOf 17 = .ok (.astore 4, 2) := by decide +kernel
theorem dL_addressOf_19 : decode cL_addressOf 19 = .ok (.iconst 2, 1) := by decide +kernel
theorem dL_addressOf_20 : decode cL_addressOf 20 = .ok (.ireturn, 1) := by decide +kernel
theorem dL_addressOf_21 : decode cL_addressOf 21 = .ok (.astore 4, 2) := by decide +kernel
theorem dL_addressOf_23 : decode cL_addressOf 23 = .ok (.iconst 3, 1) := by decide +kernel
theorem dL_addressOf_24 : decode cL_addressOf 24 = .ok (.ireturn, 1) := by decide +kernel
theorem dL_addressOf_25 : decode cL_addressOf 25 = .ok (.iconst 0, 1) := by decide +kernel
theorem dL_addressOf_26 : decode cL_addressOf 26 = .ok (.ireturn, 1) := by decide +kernel
theorem dL_nameAt_0 : decode cL_nameAt 0 = .ok (.aload_n 2, 1) := by decide +kernel
theorem dL_nameAt_1 : decode cL_nameAt 1 = .ok (.iconst 0, 1) := by decide +kernel
theorem dL_nameAt_2 : decode cL_nameAt 2 = .ok (.aload_n 0, 1) := by decide +kernel
theorem dL_nameAt_3 : decode cL_nameAt 3 = .ok (.iload_n 1, 1) := by decide +kernel
theorem dL_nameAt_4 : decode cL_nameAt 4 = .ok (.invokevirtual 34, 3) := by decide +kernel
theorem dL_nameAt_7 : decode cL_nameAt 7 = .ok (.i2l, 1) := by decide +kernel
theorem dL_nameAt_8 : decode cL_nameAt 8 = .ok (.lastore, 1) := by decide +kernel
theorem dL_nameAt_9 : decode cL_nameAt 9 = .ok (.goto 9, 3) := by decide +kernel
theorem dL_nameAt_12 : decode cL_nameAt 12 = .ok (.astore_n 3, 1) := by decide +kernel
theorem dL_nameAt_13 : decode cL_nameAt 13 = .ok (.iconst 1, 1) := by decide +kernel
theorem dL_nameAt_14 : decode cL_nameAt 14 = .ok (.ireturn, 1) := by decide +kernel
theorem dL_nameAt_15 : decode cL_nameAt 15 = .ok (.astore_n 3, 1) := by decide +kernel
theorem dL_nameAt_16 : decode cL_nameAt 16 = .ok (.iconst 2, 1) := by decide +kernel
theorem dL_nameAt_17 : decode cL_nameAt 17 = .ok (.ireturn, 1) := by decide +kernel
theorem dL_nameAt_18 : decode cL_nameAt 18 = .ok (.iconst 0, 1) := by decide +kernel
theorem dL_nameAt_19 : decode cL_nameAt 19 = .ok (.ireturn, 1) := by decide +kernel
theorem dL_meet_0 : decode cL_meet 0 = .ok (.aload_n 3, 1) := by decide +kernel
theorem dL_meet_1 : decode cL_meet 1 = .ok (.iconst 0, 1) := by decide +kernel
theorem dL_meet_2 : decode cL_meet 2 = .ok (.aload_n 0, 1) := by decide +kernel
theorem dL_meet_3 : decode cL_meet 3 = .ok (.iload_n 1, 1) := by decide +kernel
theorem dL_meet_4 : decode cL_meet 4 = .ok (.iload_n 2, 1) := by decide +kernel
theorem dL_meet_5 : decode cL_meet 5 = .ok (.invokevirtual 37, 3) := by decide +kernel
theorem dL_meet_8 : decode cL_meet 8 = .ok (.ifCond .eq 7, 3) := by decide +kernel
theorem dL_meet_11 : decode cL_meet 11 = .ok (.lconst 1, 1) := by decide +kernel
theorem dL_meet_12 : decode cL_meet 12 = .ok (.goto 4, 3) := by decide +kernel
theorem dL_meet_15 : decode cL_meet 15 = .ok (.lconst 0, 1) := by decide +kernel
theorem dL_meet_16 : decode cL_meet 16 = .ok (.lastore, 1) := by decide +kernel
theorem dL_meet_17 : decode cL_meet 17 = .ok (.goto 11, 3) := by decide +kernel
theorem dL_meet_20 : decode cL_meet 20 = .ok (.astore 4, 2) := by decide +kernel
theorem dL_meet_22 : decode cL_meet 22 = .ok (.iconst 1, 1) := by decide +kernel
theorem dL_meet_23 : decode cL_meet 23 = .ok (.ireturn, 1) := by decide +kernel
theorem dL_meet_24 : decode cL_meet 24 = .ok (.astore 4, 2) := by decide +kernel
theorem dL_meet_26 : decode cL_meet 26 = .ok (.iconst 2, 1) := by decide +kernel
theorem dL_meet_27 : decode cL_meet 27 = .ok (.ireturn, 1) := by decide +kernel
theorem dL_meet_28 : decode cL_meet 28 = .ok (.iconst 0, 1) := by decide +kernel
theorem dL_meet_29 : decode cL_meet 29 = .ok (.ireturn, 1) := by decide +kernel
theorem dL_read_0 : decode cL_read 0 = .ok (.aload 4, 2) := by decide +kernel
theorem dL_read_2 : decode cL_read 2 = .ok (.iconst 0, 1) := by decide +kernel
theorem dL_read_3 : decode cL_read 3 = .ok (.aload_n 0, 1) := by decide +kernel
theorem dL_read_4 : decode cL_read 4 = .ok (.iload_n 1, 1) := by decide +kernel
theorem dL_read_5 : decode cL_read 5 = .ok (.iload_n 2, 1) := by decide +kernel
theorem dL_read_6 : decode cL_read 6 = .ok (.iload_n 3, 1) := by decide +kernel
theorem dL_read_7 : decode cL_read 7 = .ok (.invokevirtual 41, 3) := by decide +kernel
theorem dL_read_10 : decode cL_read 10 = .ok (.i2l, 1) := by decide +kernel
theorem dL_read_11 : decode cL_read 11 = .ok (.lastore, 1) := by decide +kernel
theorem dL_read_12 : decode cL_read 12 = .ok (.goto 19, 3) := by decide +kernel
theorem dL_read_15 : decode cL_read 15 = .ok (.astore 5, 2) := by decide +kernel
theorem dL_read_17 : decode cL_read 17 = .ok (.iconst 1, 1) := by decide +kernel
theorem dL_read_18 : decode cL_read 18 = .ok (.ireturn, 1) := by decide +kernel
theorem dL_read_19 : decode cL_read 19 = .ok (.astore 5, 2) := by decide +kernel
theorem dL_read_21 : decode cL_read 21 = .ok (.iconst 2, 1) := by decide +kernel
theorem dL_read_22 : decode cL_read 22 = .ok (.ireturn, 1) := by decide +kernel
theorem dL_read_23 : decode cL_read 23 = .ok (.astore 5, 2) := by decide +kernel
theorem dL_read_25 : decode cL_read 25 = .ok (.iconst 3, 1) := by decide +kernel
theorem dL_read_26 : decode cL_read 26 = .ok (.ireturn, 1) := by decide +kernel
theorem dL_read_27 : decode cL_read 27 = .ok (.astore 5, 2) := by decide +kernel
theorem dL_read_29 : decode cL_read 29 = .ok (.iconst 4, 1) := by decide +kernel
theorem dL_read_30 : decode cL_read 30 = .ok (.ireturn, 1) := by decide +kernel
theorem dL_read_31 : decode cL_read 31 = .ok (.iconst 0, 1) := by decide +kernel
theorem dL_read_32 : decode cL_read 32 = .ok (.ireturn, 1) := by decide +kernel
theorem dL_write_0 : decode cL_write 0 = .ok (.aload 4, 2) := by decide +kernel
theorem dL_write_2 : decode cL_write 2 = .ok (.iconst 0, 1) := by decide +kernel
theorem dL_write_3 : decode cL_write 3 = .ok (.aload_n 0, 1) := by decide +kernel
theorem dL_write_4 : decode cL_write 4 = .ok (.iload_n 1, 1) := by decide +kernel
theorem dL_write_5 : decode cL_write 5 = .ok (.iload_n 2, 1) := by decide +kernel
theorem dL_write_6 : decode cL_write 6 = .ok (.iload_n 3, 1) := by decide +kernel
theorem dL_write_7 : decode cL_write 7 = .ok (.invokevirtual 47, 3) := by decide +kernel
theorem dL_write_10 : decode cL_write 10 = .ok (.i2l, 1) := by decide +kernel
theorem dL_write_11 : decode cL_write 11 = .ok (.lastore, 1) := by decide +kernel
theorem dL_write_12 : decode cL_write 12 = .ok (.goto 19, 3) := by decide +kernel
theorem dL_write_15 : decode cL_write 15 = .ok (.astore 5, 2) := by decide +kernel
theorem dL_write_17 : decode cL_write 17 = .ok (.iconst 1, 1) := by decide +kernel
theorem dL_write_18 : decode cL_write 18 = .ok (.ireturn, 1) := by decide +kernel
theorem dL_write_19 : decode cL_write 19 = .ok (.astore 5, 2) := by decide +kernel
theorem dL_write_21 : decode cL_write 21 = .ok (.iconst 2, 1) := by decide +kernel
theorem dL_write_22 : decode cL_write 22 = .ok (.ireturn, 1) := by decide +kernel
theorem dL_write_23 : decode cL_write 23 = .ok (.astore 5, 2) := by decide +kernel
theorem dL_write_25 : decode cL_write 25 = .ok (.iconst 3, 1) := by decide +kernel
theorem dL_write_26 : decode cL_write 26 = .ok (.ireturn, 1) := by decide +kernel
theorem dL_write_27 : decode cL_write 27 = .ok (.astore 5, 2) := by decide +kernel
theorem dL_write_29 : decode cL_write 29 = .ok (.iconst 4, 1) := by decide +kernel
theorem dL_write_30 : decode cL_write 30 = .ok (.ireturn, 1) := by decide +kernel
theorem dL_write_31 : decode cL_write 31 = .ok (.iconst 0, 1) := by decide +kernel
theorem dL_write_32 : decode cL_write 32 = .ok (.ireturn, 1) := by decide +kernel
theorem dL_empty_0 : decode cL_empty 0 = .ok (.aload_n 2, 1) := by decide +kernel
theorem dL_empty_1 : decode cL_empty 1 = .ok (.iconst 0, 1) := by decide +kernel
theorem dL_empty_2 : decode cL_empty 2 = .ok (.aload_n 0, 1) := by decide +kernel
theorem dL_empty_3 : decode cL_empty 3 = .ok (.iload_n 1, 1) := by decide +kernel
theorem dL_empty_4 : decode cL_empty 4 = .ok (.invokevirtual 50, 3) := by decide +kernel
theorem dL_empty_7 : decode cL_empty 7 = .ok (.i2l, 1) := by decide +kernel
theorem dL_empty_8 : decode cL_empty 8 = .ok (.lastore, 1) := by decide +kernel
theorem dL_empty_9 : decode cL_empty 9 = .ok (.goto 6, 3) := by decide +kernel
theorem dL_empty_12 : decode cL_empty 12 = .ok (.astore_n 3, 1) := by decide +kernel
theorem dL_empty_13 : decode cL_empty 13 = .ok (.iconst 1, 1) := by decide +kernel
theorem dL_empty_14 : decode cL_empty 14 = .ok (.ireturn, 1) := by decide +kernel
theorem dL_empty_15 : decode cL_empty 15 = .ok (.iconst 0, 1) := by decide +kernel
theorem dL_empty_16 : decode cL_empty 16 = .ok (.ireturn, 1) := by decide +kernel
theorem dL_setAhead_0 : decode cL_setAhead 0 = .ok (.aload_n 3, 1) := by decide +kernel
theorem dL_setAhead_1 : decode cL_setAhead 1 = .ok (.iconst 0, 1) := by decide +kernel
theorem dL_setAhead_2 : decode cL_setAhead 2 = .ok (.aload_n 0, 1) := by decide +kernel
theorem dL_setAhead_3 : decode cL_setAhead 3 = .ok (.iload_n 1, 1) := by decide +kernel
theorem dL_setAhead_4 : decode cL_setAhead 4 = .ok (.iload_n 2, 1) := by decide +kernel
theorem dL_setAhead_5 : decode cL_setAhead 5 = .ok (.invokevirtual 53, 3) := by decide +kernel
theorem dL_setAhead_8 : decode cL_setAhead 8 = .ok (.ifCond .eq 7, 3) := by decide +kernel
theorem dL_setAhead_11 : decode cL_setAhead 11 = .ok (.lconst 1, 1) := by decide +kernel
theorem dL_setAhead_12 : decode cL_setAhead 12 = .ok (.goto 4, 3) := by decide +kernel
theorem dL_setAhead_15 : decode cL_setAhead 15 = .ok (.lconst 0, 1) := by decide +kernel
theorem dL_setAhead_16 : decode cL_setAhead 16 = .ok (.lastore, 1) := by decide +kernel
theorem dL_setAhead_17 : decode cL_setAhead 17 = .ok (.goto 7, 3) := by decide +kernel
theorem dL_setAhead_20 : decode cL_setAhead 20 = .ok (.astore 4, 2) := by decide +kernel
theorem dL_setAhead_22 : decode cL_setAhead 22 = .ok (.iconst 1, 1) := by decide +kernel
theorem dL_setAhead_23 : decode cL_setAhead 23 = .ok (.ireturn, 1) := by decide +kernel
theorem dL_setAhead_24 : decode cL_setAhead 24 = .ok (.iconst 0, 1) := by decide +kernel
theorem dL_setAhead_25 : decode cL_setAhead 25 = .ok (.ireturn, 1) := by decide +kernel
theorem dL_costOf_0 : decode cL_costOf 0 = .ok (.aload_n 2, 1) := by decide +kernel
theorem dL_costOf_1 : decode cL_costOf 1 = .ok (.iconst 0, 1) := by decide +kernel
theorem dL_costOf_2 : decode cL_costOf 2 = .ok (.aload_n 0, 1) := by decide +kernel
theorem dL_costOf_3 : decode cL_costOf 3 = .ok (.iload_n 1, 1) := by decide +kernel
theorem dL_costOf_4 : decode cL_costOf 4 = .ok (.invokevirtual 57, 3) := by decide +kernel
theorem dL_costOf_7 : decode cL_costOf 7 = .ok (.i2l, 1) := by decide +kernel
theorem dL_costOf_8 : decode cL_costOf 8 = .ok (.lastore, 1) := by decide +kernel
theorem dL_costOf_9 : decode cL_costOf 9 = .ok (.goto 6, 3) := by decide +kernel
theorem dL_costOf_12 : decode cL_costOf 12 = .ok (.astore_n 3, 1) := by decide +kernel
theorem dL_costOf_13 : decode cL_costOf 13 = .ok (.iconst 1, 1) := by decide +kernel
theorem dL_costOf_14 : decode cL_costOf 14 = .ok (.ireturn, 1) := by decide +kernel
theorem dL_costOf_15 : decode cL_costOf 15 = .ok (.iconst 0, 1) := by decide +kernel
theorem dL_costOf_16 : decode cL_costOf 16 = .ok (.ireturn, 1) := by decide +kernel
theorem dL_costByReplay_0 : decode cL_costByReplay 0 = .ok (.aload_n 2, 1) := by decide +kernel
theorem dL_costByReplay_1 : decode cL_costByReplay 1 = .ok (.iconst 0, 1) := by decide +kernel
theorem dL_costByReplay_2 : decode cL_costByReplay 2 = .ok (.aload_n 0, 1) := by decide +kernel
theorem dL_costByReplay_3 : decode cL_costByReplay 3 = .ok (.iload_n 1, 1) := by decide +kernel
theorem dL_costByReplay_4 : decode cL_costByReplay 4 = .ok (.invokevirtual 60, 3) := by decide +kernel
theorem dL_costByReplay_7 : decode cL_costByReplay 7 = .ok (.i2l, 1) := by decide +kernel
theorem dL_costByReplay_8 : decode cL_costByReplay 8 = .ok (.lastore, 1) := by decide +kernel
theorem dL_costByReplay_9 : decode cL_costByReplay 9 = .ok (.goto 6, 3) := by decide +kernel
theorem dL_costByReplay_12 : decode cL_costByReplay 12 = .ok (.astore_n 3, 1) := by decide +kernel
theorem dL_costByReplay_13 : decode cL_costByReplay 13 = .ok (.iconst 1, 1) := by decide +kernel
theorem dL_costByReplay_14 : decode cL_costByReplay 14 = .ok (.ireturn, 1) := by decide +kernel
theorem dL_costByReplay_15 : decode cL_costByReplay 15 = .ok (.iconst 0, 1) := by decide +kernel
theorem dL_costByReplay_16 : decode cL_costByReplay 16 = .ok (.ireturn, 1) := by decide +kernel
theorem dL_causeOf_0 : decode cL_causeOf 0 = .ok (.aload_n 2, 1) := by decide +kernel
theorem dL_causeOf_1 : decode cL_causeOf 1 = .ok (.iconst 0, 1) := by decide +kernel
theorem dL_causeOf_2 : decode cL_causeOf 2 = .ok (.aload_n 0, 1) := by decide +kernel
theorem dL_causeOf_3 : decode cL_causeOf 3 = .ok (.iload_n 1, 1) := by decide +kernel
theorem dL_causeOf_4 : decode cL_causeOf 4 = .ok (.invokevirtual 63, 3) := by decide +kernel
theorem dL_causeOf_7 : decode cL_causeOf 7 = .ok (.i2l, 1) := by decide +kernel
theorem dL_causeOf_8 : decode cL_causeOf 8 = .ok (.lastore, 1) := by decide +kernel
theorem dL_causeOf_9 : decode cL_causeOf 9 = .ok (.goto 6, 3) := by decide +kernel
theorem dL_causeOf_12 : decode cL_causeOf 12 = .ok (.astore_n 3, 1) := by decide +kernel
theorem dL_causeOf_13 : decode cL_causeOf 13 = .ok (.iconst 1, 1) := by decide +kernel
theorem dL_causeOf_14 : decode cL_causeOf 14 = .ok (.ireturn, 1) := by decide +kernel
theorem dL_causeOf_15 : decode cL_causeOf 15 = .ok (.iconst 0, 1) := by decide +kernel
theorem dL_causeOf_16 : decode cL_causeOf 16 = .ok (.ireturn, 1) := by decide +kernel
theorem dL_state_0 : decode cL_state 0 = .ok (.aload_n 3, 1) := by decide +kernel
theorem dL_state_1 : decode cL_state 1 = .ok (.iconst 0, 1) := by decide +kernel
theorem dL_state_2 : decode cL_state 2 = .ok (.aload_n 0, 1) := by decide +kernel
theorem dL_state_3 : decode cL_state 3 = .ok (.iload_n 1, 1) := by decide +kernel
theorem dL_state_4 : decode cL_state 4 = .ok (.iload_n 2, 1) := by decide +kernel
theorem dL_state_5 : decode cL_state 5 = .ok (.invokevirtual 67, 3) := by decide +kernel
theorem dL_state_8 : decode cL_state 8 = .ok (.i2l, 1) := by decide +kernel
theorem dL_state_9 : decode cL_state 9 = .ok (.lastore, 1) := by decide +kernel
theorem dL_state_10 : decode cL_state 10 = .ok (.goto 11, 3) := by decide +kernel
theorem dL_state_13 : decode cL_state 13 = .ok (.astore 4, 2) := by decide +kernel
theorem dL_state_15 : decode cL_state 15 = .ok (.iconst 1, 1) := by decide +kernel
theorem dL_state_16 : decode cL_state 16 = .ok (.ireturn, 1) := by decide +kernel
theorem dL_state_17 : decode cL_state 17 = .ok (.astore 4, 2) := by decide +kernel
theorem dL_state_19 : decode cL_state 19 = .ok (.iconst 2, 1) := by decide +kernel
theorem dL_state_20 : decode cL_state 20 = .ok (.ireturn, 1) := by decide +kernel
theorem dL_state_21 : decode cL_state 21 = .ok (.iconst 0, 1) := by decide +kernel
theorem dL_state_22 : decode cL_state 22 = .ok (.ireturn, 1) := by decide +kernel
theorem dL_owner_0 : decode cL_owner 0 = .ok (.aload_n 2, 1) := by decide +kernel
theorem dL_owner_1 : decode cL_owner 1 = .ok (.iconst 0, 1) := by decide +kernel
theorem dL_owner_2 : decode cL_owner 2 = .ok (.aload_n 0, 1) := by decide +kernel
theorem dL_owner_3 : decode cL_owner 3 = .ok (.iload_n 1, 1) := by decide +kernel
theorem dL_owner_4 : decode cL_owner 4 = .ok (.invokevirtual 71, 3) := by decide +kernel
theorem dL_owner_7 : decode cL_owner 7 = .ok (.i2l, 1) := by decide +kernel
theorem dL_owner_8 : decode cL_owner 8 = .ok (.lastore, 1) := by decide +kernel
theorem dL_owner_9 : decode cL_owner 9 = .ok (.goto 9, 3) := by decide +kernel
theorem dL_owner_12 : decode cL_owner 12 = .ok (.astore_n 3, 1) := by decide +kernel
theorem dL_owner_13 : decode cL_owner 13 = .ok (.iconst 1, 1) := by decide +kernel
theorem dL_owner_14 : decode cL_owner 14 = .ok (.ireturn, 1) := by decide +kernel
theorem dL_owner_15 : decode cL_owner 15 = .ok (.astore_n 3, 1) := by decide +kernel
theorem dL_owner_16 : decode cL_owner 16 = .ok (.iconst 2, 1) := by decide +kernel
theorem dL_owner_17 : decode cL_owner 17 = .ok (.ireturn, 1) := by decide +kernel
theorem dL_owner_18 : decode cL_owner 18 = .ok (.iconst 0, 1) := by decide +kernel
theorem dL_owner_19 : decode cL_owner 19 = .ok (.ireturn, 1) := by decide +kernel
theorem dL_holders_0 : decode cL_holders 0 = .ok (.aload_n 2, 1) := by decide +kernel
theorem dL_holders_1 : decode cL_holders 1 = .ok (.iconst 0, 1) := by decide +kernel
theorem dL_holders_2 : decode cL_holders 2 = .ok (.aload_n 0, 1) := by decide +kernel
theorem dL_holders_3 : decode cL_holders 3 = .ok (.iload_n 1, 1) := by decide +kernel
theorem dL_holders_4 : decode cL_holders 4 = .ok (.invokevirtual 74, 3) := by decide +kernel
theorem dL_holders_7 : decode cL_holders 7 = .ok (.i2l, 1) := by decide +kernel
theorem dL_holders_8 : decode cL_holders 8 = .ok (.lastore, 1) := by decide +kernel
theorem dL_holders_9 : decode cL_holders 9 = .ok (.goto 6, 3) := by decide +kernel
theorem dL_holders_12 : decode cL_holders 12 = .ok (.astore_n 3, 1) := by decide +kernel
theorem dL_holders_13 : decode cL_holders 13 = .ok (.iconst 1, 1) := by decide +kernel
theorem dL_holders_14 : decode cL_holders 14 = .ok (.ireturn, 1) := by decide +kernel
theorem dL_holders_15 : decode cL_holders 15 = .ok (.iconst 0, 1) := by decide +kernel
theorem dL_holders_16 : decode cL_holders 16 = .ok (.ireturn, 1) := by decide +kernel
theorem dL_lines_0 : decode cL_lines 0 = .ok (.aload_n 2, 1) := by decide +kernel
theorem dL_lines_1 : decode cL_lines 1 = .ok (.iconst 0, 1) := by decide +kernel
theorem dL_lines_2 : decode cL_lines 2 = .ok (.aload_n 0, 1) := by decide +kernel
theorem dL_lines_3 : decode cL_lines 3 = .ok (.iload_n 1, 1) := by decide +kernel
theorem dL_lines_4 : decode cL_lines 4 = .ok (.invokevirtual 77, 3) := by decide +kernel
theorem dL_lines_7 : decode cL_lines 7 = .ok (.i2l, 1) := by decide +kernel
theorem dL_lines_8 : decode cL_lines 8 = .ok (.lastore, 1) := by decide +kernel
theorem dL_lines_9 : decode cL_lines 9 = .ok (.goto 6, 3) := by decide +kernel
theorem dL_lines_12 : decode cL_lines 12 = .ok (.astore_n 3, 1) := by decide +kernel
theorem dL_lines_13 : decode cL_lines 13 = .ok (.iconst 1, 1) := by decide +kernel
theorem dL_lines_14 : decode cL_lines 14 = .ok (.ireturn, 1) := by decide +kernel
theorem dL_lines_15 : decode cL_lines 15 = .ok (.iconst 0, 1) := by decide +kernel
theorem dL_lines_16 : decode cL_lines 16 = .ok (.ireturn, 1) := by decide +kernel
theorem dL_oldest_0 : decode cL_oldest 0 = .ok (.aload_n 3, 1) := by decide +kernel
theorem dL_oldest_1 : decode cL_oldest 1 = .ok (.iconst 0, 1) := by decide +kernel
theorem dL_oldest_2 : decode cL_oldest 2 = .ok (.aload_n 0, 1) := by decide +kernel
theorem dL_oldest_3 : decode cL_oldest 3 = .ok (.iload_n 1, 1) := by decide +kernel
theorem dL_oldest_4 : decode cL_oldest 4 = .ok (.iload_n 2, 1) := by decide +kernel
theorem dL_oldest_5 : decode cL_oldest 5 = .ok (.invokevirtual 80, 3) := by decide +kernel
theorem dL_oldest_8 : decode cL_oldest 8 = .ok (.i2l, 1) := by decide +kernel
theorem dL_oldest_9 : decode cL_oldest 9 = .ok (.lastore, 1) := by decide +kernel
theorem dL_oldest_10 : decode cL_oldest 10 = .ok (.goto 15, 3) := by decide +kernel
theorem dL_oldest_13 : decode cL_oldest 13 = .ok (.astore 4, 2) := by decide +kernel
theorem dL_oldest_15 : decode cL_oldest 15 = .ok (.iconst 1, 1) := by decide +kernel
theorem dL_oldest_16 : decode cL_oldest 16 = .ok (.ireturn, 1) := by decide +kernel
theorem dL_oldest_17 : decode cL_oldest 17 = .ok (.astore 4, 2) := by decide +kernel
theorem dL_oldest_19 : decode cL_oldest 19 = .ok (.iconst 2, 1) := by decide +kernel
