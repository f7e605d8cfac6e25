theorem d_m_reverse_29 : decode b_m_reverse 29 = .ok (.putfield 44, 3) := by decide +kernel
theorem d_m_reverse_32 : decode b_m_reverse 32 = .ok (.aload_n 0, 1) := by decide +kernel
theorem d_m_reverse_33 : decode b_m_reverse 33 = .ok (.getfield 44, 3) := by decide +kernel
theorem d_m_reverse_36 : decode b_m_reverse 36 = .ok (.ifCond .ne 40, 3) := by decide +kernel
theorem d_m_reverse_39 : decode b_m_reverse 39 = .ok (.aload_n 0, 1) := by decide +kernel
theorem d_m_reverse_40 : decode b_m_reverse 40 = .ok (.aload_n 0, 1) := by decide +kernel
theorem d_m_reverse_41 : decode b_m_reverse 41 = .ok (.getfield 7, 3) := by decide +kernel
theorem d_m_reverse_44 : decode b_m_reverse 44 = .ok (.iload_n 1, 1) := by decide +kernel
theorem d_m_reverse_45 : decode b_m_reverse 45 = .ok (.iaload, 1) := by decide +kernel
theorem d_m_reverse_46 : decode b_m_reverse 46 = .ok (.iconst 2, 1) := by decide +kernel
theorem d_m_reverse_47 : decode b_m_reverse 47 = .ok (.if_icmp .ne 21, 3) := by decide +kernel
theorem d_m_reverse_50 : decode b_m_reverse 50 = .ok (.iload_n 2, 1) := by decide +kernel
theorem d_m_reverse_51 : decode b_m_reverse 51 = .ok (.aload_n 0, 1) := by decide +kernel
theorem d_m_reverse_52 : decode b_m_reverse 52 = .ok (.getfield 37, 3) := by decide +kernel
theorem d_m_reverse_55 : decode b_m_reverse 55 = .ok (.if_icmp .le 13, 3) := by decide +kernel
theorem d_m_reverse_58 : decode b_m_reverse 58 = .ok (.iload_n 2, 1) := by decide +kernel
theorem d_m_reverse_59 : decode b_m_reverse 59 = .ok (.aload_n 0, 1) := by decide +kernel
theorem d_m_reverse_60 : decode b_m_reverse 60 = .ok (.getfield 16, 3) := by decide +kernel
theorem d_m_reverse_63 : decode b_m_reverse 63 = .ok (.iload_n 1, 1) := by decide +kernel
theorem d_m_reverse_64 : decode b_m_reverse 64 = .ok (.iaload, 1) := by decide +kernel
theorem d_m_reverse_65 : decode b_m_reverse 65 = .ok (.if_icmp .ge 7, 3) := by decide +kernel
theorem d_m_reverse_68 : decode b_m_reverse 68 = .ok (.iconst 3, 1) := by decide +kernel
theorem d_m_reverse_69 : decode b_m_reverse 69 = .ok (.goto 4, 3) := by decide +kernel
theorem d_m_reverse_72 : decode b_m_reverse 72 = .ok (.iconst 0, 1) := by decide +kernel
theorem d_m_reverse_73 : decode b_m_reverse 73 = .ok (.putfield 44, 3) := by decide +kernel
theorem d_m_reverse_76 : decode b_m_reverse 76 = .ok (.aload_n 0, 1) := by decide +kernel
theorem d_m_reverse_77 : decode b_m_reverse 77 = .ok (.getfield 44, 3) := by decide +kernel
theorem d_m_reverse_80 : decode b_m_reverse 80 = .ok (.ifCond .ne 17, 3) := by decide +kernel
theorem d_m_reverse_83 : decode b_m_reverse 83 = .ok (.aload_n 0, 1) := by decide +kernel
theorem d_m_reverse_84 : decode b_m_reverse 84 = .ok (.iload_n 1, 1) := by decide +kernel
theorem d_m_reverse_85 : decode b_m_reverse 85 = .ok (.iload_n 2, 1) := by decide +kernel
theorem d_m_reverse_86 : decode b_m_reverse 86 = .ok (.invokevirtual 92, 3) := by decide +kernel
theorem d_m_reverse_89 : decode b_m_reverse 89 = .ok (.ifCond .ne 8, 3) := by decide +kernel
theorem d_m_reverse_92 : decode b_m_reverse 92 = .ok (.aload_n 0, 1) := by decide +kernel
theorem d_m_reverse_93 : decode b_m_reverse 93 = .ok (.iconst 4, 1) := by decide +kernel
theorem d_m_reverse_94 : decode b_m_reverse 94 = .ok (.putfield 44, 3) := by decide +kernel
theorem d_m_reverse_97 : decode b_m_reverse 97 = .ok (.aload_n 0, 1) := by decide +kernel
theorem d_m_reverse_98 : decode b_m_reverse 98 = .ok (.getfield 44, 3) := by decide +kernel
theorem d_m_reverse_101 : decode b_m_reverse 101 = .ok (.ifCond .le 7, 3) := by decide +kernel
theorem d_m_reverse_104 : decode b_m_reverse 104 = .ok (.iconst 0, 1) := by decide +kernel
theorem d_m_reverse_105 : decode b_m_reverse 105 = .ok (.goto 9, 3) := by decide +kernel
theorem d_m_reverse_108 : decode b_m_reverse 108 = .ok (.aload_n 0, 1) := by decide +kernel
theorem d_m_reverse_109 : decode b_m_reverse 109 = .ok (.getfield 47, 3) := by decide +kernel
theorem d_m_reverse_112 : decode b_m_reverse 112 = .ok (.iconst 1, 1) := by decide +kernel
theorem d_m_reverse_113 : decode b_m_reverse 113 = .ok (.isub, 1) := by decide +kernel
theorem d_m_reverse_114 : decode b_m_reverse 114 = .ok (.ireturn, 1) := by decide +kernel
theorem d_m_undo_0 : decode b_m_undo 0 = .ok (.aload_n 0, 1) := by decide +kernel
theorem d_m_undo_1 : decode b_m_undo 1 = .ok (.iload_n 1, 1) := by decide +kernel
theorem d_m_undo_2 : decode b_m_undo 2 = .ok (.iconst 0, 1) := by decide +kernel
theorem d_m_undo_3 : decode b_m_undo 3 = .ok (.sipush 1000, 3) := by decide +kernel
theorem d_m_undo_6 : decode b_m_undo 6 = .ok (.invokestatic 50, 3) := by decide +kernel
theorem d_m_undo_9 : decode b_m_undo 9 = .ok (.ifCond .ne 7, 3) := by decide +kernel
theorem d_m_undo_12 : decode b_m_undo 12 = .ok (.iconst 1, 1) := by decide +kernel
theorem d_m_undo_13 : decode b_m_undo 13 = .ok (.goto 16, 3) := by decide +kernel
theorem d_m_undo_16 : decode b_m_undo 16 = .ok (.iload_n 1, 1) := by decide +kernel
theorem d_m_undo_17 : decode b_m_undo 17 = .ok (.aload_n 0, 1) := by decide +kernel
theorem d_m_undo_18 : decode b_m_undo 18 = .ok (.getfield 37, 3) := by decide +kernel
theorem d_m_undo_21 : decode b_m_undo 21 = .ok (.if_icmp .gt 7, 3) := by decide +kernel
theorem d_m_undo_24 : decode b_m_undo 24 = .ok (.iconst 2, 1) := by decide +kernel
theorem d_m_undo_25 : decode b_m_undo 25 = .ok (.goto 4, 3) := by decide +kernel
theorem d_m_undo_28 : decode b_m_undo 28 = .ok (.iconst 0, 1) := by decide +kernel
theorem d_m_undo_29 : decode b_m_undo 29 = .ok (.putfield 44, 3) := by decide +kernel
theorem d_m_undo_32 : decode b_m_undo 32 = .ok (.aload_n 0, 1) := by decide +kernel
theorem d_m_undo_33 : decode b_m_undo 33 = .ok (.getfield 44, 3) := by decide +kernel
theorem d_m_undo_36 : decode b_m_undo 36 = .ok (.ifCond .le 5, 3) := by decide +kernel
theorem d_m_undo_39 : decode b_m_undo 39 = .ok (.iconst 0, 1) := by decide +kernel
theorem d_m_undo_40 : decode b_m_undo 40 = .ok (.ireturn, 1) := by decide +kernel
theorem d_m_undo_41 : decode b_m_undo 41 = .ok (.aload_n 0, 1) := by decide +kernel
theorem d_m_undo_42 : decode b_m_undo 42 = .ok (.getfield 72, 3) := by decide +kernel
theorem d_m_undo_45 : decode b_m_undo 45 = .ok (.istore_n 2, 1) := by decide +kernel
theorem d_m_undo_46 : decode b_m_undo 46 = .ok (.iload_n 2, 1) := by decide +kernel
theorem d_m_undo_47 : decode b_m_undo 47 = .ok (.iconst 1, 1) := by decide +kernel
theorem d_m_undo_48 : decode b_m_undo 48 = .ok (.isub, 1) := by decide +kernel
theorem d_m_undo_49 : decode b_m_undo 49 = .ok (.istore_n 3, 1) := by decide +kernel
theorem d_m_undo_50 : decode b_m_undo 50 = .ok (.iload_n 3, 1) := by decide +kernel
theorem d_m_undo_51 : decode b_m_undo 51 = .ok (.ifCond .lt 72, 3) := by decide +kernel
theorem d_m_undo_54 : decode b_m_undo 54 = .ok (.aload_n 0, 1) := by decide +kernel
theorem d_m_undo_55 : decode b_m_undo 55 = .ok (.getfield 44, 3) := by decide +kernel
theorem d_m_undo_58 : decode b_m_undo 58 = .ok (.ifCond .ne 65, 3) := by decide +kernel
theorem d_m_undo_61 : decode b_m_undo 61 = .ok (.aload_n 0, 1) := by decide +kernel
theorem d_m_undo_62 : decode b_m_undo 62 = .ok (.getfield 34, 3) := by decide +kernel
theorem d_m_undo_65 : decode b_m_undo 65 = .ok (.iload_n 3, 1) := by decide +kernel
theorem d_m_undo_66 : decode b_m_undo 66 = .ok (.iaload, 1) := by decide +kernel
theorem d_m_undo_67 : decode b_m_undo 67 = .ok (.istore 4, 2) := by decide +kernel
theorem d_m_undo_69 : decode b_m_undo 69 = .ok (.aload_n 0, 1) := by decide +kernel
theorem d_m_undo_70 : decode b_m_undo 70 = .ok (.getfield 7, 3) := by decide +kernel
theorem d_m_undo_73 : decode b_m_undo 73 = .ok (.iload 4, 2) := by decide +kernel
theorem d_m_undo_75 : decode b_m_undo 75 = .ok (.iaload, 1) := by decide +kernel
theorem d_m_undo_76 : decode b_m_undo 76 = .ok (.iconst 2, 1) := by decide +kernel
theorem d_m_undo_77 : decode b_m_undo 77 = .ok (.if_icmp .ne 40, 3) := by decide +kernel
theorem d_m_undo_80 : decode b_m_undo 80 = .ok (.aload_n 0, 1) := by decide +kernel
theorem d_m_undo_81 : decode b_m_undo 81 = .ok (.getfield 16, 3) := by decide +kernel
theorem d_m_undo_84 : decode b_m_undo 84 = .ok (.iload 4, 2) := by decide +kernel
theorem d_m_undo_86 : decode b_m_undo 86 = .ok (.iaload, 1) := by decide +kernel
theorem d_m_undo_87 : decode b_m_undo 87 = .ok (.iload_n 1, 1) := by decide +kernel
theorem d_m_undo_88 : decode b_m_undo 88 = .ok (.if_icmp .ne 29, 3) := by decide +kernel
theorem d_m_undo_91 : decode b_m_undo 91 = .ok (.aload_n 0, 1) := by decide +kernel
theorem d_m_undo_92 : decode b_m_undo 92 = .ok (.getfield 22, 3) := by decide +kernel
theorem d_m_undo_95 : decode b_m_undo 95 = .ok (.iload 4, 2) := by decide +kernel
theorem d_m_undo_97 : decode b_m_undo 97 = .ok (.iaload, 1) := by decide +kernel
theorem d_m_undo_98 : decode b_m_undo 98 = .ok (.iconst (-1), 1) := by decide +kernel
theorem d_m_undo_99 : decode b_m_undo 99 = .ok (.if_icmp .ne 18, 3) := by decide +kernel
theorem d_m_undo_102 : decode b_m_undo 102 = .ok (.aload_n 0, 1) := by decide +kernel
theorem d_m_undo_103 : decode b_m_undo 103 = .ok (.iload 4, 2) := by decide +kernel
theorem d_m_undo_105 : decode b_m_undo 105 = .ok (.iload_n 1, 1) := by decide +kernel
theorem d_m_undo_106 : decode b_m_undo 106 = .ok (.invokevirtual 92, 3) := by decide +kernel
theorem d_m_undo_109 : decode b_m_undo 109 = .ok (.ifCond .ne 8, 3) := by decide +kernel
theorem d_m_undo_112 : decode b_m_undo 112 = .ok (.aload_n 0, 1) := by decide +kernel
theorem d_m_undo_113 : decode b_m_undo 113 = .ok (.iconst 3, 1) := by decide +kernel
theorem d_m_undo_114 : decode b_m_undo 114 = .ok (.putfield 44, 3) := by decide +kernel
theorem d_m_undo_117 : decode b_m_undo 117 = .ok (.iinc 3 (-1), 3) := by decide +kernel
theorem d_m_undo_120 : decode b_m_undo 120 = .ok (.goto (-70), 3) := by decide +kernel
theorem d_m_undo_123 : decode b_m_undo 123 = .ok (.aload_n 0, 1) := by decide +kernel
theorem d_m_undo_124 : decode b_m_undo 124 = .ok (.getfield 44, 3) := by decide +kernel
theorem d_m_undo_127 : decode b_m_undo 127 = .ok (.ifCond .ne 10, 3) := by decide +kernel
theorem d_m_undo_130 : decode b_m_undo 130 = .ok (.aload_n 0, 1) := by decide +kernel
theorem d_m_undo_131 : decode b_m_undo 131 = .ok (.getfield 72, 3) := by decide +kernel
theorem d_m_undo_134 : decode b_m_undo 134 = .ok (.iload_n 2, 1) := by decide +kernel
theorem d_m_undo_135 : decode b_m_undo 135 = .ok (.isub, 1) := by decide +kernel
theorem d_m_undo_136 : decode b_m_undo 136 = .ok (.ireturn, 1) := by decide +kernel
theorem d_m_undo_137 : decode b_m_undo 137 = .ok (.aload_n 0, 1) := by decide +kernel
theorem d_m_undo_138 : decode b_m_undo 138 = .ok (.getfield 72, 3) := by decide +kernel
theorem d_m_undo_141 : decode b_m_undo 141 = .ok (.iload_n 2, 1) := by decide +kernel
theorem d_m_undo_142 : decode b_m_undo 142 = .ok (.if_icmp .le 56, 3) := by decide +kernel
theorem d_m_undo_145 : decode b_m_undo 145 = .ok (.aload_n 0, 1) := by decide +kernel
theorem d_m_undo_146 : decode b_m_undo 146 = .ok (.dup, 1) := by decide +kernel
theorem d_m_undo_147 : decode b_m_undo 147 = .ok (.getfield 72, 3) := by decide +kernel
theorem d_m_undo_150 : decode b_m_undo 150 = .ok (.iconst 1, 1) := by decide +kernel
theorem d_m_undo_151 : decode b_m_undo 151 = .ok (.isub, 1) := by decide +kernel
theorem d_m_undo_152 : decode b_m_undo 152 = .ok (.putfield 72, 3) := by decide +kernel
theorem d_m_undo_155 : decode b_m_undo 155 = .ok (.aload_n 0, 1) := by decide +kernel
theorem d_m_undo_156 : decode b_m_undo 156 = .ok (.dup, 1) := by decide +kernel
theorem d_m_undo_157 : decode b_m_undo 157 = .ok (.getfield 47, 3) := by decide +kernel
theorem d_m_undo_160 : decode b_m_undo 160 = .ok (.iconst 1, 1) := by decide +kernel
theorem d_m_undo_161 : decode b_m_undo 161 = .ok (.isub, 1) := by decide +kernel
theorem d_m_undo_162 : decode b_m_undo 162 = .ok (.putfield 47, 3) := by decide +kernel
theorem d_m_undo_165 : decode b_m_undo 165 = .ok (.aload_n 0, 1) := by decide +kernel
theorem d_m_undo_166 : decode b_m_undo 166 = .ok (.getfield 7, 3) := by decide +kernel
theorem d_m_undo_169 : decode b_m_undo 169 = .ok (.aload_n 0, 1) := by decide +kernel
theorem d_m_undo_170 : decode b_m_undo 170 = .ok (.getfield 22, 3) := by decide +kernel
theorem d_m_undo_173 : decode b_m_undo 173 = .ok (.aload_n 0, 1) := by decide +kernel
theorem d_m_undo_174 : decode b_m_undo 174 = .ok (.getfield 47, 3) := by decide +kernel
theorem d_m_undo_177 : decode b_m_undo 177 = .ok (.iaload, 1) := by decide +kernel
theorem d_m_undo_178 : decode b_m_undo 178 = .ok (.iconst 2, 1) := by decide +kernel
theorem d_m_undo_179 : decode b_m_undo 179 = .ok (.iastore, 1) := by decide +kernel
theorem d_m_undo_180 : decode b_m_undo 180 = .ok (.aload_n 0, 1) := by decide +kernel
theorem d_m_undo_181 : decode b_m_undo 181 = .ok (.getfield 19, 3) := by decide +kernel
theorem d_m_undo_184 : decode b_m_undo 184 = .ok (.aload_n 0, 1) := by decide +kernel
theorem d_m_undo_185 : decode b_m_undo 185 = .ok (.getfield 22, 3) := by decide +kernel
theorem d_m_undo_188 : decode b_m_undo 188 = .ok (.aload_n 0, 1) := by decide +kernel
theorem d_m_undo_189 : decode b_m_undo 189 = .ok (.getfield 47, 3) := by decide +kernel
theorem d_m_undo_192 : decode b_m_undo 192 = .ok (.iaload, 1) := by decide +kernel
theorem d_m_undo_193 : decode b_m_undo 193 = .ok (.iconst (-1), 1) := by decide +kernel
theorem d_m_undo_194 : decode b_m_undo 194 = .ok (.iastore, 1) := by decide +kernel
theorem d_m_undo_195 : decode b_m_undo 195 = .ok (.goto (-58), 3) := by decide +kernel
theorem d_m_undo_198 : decode b_m_undo 198 = .ok (.iconst 0, 1) := by decide +kernel
theorem d_m_undo_199 : decode b_m_undo 199 = .ok (.ireturn, 1) := by decide +kernel
theorem d_m_close_0 : decode b_m_close 0 = .ok (.aload_n 0, 1) := by decide +kernel
theorem d_m_close_1 : decode b_m_close 1 = .ok (.iload_n 1, 1) := by decide +kernel
theorem d_m_close_2 : decode b_m_close 2 = .ok (.iconst 0, 1) := by decide +kernel
theorem d_m_close_3 : decode b_m_close 3 = .ok (.sipush 1000, 3) := by decide +kernel
theorem d_m_close_6 : decode b_m_close 6 = .ok (.invokestatic 50, 3) := by decide +kernel
theorem d_m_close_9 : decode b_m_close 9 = .ok (.ifCond .eq 7, 3) := by decide +kernel
theorem d_m_close_12 : decode b_m_close 12 = .ok (.iconst 0, 1) := by decide +kernel
theorem d_m_close_13 : decode b_m_close 13 = .ok (.goto 4, 3) := by decide +kernel
theorem d_m_close_16 : decode b_m_close 16 = .ok (.iconst 1, 1) := by decide +kernel
theorem d_m_close_17 : decode b_m_close 17 = .ok (.putfield 44, 3) := by decide +kernel
theorem d_m_close_20 : decode b_m_close 20 = .ok (.aload_n 0, 1) := by decide +kernel
theorem d_m_close_21 : decode b_m_close 21 = .ok (.getfield 44, 3) := by decide +kernel
theorem d_m_close_24 : decode b_m_close 24 = .ok (.ifCond .gt 11, 3) := by decide +kernel
theorem d_m_close_27 : decode b_m_close 27 = .ok (.iload_n 1, 1) := by decide +kernel
theorem d_m_close_28 : decode b_m_close 28 = .ok (.aload_n 0, 1) := by decide +kernel
theorem d_m_close_29 : decode b_m_close 29 = .ok (.getfield 37, 3) := by decide +kernel
theorem d_m_close_32 : decode b_m_close 32 = .ok (.if_icmp .gt 5, 3) := by decide +kernel
theorem d_m_close_35 : decode b_m_close 35 = .ok (.iconst 0, 1) := by decide +kernel
theorem d_m_close_36 : decode b_m_close 36 = .ok (.ireturn, 1) := by decide +kernel
theorem d_m_close_37 : decode b_m_close 37 = .ok (.iload_n 1, 1) := by decide +kernel
theorem d_m_close_38 : decode b_m_close 38 = .ok (.aload_n 0, 1) := by decide +kernel
theorem d_m_close_39 : decode b_m_close 39 = .ok (.getfield 37, 3) := by decide +kernel
theorem d_m_close_42 : decode b_m_close 42 = .ok (.isub, 1) := by decide +kernel
theorem d_m_close_43 : decode b_m_close 43 = .ok (.istore_n 2, 1) := by decide +kernel
theorem d_m_close_44 : decode b_m_close 44 = .ok (.aload_n 0, 1) := by decide +kernel
theorem d_m_close_45 : decode b_m_close 45 = .ok (.iload_n 1, 1) := by decide +kernel
theorem d_m_close_46 : decode b_m_close 46 = .ok (.putfield 37, 3) := by decide +kernel
theorem d_m_close_49 : decode b_m_close 49 = .ok (.iload_n 2, 1) := by decide +kernel
theorem d_m_close_50 : decode b_m_close 50 = .ok (.ireturn, 1) := by decide +kernel
theorem d_m_carry_0 : decode b_m_carry 0 = .ok (.aload_n 0, 1) := by decide +kernel
theorem d_m_carry_1 : decode b_m_carry 1 = .ok (.iload_n 1, 1) := by decide +kernel
theorem d_m_carry_2 : decode b_m_carry 2 = .ok (.bipush 10, 2) := by decide +kernel
theorem d_m_carry_4 : decode b_m_carry 4 = .ok (.bipush 15, 2) := by decide +kernel
theorem d_m_carry_6 : decode b_m_carry 6 = .ok (.invokestatic 50, 3) := by decide +kernel
theorem d_m_carry_9 : decode b_m_carry 9 = .ok (.ifCond .eq 13, 3) := by decide +kernel
theorem d_m_carry_12 : decode b_m_carry 12 = .ok (.iload_n 2, 1) := by decide +kernel
theorem d_m_carry_13 : decode b_m_carry 13 = .ok (.iconst 1, 1) := by decide +kernel
theorem d_m_carry_14 : decode b_m_carry 14 = .ok (.bipush 9, 2) := by decide +kernel
theorem d_m_carry_16 : decode b_m_carry 16 = .ok (.invokestatic 50, 3) := by decide +kernel
theorem d_m_carry_19 : decode b_m_carry 19 = .ok (.ifCond .ne 7, 3) := by decide +kernel
theorem d_m_carry_22 : decode b_m_carry 22 = .ok (.iconst 1, 1) := by decide +kernel
theorem d_m_carry_23 : decode b_m_carry 23 = .ok (.goto 36, 3) := by decide +kernel
theorem d_m_carry_26 : decode b_m_carry 26 = .ok (.aload_n 0, 1) := by decide +kernel
theorem d_m_carry_27 : decode b_m_carry 27 = .ok (.getfield 41, 3) := by decide +kernel
theorem d_m_carry_30 : decode b_m_carry 30 = .ok (.iload_n 1, 1) := by decide +kernel
theorem d_m_carry_31 : decode b_m_carry 31 = .ok (.bipush 10, 2) := by decide +kernel
theorem d_m_carry_33 : decode b_m_carry 33 = .ok (.bipush 15, 2) := by decide +kernel
theorem d_m_carry_35 : decode b_m_carry 35 = .ok (.invokestatic 50, 3) := by decide +kernel
theorem d_m_carry_38 : decode b_m_carry 38 = .ok (.ifCond .eq 10, 3) := by decide +kernel
theorem d_m_carry_41 : decode b_m_carry 41 = .ok (.iload_n 1, 1) := by decide +kernel
theorem d_m_carry_42 : decode b_m_carry 42 = .ok (.bipush 10, 2) := by decide +kernel
theorem d_m_carry_44 : decode b_m_carry 44 = .ok (.isub, 1) := by decide +kernel
theorem d_m_carry_45 : decode b_m_carry 45 = .ok (.goto 4, 3) := by decide +kernel
theorem d_m_carry_48 : decode b_m_carry 48 = .ok (.iconst 0, 1) := by decide +kernel
theorem d_m_carry_49 : decode b_m_carry 49 = .ok (.iaload, 1) := by decide +kernel
theorem d_m_carry_50 : decode b_m_carry 50 = .ok (.iload_n 2, 1) := by decide +kernel
theorem d_m_carry_51 : decode b_m_carry 51 = .ok (.if_icmp .ne 7, 3) := by decide +kernel
theorem d_m_carry_54 : decode b_m_carry 54 = .ok (.iconst 2, 1) := by decide +kernel
theorem d_m_carry_55 : decode b_m_carry 55 = .ok (.goto 4, 3) := by decide +kernel
theorem d_m_carry_58 : decode b_m_carry 58 = .ok (.iconst 0, 1) := by decide +kernel
theorem d_m_carry_59 : decode b_m_carry 59 = .ok (.putfield 44, 3) := by decide +kernel
theorem d_m_carry_62 : decode b_m_carry 62 = .ok (.aload_n 0, 1) := by decide +kernel
theorem d_m_carry_63 : decode b_m_carry 63 = .ok (.getfield 44, 3) := by decide +kernel
theorem d_m_carry_66 : decode b_m_carry 66 = .ok (.ifCond .le 5, 3) := by decide +kernel
theorem d_m_carry_69 : decode b_m_carry 69 = .ok (.lconst 0, 1) := by decide +kernel
theorem d_m_carry_70 : decode b_m_carry 70 = .ok (.lreturn, 1) := by decide +kernel
theorem d_m_carry_71 : decode b_m_carry 71 = .ok (.aload_n 0, 1) := by decide +kernel
theorem d_m_carry_72 : decode b_m_carry 72 = .ok (.getfield 41, 3) := by decide +kernel
theorem d_m_carry_75 : decode b_m_carry 75 = .ok (.iload_n 1, 1) := by decide +kernel
theorem d_m_carry_76 : decode b_m_carry 76 = .ok (.bipush 10, 2) := by decide +kernel
theorem d_m_carry_78 : decode b_m_carry 78 = .ok (.isub, 1) := by decide +kernel
theorem d_m_carry_79 : decode b_m_carry 79 = .ok (.iload_n 2, 1) := by decide +kernel
theorem d_m_carry_80 : decode b_m_carry 80 = .ok (.iastore, 1) := by decide +kernel
theorem d_m_carry_81 : decode b_m_carry 81 = .ok (.lconst 0, 1) := by decide +kernel
theorem d_m_carry_82 : decode b_m_carry 82 = .ok (.lstore_n 3, 1) := by decide +kernel
theorem d_m_carry_83 : decode b_m_carry 83 = .ok (.iconst 0, 1) := by decide +kernel
theorem d_m_carry_84 : decode b_m_carry 84 = .ok (.istore 5, 2) := by decide +kernel
theorem d_m_carry_86 : decode b_m_carry 86 = .ok (.iload 5, 2) := by decide +kernel
theorem d_m_carry_88 : decode b_m_carry 88 = .ok (.bipush 8, 2) := by decide +kernel
theorem d_m_carry_90 : decode b_m_carry 90 = .ok (.if_icmp .ge 22, 3) := by decide +kernel
theorem d_m_carry_93 : decode b_m_carry 93 = .ok (.lload_n 3, 1) := by decide +kernel
theorem d_m_carry_94 : decode b_m_carry 94 = .ok (.aload_n 0, 1) := by decide +kernel
theorem d_m_carry_95 : decode b_m_carry 95 = .ok (.iload_n 1, 1) := by decide +kernel
theorem d_m_carry_96 : decode b_m_carry 96 = .ok (.iload 5, 2) := by decide +kernel
theorem d_m_carry_98 : decode b_m_carry 98 = .ok (.sipush 1000, 3) := by decide +kernel
theorem d_m_carry_101 : decode b_m_carry 101 = .ok (.invokevirtual 75, 3) := by decide +kernel
theorem d_m_carry_104 : decode b_m_carry 104 = .ok (.ladd, 1) := by decide +kernel
theorem d_m_carry_105 : decode b_m_carry 105 = .ok (.lstore_n 3, 1) := by decide +kernel
theorem d_m_carry_106 : decode b_m_carry 106 = .ok (.iinc 5 1, 3) := by decide +kernel
theorem d_m_carry_109 : decode b_m_carry 109 = .ok (.goto (-23), 3) := by decide +kernel
theorem d_m_carry_112 : decode b_m_carry 112 = .ok (.lload_n 3, 1) := by decide +kernel
theorem d_m_carry_113 : decode b_m_carry 113 = .ok (.lreturn, 1) := by decide +kernel
theorem d_m_stock_0 : decode b_m_stock 0 = .ok (.aload_n 0, 1) := by decide +kernel
theorem d_m_stock_1 : decode b_m_stock 1 = .ok (.iload_n 1, 1) := by decide +kernel
theorem d_m_stock_2 : decode b_m_stock 2 = .ok (.iconst 0, 1) := by decide +kernel
theorem d_m_stock_3 : decode b_m_stock 3 = .ok (.bipush 15, 2) := by decide +kernel
theorem d_m_stock_5 : decode b_m_stock 5 = .ok (.invokestatic 50, 3) := by decide +kernel
theorem d_m_stock_8 : decode b_m_stock 8 = .ok (.ifCond .eq 17, 3) := by decide +kernel
theorem d_m_stock_11 : decode b_m_stock 11 = .ok (.iload_n 2, 1) := by decide +kernel
theorem d_m_stock_12 : decode b_m_stock 12 = .ok (.iconst 0, 1) := by decide +kernel
theorem d_m_stock_13 : decode b_m_stock 13 = .ok (.bipush 7, 2) := by decide +kernel
theorem d_m_stock_15 : decode b_m_stock 15 = .ok (.invokestatic 50, 3) := by decide +kernel
theorem d_m_stock_18 : decode b_m_stock 18 = .ok (.ifCond .eq 7, 3) := by decide +kernel
theorem d_m_stock_21 : decode b_m_stock 21 = .ok (.iconst 0, 1) := by decide +kernel
theorem d_m_stock_22 : decode b_m_stock 22 = .ok (.goto 4, 3) := by decide +kernel
theorem d_m_stock_25 : decode b_m_stock 25 = .ok (.iconst 1, 1) := by decide +kernel
theorem d_m_stock_26 : decode b_m_stock 26 = .ok (.putfield 44, 3) := by decide +kernel
theorem d_m_stock_29 : decode b_m_stock 29 = .ok (.aload_n 0, 1) := by decide +kernel
theorem d_m_stock_30 : decode b_m_stock 30 = .ok (.getfield 44, 3) := by decide +kernel
theorem d_m_stock_33 : decode b_m_stock 33 = .ok (.ifCond .le 7, 3) := by decide +kernel
theorem d_m_stock_36 : decode b_m_stock 36 = .ok (.lconst 0, 1) := by decide +kernel
theorem d_m_stock_37 : decode b_m_stock 37 = .ok (.goto 12, 3) := by decide +kernel
theorem d_m_stock_40 : decode b_m_stock 40 = .ok (.aload_n 0, 1) := by decide +kernel
theorem d_m_stock_41 : decode b_m_stock 41 = .ok (.iload_n 1, 1) := by decide +kernel
theorem d_m_stock_42 : decode b_m_stock 42 = .ok (.iload_n 2, 1) := by decide +kernel
theorem d_m_stock_43 : decode b_m_stock 43 = .ok (.sipush 1000, 3) := by decide +kernel
theorem d_m_stock_46 : decode b_m_stock 46 = .ok (.invokevirtual 75, 3) := by decide +kernel
theorem d_m_stock_49 : decode b_m_stock 49 = .ok (.lreturn, 1) := by decide +kernel
theorem d_m_upTo_0 : decode b_m_upTo 0 = .ok (.aload_n 0, 1) := by decide +kernel
theorem d_m_upTo_1 : decode b_m_upTo 1 = .ok (.iload_n 1, 1) := by decide +kernel
theorem d_m_upTo_2 : decode b_m_upTo 2 = .ok (.iconst 0, 1) := by decide +kernel
theorem d_m_upTo_3 : decode b_m_upTo 3 = .ok (.bipush 15, 2) := by decide +kernel
theorem d_m_upTo_5 : decode b_m_upTo 5 = .ok (.invokestatic 50, 3) := by decide +kernel
theorem d_m_upTo_8 : decode b_m_upTo 8 = .ok (.ifCond .eq 28, 3) := by decide +kernel
theorem d_m_upTo_11 : decode b_m_upTo 11 = .ok (.iload_n 2, 1) := by decide +kernel
theorem d_m_upTo_12 : decode b_m_upTo 12 = .ok (.iconst 0, 1) := by decide +kernel
theorem d_m_upTo_13 : decode b_m_upTo 13 = .ok (.bipush 7, 2) := by decide +kernel
theorem d_m_upTo_15 : decode b_m_upTo 15 = .ok (.invokestatic 50, 3) := by decide +kernel
theorem d_m_upTo_18 : decode b_m_upTo 18 = .ok (.ifCond .eq 18, 3) := by decide +kernel
theorem d_m_upTo_21 : decode b_m_upTo 21 = .ok (.iload_n 3, 1) := by decide +kernel
theorem d_m_upTo_22 : decode b_m_upTo 22 = .ok (.iconst 0, 1) := by decide +kernel
theorem d_m_upTo_23 : decode b_m_upTo 23 = .ok (.sipush 1000, 3) := by decide +kernel
theorem d_m_upTo_26 : decode b_m_upTo 26 = .ok (.invokestatic 50, 3) := by decide +kernel
theorem d_m_upTo_29 : decode b_m_upTo 29 = .ok (.ifCond .eq 7, 3) := by decide +kernel
theorem d_m_upTo_32 : decode b_m_upTo 32 = .ok (.iconst 0, 1) := by decide +kernel
theorem d_m_upTo_33 : decode b_m_upTo 33 = .ok (.goto 4, 3) := by decide +kernel
theorem d_m_upTo_36 : decode b_m_upTo 36 = .ok (.iconst 1, 1) := by decide +kernel
theorem d_m_upTo_37 : decode b_m_upTo 37 = .ok (.putfield 44, 3) := by decide +kernel
theorem d_m_upTo_40 : decode b_m_upTo 40 = .ok (.aload_n 0, 1) := by decide +kernel
theorem d_m_upTo_41 : decode b_m_upTo 41 = .ok (.getfield 44, 3) := by decide +kernel
theorem d_m_upTo_44 : decode b_m_upTo 44 = .ok (.ifCond .le 7, 3) := by decide +kernel
theorem d_m_upTo_47 : decode b_m_upTo 47 = .ok (.lconst 0, 1) := by decide +kernel
theorem d_m_upTo_48 : decode b_m_upTo 48 = .ok (.goto 10, 3) := by decide +kernel
theorem d_m_upTo_51 : decode b_m_upTo 51 = .ok (.aload_n 0, 1) := by decide +kernel
theorem d_m_upTo_52 : decode b_m_upTo 52 = .ok (.iload_n 1, 1) := by decide +kernel
theorem d_m_upTo_53 : decode b_m_upTo 53 = .ok (.iload_n 2, 1) := by decide +kernel
theorem d_m_upTo_54 : decode b_m_upTo 54 = .ok (.iload_n 3, 1) := by decide +kernel
theorem d_m_upTo_55 : decode b_m_upTo 55 = .ok (.invokevirtual 75, 3) := by decide +kernel
theorem d_m_upTo_58 : decode b_m_upTo 58 = .ok (.lreturn, 1) := by decide +kernel
theorem d_m_available_0 : decode b_m_available 0 = .ok (.aload_n 0, 1) := by decide +kernel
theorem d_m_available_1 : decode b_m_available 1 = .ok (.iload_n 1, 1) := by decide +kernel
theorem d_m_available_2 : decode b_m_available 2 = .ok (.iconst 0, 1) := by decide +kernel
theorem d_m_available_3 : decode b_m_available 3 = .ok (.bipush 15, 2) := by decide +kernel
theorem d_m_available_5 : decode b_m_available 5 = .ok (.invokestatic 50, 3) := by decide +kernel
theorem d_m_available_8 : decode b_m_available 8 = .ok (.ifCond .eq 17, 3) := by decide +kernel
theorem d_m_available_11 : decode b_m_available 11 = .ok (.iload_n 2, 1) := by decide +kernel
theorem d_m_available_12 : decode b_m_available 12 = .ok (.iconst 0, 1) := by decide +kernel
theorem d_m_available_13 : decode b_m_available 13 = .ok (.bipush 7, 2) := by decide +kernel
theorem d_m_available_15 : decode b_m_available 15 = .ok (.invokestatic 50, 3) := by decide +kernel
theorem d_m_available_18 : decode b_m_available 18 = .ok (.ifCond .eq 7, 3) := by decide +kernel
theorem d_m_available_21 : decode b_m_available 21 = .ok (.iconst 0, 1) := by decide +kernel
theorem d_m_available_22 : decode b_m_available 22 = .ok (.goto 4, 3) := by decide +kernel
theorem d_m_available_25 : decode b_m_available 25 = .ok (.iconst 1, 1) := by decide +kernel
theorem d_m_available_26 : decode b_m_available 26 = .ok (.putfield 44, 3) := by decide +kernel
theorem d_m_available_29 : decode b_m_available 29 = .ok (.aload_n 0, 1) := by decide +kernel
theorem d_m_available_30 : decode b_m_available 30 = .ok (.getfield 44, 3) := by decide +kernel
theorem d_m_available_33 : decode b_m_available 33 = .ok (.ifCond .le 7, 3) := by decide +kernel
theorem d_m_available_36 : decode b_m_available 36 = .ok (.lconst 0, 1) := by decide +kernel
theorem d_m_available_37 : decode b_m_available 37 = .ok (.goto 20, 3) := by decide +kernel
theorem d_m_available_40 : decode b_m_available 40 = .ok (.aload_n 0, 1) := by decide +kernel
theorem d_m_available_41 : decode b_m_available 41 = .ok (.iload_n 1, 1) := by decide +kernel
theorem d_m_available_42 : decode b_m_available 42 = .ok (.iload_n 2, 1) := by decide +kernel
theorem d_m_available_43 : decode b_m_available 43 = .ok (.sipush 1000, 3) := by decide +kernel
theorem d_m_available_46 : decode b_m_available 46 = .ok (.invokevirtual 75, 3) := by decide +kernel
theorem d_m_available_49 : decode b_m_available 49 = .ok (.aload_n 0, 1) := by decide +kernel
theorem d_m_available_50 : decode b_m_available 50 = .ok (.iload_n 1, 1) := by decide +kernel
theorem d_m_available_51 : decode b_m_available 51 = .ok (.iload_n 2, 1) := by decide +kernel
theorem d_m_available_52 : decode b_m_available 52 = .ok (.iconst (-1), 1) := by decide +kernel
theorem d_m_available_53 : decode b_m_available 53 = .ok (.invokevirtual 78, 3) := by decide +kernel
theorem d_m_available_56 : decode b_m_available 56 = .ok (.lsub, 1) := by decide +kernel
theorem d_m_available_57 : decode b_m_available 57 = .ok (.lreturn, 1) := by decide +kernel
theorem d_m_at_0 : decode b_m_at 0 = .ok (.aload_n 0, 1) := by decide +kernel
theorem d_m_at_1 : decode b_m_at 1 = .ok (.iload_n 1, 1) := by decide +kernel
theorem d_m_at_2 : decode b_m_at 2 = .ok (.iconst 1, 1) := by decide +kernel
theorem d_m_at_3 : decode b_m_at 3 = .ok (.bipush 9, 2) := by decide +kernel
theorem d_m_at_5 : decode b_m_at 5 = .ok (.invokestatic 50, 3) := by decide +kernel
theorem d_m_at_8 : decode b_m_at 8 = .ok (.ifCond .eq 17, 3) := by decide +kernel
theorem d_m_at_11 : decode b_m_at 11 = .ok (.iload_n 2, 1) := by decide +kernel
theorem d_m_at_12 : decode b_m_at 12 = .ok (.iconst 0, 1) := by decide +kernel
theorem d_m_at_13 : decode b_m_at 13 = .ok (.bipush 7, 2) := by decide +kernel
theorem d_m_at_15 : decode b_m_at 15 = .ok (.invokestatic 50, 3) := by decide +kernel
theorem d_m_at_18 : decode b_m_at 18 = .ok (.ifCond .eq 7, 3) := by decide +kernel
theorem d_m_at_21 : decode b_m_at 21 = .ok (.iconst 0, 1) := by decide +kernel
theorem d_m_at_22 : decode b_m_at 22 = .ok (.goto 4, 3) := by decide +kernel
theorem d_m_at_25 : decode b_m_at 25 = .ok (.iconst 1, 1) := by decide +kernel
theorem d_m_at_26 : decode b_m_at 26 = .ok (.putfield 44, 3) := by decide +kernel
theorem d_m_at_29 : decode b_m_at 29 = .ok (.aload_n 0, 1) := by decide +kernel
theorem d_m_at_30 : decode b_m_at 30 = .ok (.getfield 44, 3) := by decide +kernel
theorem d_m_at_33 : decode b_m_at 33 = .ok (.ifCond .le 5, 3) := by decide +kernel
theorem d_m_at_36 : decode b_m_at 36 = .ok (.lconst 0, 1) := by decide +kernel
theorem d_m_at_37 : decode b_m_at 37 = .ok (.lreturn, 1) := by decide +kernel
theorem d_m_at_38 : decode b_m_at 38 = .ok (.aload_n 0, 1) := by decide +kernel
theorem d_m_at_39 : decode b_m_at 39 = .ok (.iload_n 1, 1) := by decide +kernel
theorem d_m_at_40 : decode b_m_at 40 = .ok (.iload_n 2, 1) := by decide +kernel
theorem d_m_at_41 : decode b_m_at 41 = .ok (.sipush 1000, 3) := by decide +kernel
theorem d_m_at_44 : decode b_m_at 44 = .ok (.invokevirtual 75, 3) := by decide +kernel
theorem d_m_at_47 : decode b_m_at 47 = .ok (.lstore_n 3, 1) := by decide +kernel
theorem d_m_at_48 : decode b_m_at 48 = .ok (.bipush 10, 2) := by decide +kernel
theorem d_m_at_50 : decode b_m_at 50 = .ok (.istore 5, 2) := by decide +kernel
theorem d_m_at_52 : decode b_m_at 52 = .ok (.iload 5, 2) := by decide +kernel
theorem d_m_at_54 : decode b_m_at 54 = .ok (.bipush 16, 2) := by decide +kernel
theorem d_m_at_56 : decode b_m_at 56 = .ok (.if_icmp .ge 40, 3) := by decide +kernel
theorem d_m_at_59 : decode b_m_at 59 = .ok (.lload_n 3, 1) := by decide +kernel
theorem d_m_at_60 : decode b_m_at 60 = .ok (.aload_n 0, 1) := by decide +kernel
theorem d_m_at_61 : decode b_m_at 61 = .ok (.getfield 41, 3) := by decide +kernel
theorem d_m_at_64 : decode b_m_at 64 = .ok (.iload 5, 2) := by decide +kernel
theorem d_m_at_66 : decode b_m_at 66 = .ok (.bipush 10, 2) := by decide +kernel
theorem d_m_at_68 : decode b_m_at 68 = .ok (.isub, 1) := by decide +kernel
theorem d_m_at_69 : decode b_m_at 69 = .ok (.iaload, 1) := by decide +kernel
theorem d_m_at_70 : decode b_m_at 70 = .ok (.iload_n 1, 1) := by decide +kernel
theorem d_m_at_71 : decode b_m_at 71 = .ok (.if_icmp .ne 16, 3) := by decide +kernel
theorem d_m_at_74 : decode b_m_at 74 = .ok (.aload_n 0, 1) := by decide +kernel
theorem d_m_at_75 : decode b_m_at 75 = .ok (.iload 5, 2) := by decide +kernel
theorem d_m_at_77 : decode b_m_at 77 = .ok (.iload_n 2, 1) := by decide +kernel
theorem d_m_at_78 : decode b_m_at 78 = .ok (.sipush 1000, 3) := by decide +kernel
theorem d_m_at_81 : decode b_m_at 81 = .ok (.invokevirtual 75, 3) := by decide +kernel
theorem d_m_at_84 : decode b_m_at 84 = .ok (.goto 4, 3) := by decide +kernel
theorem d_m_at_87 : decode b_m_at 87 = .ok (.lconst 0, 1) := by decide +kernel
theorem d_m_at_88 : decode b_m_at 88 = .ok (.ladd, 1) := by decide +kernel
theorem d_m_at_89 : decode b_m_at 89 = .ok (.lstore_n 3, 1) := by decide +kernel
theorem d_m_at_90 : decode b_m_at 90 = .ok (.iinc 5 1, 3) := by decide +kernel
theorem d_m_at_93 : decode b_m_at 93 = .ok (.goto (-41), 3) := by decide +kernel
theorem d_m_at_96 : decode b_m_at 96 = .ok (.lload_n 3, 1) := by decide +kernel
theorem d_m_at_97 : decode b_m_at 97 = .ok (.lreturn, 1) := by decide +kernel
theorem d_m_row_0 : decode b_m_row 0 = .ok (.aload_n 0, 1) := by decide +kernel
theorem d_m_row_1 : decode b_m_row 1 = .ok (.iload_n 1, 1) := by decide +kernel
theorem d_m_row_2 : decode b_m_row 2 = .ok (.iconst 0, 1) := by decide +kernel
theorem d_m_row_3 : decode b_m_row 3 = .ok (.bipush 15, 2) := by decide +kernel
theorem d_m_row_5 : decode b_m_row 5 = .ok (.invokestatic 50, 3) := by decide +kernel
theorem d_m_row_8 : decode b_m_row 8 = .ok (.ifCond .eq 15, 3) := by decide +kernel
theorem d_m_row_11 : decode b_m_row 11 = .ok (.iload_n 2, 1) := by decide +kernel
theorem d_m_row_12 : decode b_m_row 12 = .ok (.ifCond .ge 7, 3) := by decide +kernel
theorem d_m_row_15 : decode b_m_row 15 = .ok (.iconst 1, 1) := by decide +kernel
theorem d_m_row_16 : decode b_m_row 16 = .ok (.goto 8, 3) := by decide +kernel
theorem d_m_row_19 : decode b_m_row 19 = .ok (.iconst 0, 1) := by decide +kernel
theorem d_m_row_20 : decode b_m_row 20 = .ok (.goto 4, 3) := by decide +kernel
theorem d_m_row_23 : decode b_m_row 23 = .ok (.iconst 2, 1) := by decide +kernel
theorem d_m_row_24 : decode b_m_row 24 = .ok (.putfield 44, 3) := by decide +kernel
theorem d_m_row_27 : decode b_m_row 27 = .ok (.aload_n 0, 1) := by decide +kernel
theorem d_m_row_28 : decode b_m_row 28 = .ok (.getfield 44, 3) := by decide +kernel
theorem d_m_row_31 : decode b_m_row 31 = .ok (.ifCond .le 5, 3) := by decide +kernel
theorem d_m_row_34 : decode b_m_row 34 = .ok (.iconst 0, 1) := by decide +kernel
theorem d_m_row_35 : decode b_m_row 35 = .ok (.ireturn, 1) := by decide +kernel
theorem d_m_row_36 : decode b_m_row 36 = .ok (.iload_n 2, 1) := by decide +kernel
theorem d_m_row_37 : decode b_m_row 37 = .ok (.istore 4, 2) := by decide +kernel
theorem d_m_row_39 : decode b_m_row 39 = .ok (.iconst (-1), 1) := by decide +kernel
theorem d_m_row_40 : decode b_m_row 40 = .ok (.istore 5, 2) := by decide +kernel
theorem d_m_row_42 : decode b_m_row 42 = .ok (.iconst 0, 1) := by decide +kernel
theorem d_m_row_43 : decode b_m_row 43 = .ok (.istore 6, 2) := by decide +kernel
theorem d_m_row_45 : decode b_m_row 45 = .ok (.iload 6, 2) := by decide +kernel
theorem d_m_row_47 : decode b_m_row 47 = .ok (.aload_n 0, 1) := by decide +kernel
theorem d_m_row_48 : decode b_m_row 48 = .ok (.getfield 72, 3) := by decide +kernel
theorem d_m_row_51 : decode b_m_row 51 = .ok (.if_icmp .ge 93, 3) := by decide +kernel
theorem d_m_row_54 : decode b_m_row 54 = .ok (.iload 5, 2) := by decide +kernel
theorem d_m_row_56 : decode b_m_row 56 = .ok (.iconst (-1), 1) := by decide +kernel
theorem d_m_row_57 : decode b_m_row 57 = .ok (.if_icmp .ne 87, 3) := by decide +kernel
theorem d_m_row_60 : decode b_m_row 60 = .ok (.bipush 8, 2) := by decide +kernel
theorem d_m_row_62 : decode b_m_row 62 = .ok (.aload_n 0, 1) := by decide +kernel
theorem d_m_row_63 : decode b_m_row 63 = .ok (.getfield 34, 3) := by decide +kernel
theorem d_m_row_66 : decode b_m_row 66 = .ok (.iload 6, 2) := by decide +kernel
theorem d_m_row_68 : decode b_m_row 68 = .ok (.iaload, 1) := by decide +kernel
theorem d_m_row_69 : decode b_m_row 69 = .ok (.imul, 1) := by decide +kernel
theorem d_m_row_70 : decode b_m_row 70 = .ok (.istore 7, 2) := by decide +kernel
theorem d_m_row_72 : decode b_m_row 72 = .ok (.iload 7, 2) := by decide +kernel
theorem d_m_row_74 : decode b_m_row 74 = .ok (.bipush 8, 2) := by decide +kernel
theorem d_m_row_76 : decode b_m_row 76 = .ok (.aload_n 0, 1) := by decide +kernel
theorem d_m_row_77 : decode b_m_row 77 = .ok (.getfield 34, 3) := by decide +kernel
theorem d_m_row_80 : decode b_m_row 80 = .ok (.iload 6, 2) := by decide +kernel
theorem d_m_row_82 : decode b_m_row 82 = .ok (.iaload, 1) := by decide +kernel
theorem d_m_row_83 : decode b_m_row 83 = .ok (.imul, 1) := by decide +kernel
theorem d_m_row_84 : decode b_m_row 84 = .ok (.aload_n 0, 1) := by decide +kernel
theorem d_m_row_85 : decode b_m_row 85 = .ok (.getfield 13, 3) := by decide +kernel
theorem d_m_row_88 : decode b_m_row 88 = .ok (.aload_n 0, 1) := by decide +kernel
theorem d_m_row_89 : decode b_m_row 89 = .ok (.getfield 34, 3) := by decide +kernel
theorem d_m_row_92 : decode b_m_row 92 = .ok (.iload 6, 2) := by decide +kernel
theorem d_m_row_94 : decode b_m_row 94 = .ok (.iaload, 1) := by decide +kernel
theorem d_m_row_95 : decode b_m_row 95 = .ok (.iaload, 1) := by decide +kernel
theorem d_m_row_96 : decode b_m_row 96 = .ok (.iadd, 1) := by decide +kernel
theorem d_m_row_97 : decode b_m_row 97 = .ok (.if_icmp .ge 41, 3) := by decide +kernel
theorem d_m_row_100 : decode b_m_row 100 = .ok (.iload 5, 2) := by decide +kernel
theorem d_m_row_102 : decode b_m_row 102 = .ok (.iconst (-1), 1) := by decide +kernel
theorem d_m_row_103 : decode b_m_row 103 = .ok (.if_icmp .ne 35, 3) := by decide +kernel
theorem d_m_row_106 : decode b_m_row 106 = .ok (.aload_n 0, 1) := by decide +kernel
theorem d_m_row_107 : decode b_m_row 107 = .ok (.getfield 25, 3) := by decide +kernel
theorem d_m_row_110 : decode b_m_row 110 = .ok (.iload 7, 2) := by decide +kernel
theorem d_m_row_112 : decode b_m_row 112 = .ok (.iaload, 1) := by decide +kernel
theorem d_m_row_113 : decode b_m_row 113 = .ok (.iload_n 1, 1) := by decide +kernel
theorem d_m_row_114 : decode b_m_row 114 = .ok (.if_icmp .eq 6, 3) := by decide +kernel
theorem d_m_row_117 : decode b_m_row 117 = .ok (.goto 15, 3) := by decide +kernel
theorem d_m_row_120 : decode b_m_row 120 = .ok (.iload 4, 2) := by decide +kernel
theorem d_m_row_122 : decode b_m_row 122 = .ok (.ifCond .ne 7, 3) := by decide +kernel
theorem d_m_row_125 : decode b_m_row 125 = .ok (.iload 7, 2) := by decide +kernel
theorem d_m_row_127 : decode b_m_row 127 = .ok (.istore 5, 2) := by decide +kernel
theorem d_m_row_129 : decode b_m_row 129 = .ok (.iinc 4 (-1), 3) := by decide +kernel
theorem d_m_row_132 : decode b_m_row 132 = .ok (.iinc 7 1, 3) := by decide +kernel
theorem d_m_row_135 : decode b_m_row 135 = .ok (.goto (-63), 3) := by decide +kernel
theorem d_m_row_138 : decode b_m_row 138 = .ok (.iinc 6 1, 3) := by decide +kernel
theorem d_m_row_141 : decode b_m_row 141 = .ok (.goto (-96), 3) := by decide +kernel
theorem d_m_row_144 : decode b_m_row 144 = .ok (.aload_n 0, 1) := by decide +kernel
theorem d_m_row_145 : decode b_m_row 145 = .ok (.iload 5, 2) := by decide +kernel
theorem d_m_row_147 : decode b_m_row 147 = .ok (.iconst (-1), 1) := by decide +kernel
theorem d_m_row_148 : decode b_m_row 148 = .ok (.if_icmp .ne 7, 3) := by decide +kernel
theorem d_m_row_151 : decode b_m_row 151 = .ok (.iconst 1, 1) := by decide +kernel
theorem d_m_row_152 : decode b_m_row 152 = .ok (.goto 17, 3) := by decide +kernel
theorem d_m_row_155 : decode b_m_row 155 = .ok (.iload_n 3, 1) := by decide +kernel
theorem d_m_row_156 : decode b_m_row 156 = .ok (.iconst 0, 1) := by decide +kernel
theorem d_m_row_157 : decode b_m_row 157 = .ok (.iconst 3, 1) := by decide +kernel
theorem d_m_row_158 : decode b_m_row 158 = .ok (.invokestatic 50, 3) := by decide +kernel
theorem d_m_row_161 : decode b_m_row 161 = .ok (.ifCond .ne 7, 3) := by decide +kernel
theorem d_m_row_164 : decode b_m_row 164 = .ok (.iconst 2, 1) := by decide +kernel
theorem d_m_row_165 : decode b_m_row 165 = .ok (.goto 4, 3) := by decide +kernel
theorem d_m_row_168 : decode b_m_row 168 = .ok (.iconst 0, 1) := by decide +kernel
theorem d_m_row_169 : decode b_m_row 169 = .ok (.putfield 44, 3) := by decide +kernel
theorem d_m_row_172 : decode b_m_row 172 = .ok (.aload_n 0, 1) := by decide +kernel
theorem d_m_row_173 : decode b_m_row 173 = .ok (.getfield 44, 3) := by decide +kernel
theorem d_m_row_176 : decode b_m_row 176 = .ok (.ifCond .le 5, 3) := by decide +kernel
theorem d_m_row_179 : decode b_m_row 179 = .ok (.iconst 0, 1) := by decide +kernel
theorem d_m_row_180 : decode b_m_row 180 = .ok (.ireturn, 1) := by decide +kernel
theorem d_m_row_181 : decode b_m_row 181 = .ok (.iload_n 3, 1) := by decide +kernel
theorem d_m_row_182 : decode b_m_row 182 = .ok (.ifCond .ne 11, 3) := by decide +kernel
theorem d_m_row_185 : decode b_m_row 185 = .ok (.iload 5, 2) := by decide +kernel
theorem d_m_row_187 : decode b_m_row 187 = .ok (.bipush 8, 2) := by decide +kernel
theorem d_m_row_189 : decode b_m_row 189 = .ok (.idiv, 1) := by decide +kernel
theorem d_m_row_190 : decode b_m_row 190 = .ok (.goto 43, 3) := by decide +kernel
theorem d_m_row_193 : decode b_m_row 193 = .ok (.iload_n 3, 1) := by decide +kernel
theorem d_m_row_194 : decode b_m_row 194 = .ok (.iconst 1, 1) := by decide +kernel
theorem d_m_row_195 : decode b_m_row 195 = .ok (.if_icmp .ne 13, 3) := by decide +kernel
theorem d_m_row_198 : decode b_m_row 198 = .ok (.aload_n 0, 1) := by decide +kernel
theorem d_m_row_199 : decode b_m_row 199 = .ok (.getfield 28, 3) := by decide +kernel
theorem d_m_row_202 : decode b_m_row 202 = .ok (.iload 5, 2) := by decide +kernel
theorem d_m_row_204 : decode b_m_row 204 = .ok (.iaload, 1) := by decide +kernel
theorem d_m_row_205 : decode b_m_row 205 = .ok (.goto 28, 3) := by decide +kernel
theorem d_m_row_208 : decode b_m_row 208 = .ok (.iload_n 3, 1) := by decide +kernel
theorem d_m_row_209 : decode b_m_row 209 = .ok (.iconst 2, 1) := by decide +kernel
theorem d_m_row_210 : decode b_m_row 210 = .ok (.if_icmp .ne 13, 3) := by decide +kernel
theorem d_m_row_213 : decode b_m_row 213 = .ok (.aload_n 0, 1) := by decide +kernel
theorem d_m_row_214 : decode b_m_row 214 = .ok (.getfield 31, 3) := by decide +kernel
theorem d_m_row_217 : decode b_m_row 217 = .ok (.iload 5, 2) := by decide +kernel
theorem d_m_row_219 : decode b_m_row 219 = .ok (.iaload, 1) := by decide +kernel
theorem d_m_row_220 : decode b_m_row 220 = .ok (.goto 13, 3) := by decide +kernel
theorem d_m_row_223 : decode b_m_row 223 = .ok (.aload_n 0, 1) := by decide +kernel
theorem d_m_row_224 : decode b_m_row 224 = .ok (.getfield 16, 3) := by decide +kernel
theorem d_m_row_227 : decode b_m_row 227 = .ok (.iload 5, 2) := by decide +kernel
theorem d_m_row_229 : decode b_m_row 229 = .ok (.bipush 8, 2) := by decide +kernel
theorem d_m_row_231 : decode b_m_row 231 = .ok (.idiv, 1) := by decide +kernel
theorem d_m_row_232 : decode b_m_row 232 = .ok (.iaload, 1) := by decide +kernel
theorem d_m_row_233 : decode b_m_row 233 = .ok (.ireturn, 1) := by decide +kernel
theorem d_m_told_0 : decode b_m_told 0 = .ok (.aload_n 0, 1) := by decide +kernel
theorem d_m_told_1 : decode b_m_told 1 = .ok (.aload_n 0, 1) := by decide +kernel
theorem d_m_told_2 : decode b_m_told 2 = .ok (.iload_n 1, 1) := by decide +kernel
theorem d_m_told_3 : decode b_m_told 3 = .ok (.invokevirtual 58, 3) := by decide +kernel
theorem d_m_told_6 : decode b_m_told 6 = .ok (.ifCond .ne 7, 3) := by decide +kernel
theorem d_m_told_9 : decode b_m_told 9 = .ok (.iconst 1, 1) := by decide +kernel
theorem d_m_told_10 : decode b_m_told 10 = .ok (.goto 17, 3) := by decide +kernel
theorem d_m_told_13 : decode b_m_told 13 = .ok (.iload_n 2, 1) := by decide +kernel
theorem d_m_told_14 : decode b_m_told 14 = .ok (.iconst 0, 1) := by decide +kernel
theorem d_m_told_15 : decode b_m_told 15 = .ok (.iconst 4, 1) := by decide +kernel
theorem d_m_told_16 : decode b_m_told 16 = .ok (.invokestatic 50, 3) := by decide +kernel
theorem d_m_told_19 : decode b_m_told 19 = .ok (.ifCond .ne 7, 3) := by decide +kernel
theorem d_m_told_22 : decode b_m_told 22 = .ok (.iconst 2, 1) := by decide +kernel
theorem d_m_told_23 : decode b_m_told 23 = .ok (.goto 4, 3) := by decide +kernel
theorem d_m_told_26 : decode b_m_told 26 = .ok (.iconst 0, 1) := by decide +kernel
theorem d_m_told_27 : decode b_m_told 27 = .ok (.putfield 44, 3) := by decide +kernel
theorem d_m_told_30 : decode b_m_told 30 = .ok (.aload_n 0, 1) := by decide +kernel
theorem d_m_told_31 : decode b_m_told 31 = .ok (.getfield 44, 3) := by decide +kernel
theorem d_m_told_34 : decode b_m_told 34 = .ok (.ifCond .le 5, 3) := by decide +kernel
theorem d_m_told_37 : decode b_m_told 37 = .ok (.iconst 0, 1) := by decide +kernel
theorem d_m_told_38 : decode b_m_told 38 = .ok (.ireturn, 1) := by decide +kernel
theorem d_m_told_39 : decode b_m_told 39 = .ok (.iload_n 2, 1) := by decide +kernel
theorem d_m_told_40 : decode b_m_told 40 = .ok (.ifCond .ne 12, 3) := by decide +kernel
theorem d_m_told_43 : decode b_m_told 43 = .ok (.aload_n 0, 1) := by decide +kernel
theorem d_m_told_44 : decode b_m_told 44 = .ok (.getfield 7, 3) := by decide +kernel
theorem d_m_told_47 : decode b_m_told 47 = .ok (.iload_n 1, 1) := by decide +kernel
theorem d_m_told_48 : decode b_m_told 48 = .ok (.iaload, 1) := by decide +kernel
theorem d_m_told_49 : decode b_m_told 49 = .ok (.goto 51, 3) := by decide +kernel
theorem d_m_told_52 : decode b_m_told 52 = .ok (.iload_n 2, 1) := by decide +kernel
theorem d_m_told_53 : decode b_m_told 53 = .ok (.iconst 1, 1) := by decide +kernel
theorem d_m_told_54 : decode b_m_told 54 = .ok (.if_icmp .ne 12, 3) := by decide +kernel
theorem d_m_told_57 : decode b_m_told 57 = .ok (.aload_n 0, 1) := by decide +kernel
theorem d_m_told_58 : decode b_m_told 58 = .ok (.getfield 13, 3) := by decide +kernel
theorem d_m_told_61 : decode b_m_told 61 = .ok (.iload_n 1, 1) := by decide +kernel
theorem d_m_told_62 : decode b_m_told 62 = .ok (.iaload, 1) := by decide +kernel
theorem d_m_told_63 : decode b_m_told 63 = .ok (.goto 37, 3) := by decide +kernel
theorem d_m_told_66 : decode b_m_told 66 = .ok (.iload_n 2, 1) := by decide +kernel
theorem d_m_told_67 : decode b_m_told 67 = .ok (.iconst 2, 1) := by decide +kernel
theorem d_m_told_68 : decode b_m_told 68 = .ok (.if_icmp .ne 12, 3) := by decide +kernel
theorem d_m_told_71 : decode b_m_told 71 = .ok (.aload_n 0, 1) := by decide +kernel
theorem d_m_told_72 : decode b_m_told 72 = .ok (.getfield 16, 3) := by decide +kernel
theorem d_m_told_75 : decode b_m_told 75 = .ok (.iload_n 1, 1) := by decide +kernel
theorem d_m_told_76 : decode b_m_told 76 = .ok (.iaload, 1) := by decide +kernel
theorem d_m_told_77 : decode b_m_told 77 = .ok (.goto 23, 3) := by decide +kernel
theorem d_m_told_80 : decode b_m_told 80 = .ok (.iload_n 2, 1) := by decide +kernel
theorem d_m_told_81 : decode b_m_told 81 = .ok (.iconst 3, 1) := by decide +kernel
theorem d_m_told_82 : decode b_m_told 82 = .ok (.if_icmp .ne 12, 3) := by decide +kernel
theorem d_m_told_85 : decode b_m_told 85 = .ok (.aload_n 0, 1) := by decide +kernel
theorem d_m_told_86 : decode b_m_told 86 = .ok (.getfield 19, 3) := by decide +kernel
theorem d_m_told_89 : decode b_m_told 89 = .ok (.iload_n 1, 1) := by decide +kernel
theorem d_m_told_90 : decode b_m_told 90 = .ok (.iaload, 1) := by decide +kernel
theorem d_m_told_91 : decode b_m_told 91 = .ok (.goto 9, 3) := by decide +kernel
theorem d_m_told_94 : decode b_m_told 94 = .ok (.aload_n 0, 1) := by decide +kernel
theorem d_m_told_95 : decode b_m_told 95 = .ok (.getfield 22, 3) := by decide +kernel
theorem d_m_told_98 : decode b_m_told 98 = .ok (.iload_n 1, 1) := by decide +kernel
theorem d_m_told_99 : decode b_m_told 99 = .ok (.iaload, 1) := by decide +kernel
theorem d_m_told_100 : decode b_m_told 100 = .ok (.ireturn, 1) := by decide +kernel
theorem d_m_packed_0 : decode b_m_packed 0 = .ok (.aload_n 0, 1) := by decide +kernel
theorem d_m_packed_1 : decode b_m_packed 1 = .ok (.iconst 1, 1) := by decide +kernel
theorem d_m_packed_2 : decode b_m_packed 2 = .ok (.putfield 44, 3) := by decide +kernel
theorem d_m_packed_5 : decode b_m_packed 5 = .ok (.aload_n 0, 1) := by decide +kernel
theorem d_m_packed_6 : decode b_m_packed 6 = .ok (.iload_n 1, 1) := by decide +kernel
theorem d_m_packed_7 : decode b_m_packed 7 = .ok (.invokevirtual 58, 3) := by decide +kernel
theorem d_m_packed_10 : decode b_m_packed 10 = .ok (.ifCond .ne 5, 3) := by decide +kernel
theorem d_m_packed_13 : decode b_m_packed 13 = .ok (.lconst 0, 1) := by decide +kernel
theorem d_m_packed_14 : decode b_m_packed 14 = .ok (.lreturn, 1) := by decide +kernel
theorem d_m_packed_15 : decode b_m_packed 15 = .ok (.iload_n 2, 1) := by decide +kernel
theorem d_m_packed_16 : decode b_m_packed 16 = .ok (.iconst 0, 1) := by decide +kernel
theorem d_m_packed_17 : decode b_m_packed 17 = .ok (.aload_n 0, 1) := by decide +kernel
theorem d_m_packed_18 : decode b_m_packed 18 = .ok (.getfield 13, 3) := by decide +kernel
theorem d_m_packed_21 : decode b_m_packed 21 = .ok (.iload_n 1, 1) := by decide +kernel
theorem d_m_packed_22 : decode b_m_packed 22 = .ok (.iaload, 1) := by decide +kernel
theorem d_m_packed_23 : decode b_m_packed 23 = .ok (.iconst 1, 1) := by decide +kernel
theorem d_m_packed_24 : decode b_m_packed 24 = .ok (.isub, 1) := by decide +kernel
theorem d_m_packed_25 : decode b_m_packed 25 = .ok (.invokestatic 50, 3) := by decide +kernel
theorem d_m_packed_28 : decode b_m_packed 28 = .ok (.ifCond .ne 5, 3) := by decide +kernel
theorem d_m_packed_31 : decode b_m_packed 31 = .ok (.lconst 0, 1) := by decide +kernel
theorem d_m_packed_32 : decode b_m_packed 32 = .ok (.lreturn, 1) := by decide +kernel
theorem d_m_packed_33 : decode b_m_packed 33 = .ok (.aload_n 0, 1) := by decide +kernel
theorem d_m_packed_34 : decode b_m_packed 34 = .ok (.iconst 0, 1) := by decide +kernel
theorem d_m_packed_35 : decode b_m_packed 35 = .ok (.putfield 44, 3) := by decide +kernel
theorem d_m_packed_38 : decode b_m_packed 38 = .ok (.bipush 8, 2) := by decide +kernel
theorem d_m_packed_40 : decode b_m_packed 40 = .ok (.iload_n 1, 1) := by decide +kernel
theorem d_m_packed_41 : decode b_m_packed 41 = .ok (.imul, 1) := by decide +kernel
theorem d_m_packed_42 : decode b_m_packed 42 = .ok (.iload_n 2, 1) := by decide +kernel
theorem d_m_packed_43 : decode b_m_packed 43 = .ok (.iadd, 1) := by decide +kernel
theorem d_m_packed_44 : decode b_m_packed 44 = .ok (.istore_n 3, 1) := by decide +kernel
theorem d_m_packed_45 : decode b_m_packed 45 = .ok (.ldc2_w 96, 3) := by decide +kernel
theorem d_m_packed_48 : decode b_m_packed 48 = .ok (.aload_n 0, 1) := by decide +kernel
theorem d_m_packed_49 : decode b_m_packed 49 = .ok (.getfield 31, 3) := by decide +kernel
theorem d_m_packed_52 : decode b_m_packed 52 = .ok (.iload_n 3, 1) := by decide +kernel
theorem d_m_packed_53 : decode b_m_packed 53 = .ok (.iaload, 1) := by decide +kernel
theorem d_m_packed_54 : decode b_m_packed 54 = .ok (.i2l, 1) := by decide +kernel
theorem d_m_packed_55 : decode b_m_packed 55 = .ok (.lmul, 1) := by decide +kernel
theorem d_m_packed_56 : decode b_m_packed 56 = .ok (.bipush 8, 2) := by decide +kernel
theorem d_m_packed_58 : decode b_m_packed 58 = .ok (.aload_n 0, 1) := by decide +kernel
theorem d_m_packed_59 : decode b_m_packed 59 = .ok (.getfield 25, 3) := by decide +kernel
theorem d_m_packed_62 : decode b_m_packed 62 = .ok (.iload_n 3, 1) := by decide +kernel
theorem d_m_packed_63 : decode b_m_packed 63 = .ok (.iaload, 1) := by decide +kernel
theorem d_m_packed_64 : decode b_m_packed 64 = .ok (.imul, 1) := by decide +kernel
theorem d_m_packed_65 : decode b_m_packed 65 = .ok (.i2l, 1) := by decide +kernel
theorem d_m_packed_66 : decode b_m_packed 66 = .ok (.ladd, 1) := by decide +kernel
theorem d_m_packed_67 : decode b_m_packed 67 = .ok (.aload_n 0, 1) := by decide +kernel
theorem d_m_packed_68 : decode b_m_packed 68 = .ok (.getfield 28, 3) := by decide +kernel
theorem d_m_packed_71 : decode b_m_packed 71 = .ok (.iload_n 3, 1) := by decide +kernel
theorem d_m_packed_72 : decode b_m_packed 72 = .ok (.iaload, 1) := by decide +kernel
theorem d_m_packed_73 : decode b_m_packed 73 = .ok (.i2l, 1) := by decide +kernel
theorem d_m_packed_74 : decode b_m_packed 74 = .ok (.ladd, 1) := by decide +kernel
theorem d_m_packed_75 : decode b_m_packed 75 = .ok (.lreturn, 1) := by decide +kernel
theorem d_m_count_0 : decode b_m_count 0 = .ok (.aload_n 0, 1) := by decide +kernel
theorem d_m_count_1 : decode b_m_count 1 = .ok (.iconst 0, 1) := by decide +kernel
theorem d_m_count_2 : decode b_m_count 2 = .ok (.putfield 44, 3) := by decide +kernel
theorem d_m_count_5 : decode b_m_count 5 = .ok (.iload_n 1, 1) := by decide +kernel
theorem d_m_count_6 : decode b_m_count 6 = .ok (.ifCond .ne 8, 3) := by decide +kernel
theorem d_m_count_9 : decode b_m_count 9 = .ok (.aload_n 0, 1) := by decide +kernel
theorem d_m_count_10 : decode b_m_count 10 = .ok (.getfield 47, 3) := by decide +kernel
theorem d_m_count_13 : decode b_m_count 13 = .ok (.ireturn, 1) := by decide +kernel
theorem d_m_count_14 : decode b_m_count 14 = .ok (.iload_n 1, 1) := by decide +kernel
theorem d_m_count_15 : decode b_m_count 15 = .ok (.iconst 3, 1) := by decide +kernel
theorem d_m_count_16 : decode b_m_count 16 = .ok (.if_icmp .ne 10, 3) := by decide +kernel
theorem d_m_count_19 : decode b_m_count 19 = .ok (.aload_n 0, 1) := by decide +kernel
theorem d_m_count_20 : decode b_m_count 20 = .ok (.getfield 37, 3) := by decide +kernel
theorem d_m_count_23 : decode b_m_count 23 = .ok (.iconst 1, 1) := by decide +kernel
theorem d_m_count_24 : decode b_m_count 24 = .ok (.iadd, 1) := by decide +kernel
theorem d_m_count_25 : decode b_m_count 25 = .ok (.ireturn, 1) := by decide +kernel
theorem d_m_count_26 : decode b_m_count 26 = .ok (.iconst 0, 1) := by decide +kernel
theorem d_m_count_27 : decode b_m_count 27 = .ok (.istore_n 2, 1) := by decide +kernel
theorem d_m_count_28 : decode b_m_count 28 = .ok (.iconst 0, 1) := by decide +kernel
theorem d_m_count_29 : decode b_m_count 29 = .ok (.istore_n 3, 1) := by decide +kernel
theorem d_m_count_30 : decode b_m_count 30 = .ok (.iload_n 3, 1) := by decide +kernel
theorem d_m_count_31 : decode b_m_count 31 = .ok (.aload_n 0, 1) := by decide +kernel
theorem d_m_count_32 : decode b_m_count 32 = .ok (.getfield 72, 3) := by decide +kernel
theorem d_m_count_35 : decode b_m_count 35 = .ok (.if_icmp .ge 28, 3) := by decide +kernel
theorem d_m_count_38 : decode b_m_count 38 = .ok (.iload_n 1, 1) := by decide +kernel
theorem d_m_count_39 : decode b_m_count 39 = .ok (.iconst 1, 1) := by decide +kernel
theorem d_m_count_40 : decode b_m_count 40 = .ok (.if_icmp .ne 23, 3) := by decide +kernel
theorem d_m_count_43 : decode b_m_count 43 = .ok (.iload_n 2, 1) := by decide +kernel
theorem d_m_count_44 : decode b_m_count 44 = .ok (.aload_n 0, 1) := by decide +kernel
theorem d_m_count_45 : decode b_m_count 45 = .ok (.getfield 13, 3) := by decide +kernel
theorem d_m_count_48 : decode b_m_count 48 = .ok (.aload_n 0, 1) := by decide +kernel
theorem d_m_count_49 : decode b_m_count 49 = .ok (.getfield 34, 3) := by decide +kernel
theorem d_m_count_52 : decode b_m_count 52 = .ok (.iload_n 3, 1) := by decide +kernel
theorem d_m_count_53 : decode b_m_count 53 = .ok (.iaload, 1) := by decide +kernel
theorem d_m_count_54 : decode b_m_count 54 = .ok (.iaload, 1) := by decide +kernel
theorem d_m_count_55 : decode b_m_count 55 = .ok (.iadd, 1) := by decide +kernel
theorem d_m_count_56 : decode b_m_count 56 = .ok (.istore_n 2, 1) := by decide +kernel
theorem d_m_count_57 : decode b_m_count 57 = .ok (.iinc 3 1, 3) := by decide +kernel
theorem d_m_count_60 : decode b_m_count 60 = .ok (.goto (-30), 3) := by decide +kernel
theorem d_m_count_63 : decode b_m_count 63 = .ok (.iconst 0, 1) := by decide +kernel
theorem d_m_count_64 : decode b_m_count 64 = .ok (.istore_n 3, 1) := by decide +kernel
theorem d_m_count_65 : decode b_m_count 65 = .ok (.iload_n 3, 1) := by decide +kernel
theorem d_m_count_66 : decode b_m_count 66 = .ok (.aload_n 0, 1) := by decide +kernel
theorem d_m_count_67 : decode b_m_count 67 = .ok (.getfield 47, 3) := by decide +kernel
theorem d_m_count_70 : decode b_m_count 70 = .ok (.if_icmp .ge 32, 3) := by decide +kernel
theorem d_m_count_73 : decode b_m_count 73 = .ok (.iload_n 1, 1) := by decide +kernel
theorem d_m_count_74 : decode b_m_count 74 = .ok (.iconst 2, 1) := by decide +kernel
theorem d_m_count_75 : decode b_m_count 75 = .ok (.if_icmp .ne 27, 3) := by decide +kernel
theorem d_m_count_78 : decode b_m_count 78 = .ok (.iload_n 2, 1) := by decide +kernel
theorem d_m_count_79 : decode b_m_count 79 = .ok (.aload_n 0, 1) := by decide +kernel
theorem d_m_count_80 : decode b_m_count 80 = .ok (.getfield 7, 3) := by decide +kernel
theorem d_m_count_83 : decode b_m_count 83 = .ok (.iload_n 3, 1) := by decide +kernel
theorem d_m_count_84 : decode b_m_count 84 = .ok (.iaload, 1) := by decide +kernel
theorem d_m_count_85 : decode b_m_count 85 = .ok (.iconst 1, 1) := by decide +kernel
theorem d_m_count_86 : decode b_m_count 86 = .ok (.if_icmp .ne 7, 3) := by decide +kernel
theorem d_m_count_89 : decode b_m_count 89 = .ok (.iconst 1, 1) := by decide +kernel
theorem d_m_count_90 : decode b_m_count 90 = .ok (.goto 4, 3) := by decide +kernel
theorem d_m_count_93 : decode b_m_count 93 = .ok (.iconst 0, 1) := by decide +kernel
theorem d_m_count_94 : decode b_m_count 94 = .ok (.iadd, 1) := by decide +kernel
theorem d_m_count_95 : decode b_m_count 95 = .ok (.istore_n 2, 1) := by decide +kernel
theorem d_m_count_96 : decode b_m_count 96 = .ok (.iinc 3 1, 3) := by decide +kernel
theorem d_m_count_99 : decode b_m_count 99 = .ok (.goto (-34), 3) := by decide +kernel
theorem d_m_count_102 : decode b_m_count 102 = .ok (.iload_n 1, 1) := by decide +kernel
theorem d_m_count_103 : decode b_m_count 103 = .ok (.iconst 1, 1) := by decide +kernel
theorem d_m_count_104 : decode b_m_count 104 = .ok (.if_icmp .eq 8, 3) := by decide +kernel
theorem d_m_count_107 : decode b_m_count 107 = .ok (.iload_n 1, 1) := by decide +kernel
theorem d_m_count_108 : decode b_m_count 108 = .ok (.iconst 2, 1) := by decide +kernel
theorem d_m_count_109 : decode b_m_count 109 = .ok (.if_icmp .ne 7, 3) := by decide +kernel
theorem d_m_count_112 : decode b_m_count 112 = .ok (.iload_n 2, 1) := by decide +kernel
theorem d_m_count_113 : decode b_m_count 113 = .ok (.goto 4, 3) := by decide +kernel
theorem d_m_count_116 : decode b_m_count 116 = .ok (.iconst (-1), 1) := by decide +kernel
theorem d_m_count_117 : decode b_m_count 117 = .ok (.ireturn, 1) := by decide +kernel
