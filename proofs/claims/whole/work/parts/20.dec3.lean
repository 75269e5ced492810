abbrev c_Model_init : ByteArray := prog_14_method_1_code
def y_Model_init : MethodName := ⟨"CycleChipModel", "<init>", "(II)V"⟩
theorem d_Model_init_0 : decode c_Model_init 0 = .ok (.aload_n 0, 1) := by decide +kernel
theorem d_Model_init_1 : decode c_Model_init 1 = .ok (.invokespecial 1, 3) := by decide +kernel
theorem d_Model_init_4 : decode c_Model_init 4 = .ok (.aload_n 0, 1) := by decide +kernel
theorem d_Model_init_5 : decode c_Model_init 5 = .ok (.bipush 16, 2) := by decide +kernel
theorem d_Model_init_7 : decode c_Model_init 7 = .ok (.newarray .int, 2) := by decide +kernel
theorem d_Model_init_9 : decode c_Model_init 9 = .ok (.putfield 7, 3) := by decide +kernel
theorem d_Model_init_12 : decode c_Model_init 12 = .ok (.aload_n 0, 1) := by decide +kernel
theorem d_Model_init_13 : decode c_Model_init 13 = .ok (.bipush 16, 2) := by decide +kernel
theorem d_Model_init_15 : decode c_Model_init 15 = .ok (.newarray .int, 2) := by decide +kernel
theorem d_Model_init_17 : decode c_Model_init 17 = .ok (.putfield 13, 3) := by decide +kernel
theorem d_Model_init_20 : decode c_Model_init 20 = .ok (.aload_n 0, 1) := by decide +kernel
theorem d_Model_init_21 : decode c_Model_init 21 = .ok (.sipush 128, 3) := by decide +kernel
theorem d_Model_init_24 : decode c_Model_init 24 = .ok (.newarray .int, 2) := by decide +kernel
theorem d_Model_init_26 : decode c_Model_init 26 = .ok (.putfield 16, 3) := by decide +kernel
theorem d_Model_init_29 : decode c_Model_init 29 = .ok (.aload_n 0, 1) := by decide +kernel
theorem d_Model_init_30 : decode c_Model_init 30 = .ok (.sipush 256, 3) := by decide +kernel
theorem d_Model_init_33 : decode c_Model_init 33 = .ok (.newarray .boolean, 2) := by decide +kernel
theorem d_Model_init_35 : decode c_Model_init 35 = .ok (.putfield 19, 3) := by decide +kernel
theorem d_Model_init_38 : decode c_Model_init 38 = .ok (.aload_n 0, 1) := by decide +kernel
theorem d_Model_init_39 : decode c_Model_init 39 = .ok (.sipush 256, 3) := by decide +kernel
theorem d_Model_init_42 : decode c_Model_init 42 = .ok (.newarray .int, 2) := by decide +kernel
theorem d_Model_init_44 : decode c_Model_init 44 = .ok (.putfield 23, 3) := by decide +kernel
theorem d_Model_init_47 : decode c_Model_init 47 = .ok (.aload_n 0, 1) := by decide +kernel
theorem d_Model_init_48 : decode c_Model_init 48 = .ok (.bipush 32, 2) := by decide +kernel
theorem d_Model_init_50 : decode c_Model_init 50 = .ok (.newarray .int, 2) := by decide +kernel
theorem d_Model_init_52 : decode c_Model_init 52 = .ok (.putfield 26, 3) := by decide +kernel
theorem d_Model_init_55 : decode c_Model_init 55 = .ok (.aload_n 0, 1) := by decide +kernel
theorem d_Model_init_56 : decode c_Model_init 56 = .ok (.bipush 7, 2) := by decide +kernel
theorem d_Model_init_58 : decode c_Model_init 58 = .ok (.newarray .int, 2) := by decide +kernel
theorem d_Model_init_60 : decode c_Model_init 60 = .ok (.putfield 29, 3) := by decide +kernel
theorem d_Model_init_63 : decode c_Model_init 63 = .ok (.aload_n 0, 1) := by decide +kernel
theorem d_Model_init_64 : decode c_Model_init 64 = .ok (.iconst (-1), 1) := by decide +kernel
theorem d_Model_init_65 : decode c_Model_init 65 = .ok (.putfield 32, 3) := by decide +kernel
theorem d_Model_init_68 : decode c_Model_init 68 = .ok (.aload_n 0, 1) := by decide +kernel
theorem d_Model_init_69 : decode c_Model_init 69 = .ok (.iconst 1, 1) := by decide +kernel
theorem d_Model_init_70 : decode c_Model_init 70 = .ok (.putfield 36, 3) := by decide +kernel
theorem d_Model_init_73 : decode c_Model_init 73 = .ok (.aload_n 0, 1) := by decide +kernel
theorem d_Model_init_74 : decode c_Model_init 74 = .ok (.iconst 2, 1) := by decide +kernel
theorem d_Model_init_75 : decode c_Model_init 75 = .ok (.newarray .int, 2) := by decide +kernel
theorem d_Model_init_77 : decode c_Model_init 77 = .ok (.putfield 40, 3) := by decide +kernel
theorem d_Model_init_80 : decode c_Model_init 80 = .ok (.aload_n 0, 1) := by decide +kernel
theorem d_Model_init_81 : decode c_Model_init 81 = .ok (.iconst 2, 1) := by decide +kernel
theorem d_Model_init_82 : decode c_Model_init 82 = .ok (.newarray .int, 2) := by decide +kernel
theorem d_Model_init_84 : decode c_Model_init 84 = .ok (.putfield 43, 3) := by decide +kernel
theorem d_Model_init_87 : decode c_Model_init 87 = .ok (.aload_n 0, 1) := by decide +kernel
theorem d_Model_init_88 : decode c_Model_init 88 = .ok (.bipush 16, 2) := by decide +kernel
theorem d_Model_init_90 : decode c_Model_init 90 = .ok (.newarray .int, 2) := by decide +kernel
theorem d_Model_init_92 : decode c_Model_init 92 = .ok (.putfield 46, 3) := by decide +kernel
theorem d_Model_init_95 : decode c_Model_init 95 = .ok (.aload_n 0, 1) := by decide +kernel
theorem d_Model_init_96 : decode c_Model_init 96 = .ok (.bipush 16, 2) := by decide +kernel
theorem d_Model_init_98 : decode c_Model_init 98 = .ok (.newarray .int, 2) := by decide +kernel
theorem d_Model_init_100 : decode c_Model_init 100 = .ok (.putfield 49, 3) := by decide +kernel
theorem d_Model_init_103 : decode c_Model_init 103 = .ok (.aload_n 0, 1) := by decide +kernel
theorem d_Model_init_104 : decode c_Model_init 104 = .ok (.bipush 16, 2) := by decide +kernel
theorem d_Model_init_106 : decode c_Model_init 106 = .ok (.newarray .int, 2) := by decide +kernel
theorem d_Model_init_108 : decode c_Model_init 108 = .ok (.putfield 52, 3) := by decide +kernel
theorem d_Model_init_111 : decode c_Model_init 111 = .ok (.aload_n 0, 1) := by decide +kernel
theorem d_Model_init_112 : decode c_Model_init 112 = .ok (.ldc2_w 55, 3) := by decide +kernel
theorem d_Model_init_115 : decode c_Model_init 115 = .ok (.putfield 57, 3) := by decide +kernel
theorem d_Model_init_118 : decode c_Model_init 118 = .ok (.aload_n 0, 1) := by decide +kernel
theorem d_Model_init_119 : decode c_Model_init 119 = .ok (.bipush 8, 2) := by decide +kernel
theorem d_Model_init_121 : decode c_Model_init 121 = .ok (.newarray .boolean, 2) := by decide +kernel
theorem d_Model_init_123 : decode c_Model_init 123 = .ok (.putfield 61, 3) := by decide +kernel
theorem d_Model_init_126 : decode c_Model_init 126 = .ok (.aload_n 0, 1) := by decide +kernel
theorem d_Model_init_127 : decode c_Model_init 127 = .ok (.bipush 8, 2) := by decide +kernel
theorem d_Model_init_129 : decode c_Model_init 129 = .ok (.newarray .boolean, 2) := by decide +kernel
theorem d_Model_init_131 : decode c_Model_init 131 = .ok (.putfield 64, 3) := by decide +kernel
theorem d_Model_init_134 : decode c_Model_init 134 = .ok (.aload_n 0, 1) := by decide +kernel
theorem d_Model_init_135 : decode c_Model_init 135 = .ok (.bipush 8, 2) := by decide +kernel
theorem d_Model_init_137 : decode c_Model_init 137 = .ok (.newarray .boolean, 2) := by decide +kernel
theorem d_Model_init_139 : decode c_Model_init 139 = .ok (.putfield 67, 3) := by decide +kernel
theorem d_Model_init_142 : decode c_Model_init 142 = .ok (.aload_n 0, 1) := by decide +kernel
theorem d_Model_init_143 : decode c_Model_init 143 = .ok (.bipush 8, 2) := by decide +kernel
theorem d_Model_init_145 : decode c_Model_init 145 = .ok (.newarray .int, 2) := by decide +kernel
theorem d_Model_init_147 : decode c_Model_init 147 = .ok (.putfield 70, 3) := by decide +kernel
theorem d_Model_init_150 : decode c_Model_init 150 = .ok (.aload_n 0, 1) := by decide +kernel
theorem d_Model_init_151 : decode c_Model_init 151 = .ok (.bipush 8, 2) := by decide +kernel
theorem d_Model_init_153 : decode c_Model_init 153 = .ok (.newarray .int, 2) := by decide +kernel
theorem d_Model_init_155 : decode c_Model_init 155 = .ok (.putfield 73, 3) := by decide +kernel
theorem d_Model_init_158 : decode c_Model_init 158 = .ok (.aload_n 0, 1) := by decide +kernel
theorem d_Model_init_159 : decode c_Model_init 159 = .ok (.iconst 1, 1) := by decide +kernel
theorem d_Model_init_160 : decode c_Model_init 160 = .ok (.putfield 76, 3) := by decide +kernel
theorem d_Model_init_163 : decode c_Model_init 163 = .ok (.aload_n 0, 1) := by decide +kernel
theorem d_Model_init_164 : decode c_Model_init 164 = .ok (.bipush 16, 2) := by decide +kernel
theorem d_Model_init_166 : decode c_Model_init 166 = .ok (.newarray .long, 2) := by decide +kernel
theorem d_Model_init_168 : decode c_Model_init 168 = .ok (.putfield 79, 3) := by decide +kernel
theorem d_Model_init_171 : decode c_Model_init 171 = .ok (.aload_n 0, 1) := by decide +kernel
theorem d_Model_init_172 : decode c_Model_init 172 = .ok (.iload_n 1, 1) := by decide +kernel
theorem d_Model_init_173 : decode c_Model_init 173 = .ok (.iconst 1, 1) := by decide +kernel
theorem d_Model_init_174 : decode c_Model_init 174 = .ok (.if_icmp .ge 7, 3) := by decide +kernel
theorem d_Model_init_177 : decode c_Model_init 177 = .ok (.iconst 1, 1) := by decide +kernel
theorem d_Model_init_178 : decode c_Model_init 178 = .ok (.goto 15, 3) := by decide +kernel
theorem d_Model_init_181 : decode c_Model_init 181 = .ok (.iload_n 1, 1) := by decide +kernel
theorem d_Model_init_182 : decode c_Model_init 182 = .ok (.bipush 8, 2) := by decide +kernel
theorem d_Model_init_184 : decode c_Model_init 184 = .ok (.if_icmp .le 8, 3) := by decide +kernel
theorem d_Model_init_187 : decode c_Model_init 187 = .ok (.bipush 8, 2) := by decide +kernel
theorem d_Model_init_189 : decode c_Model_init 189 = .ok (.goto 4, 3) := by decide +kernel
theorem d_Model_init_192 : decode c_Model_init 192 = .ok (.iload_n 1, 1) := by decide +kernel
theorem d_Model_init_193 : decode c_Model_init 193 = .ok (.putfield 83, 3) := by decide +kernel
theorem d_Model_init_196 : decode c_Model_init 196 = .ok (.aload_n 0, 1) := by decide +kernel
theorem d_Model_init_197 : decode c_Model_init 197 = .ok (.iload_n 2, 1) := by decide +kernel
theorem d_Model_init_198 : decode c_Model_init 198 = .ok (.iconst 1, 1) := by decide +kernel
theorem d_Model_init_199 : decode c_Model_init 199 = .ok (.if_icmp .ge 7, 3) := by decide +kernel
theorem d_Model_init_202 : decode c_Model_init 202 = .ok (.iconst 1, 1) := by decide +kernel
theorem d_Model_init_203 : decode c_Model_init 203 = .ok (.goto 15, 3) := by decide +kernel
theorem d_Model_init_206 : decode c_Model_init 206 = .ok (.iload_n 2, 1) := by decide +kernel
theorem d_Model_init_207 : decode c_Model_init 207 = .ok (.bipush 8, 2) := by decide +kernel
theorem d_Model_init_209 : decode c_Model_init 209 = .ok (.if_icmp .le 8, 3) := by decide +kernel
theorem d_Model_init_212 : decode c_Model_init 212 = .ok (.bipush 8, 2) := by decide +kernel
theorem d_Model_init_214 : decode c_Model_init 214 = .ok (.goto 4, 3) := by decide +kernel
theorem d_Model_init_217 : decode c_Model_init 217 = .ok (.iload_n 2, 1) := by decide +kernel
theorem d_Model_init_218 : decode c_Model_init 218 = .ok (.putfield 86, 3) := by decide +kernel
theorem d_Model_init_221 : decode c_Model_init 221 = .ok (.return_, 1) := by decide +kernel
abbrev c_Model_in : ByteArray := prog_14_method_2_code
def y_Model_in : MethodName := ⟨"CycleChipModel", "in", "(III)Z"⟩
theorem d_Model_in_0 : decode c_Model_in 0 = .ok (.iload_n 0, 1) := by decide +kernel
theorem d_Model_in_1 : decode c_Model_in 1 = .ok (.iload_n 1, 1) := by decide +kernel
theorem d_Model_in_2 : decode c_Model_in 2 = .ok (.if_icmp .lt 12, 3) := by decide +kernel
theorem d_Model_in_5 : decode c_Model_in 5 = .ok (.iload_n 0, 1) := by decide +kernel
theorem d_Model_in_6 : decode c_Model_in 6 = .ok (.iload_n 2, 1) := by decide +kernel
theorem d_Model_in_7 : decode c_Model_in 7 = .ok (.if_icmp .gt 7, 3) := by decide +kernel
theorem d_Model_in_10 : decode c_Model_in 10 = .ok (.iconst 1, 1) := by decide +kernel
theorem d_Model_in_11 : decode c_Model_in 11 = .ok (.goto 4, 3) := by decide +kernel
theorem d_Model_in_14 : decode c_Model_in 14 = .ok (.iconst 0, 1) := by decide +kernel
theorem d_Model_in_15 : decode c_Model_in 15 = .ok (.ireturn, 1) := by decide +kernel
abbrev c_Model_poke : ByteArray := prog_14_method_3_code
def y_Model_poke : MethodName := ⟨"CycleChipModel", "poke", "(II)I"⟩
theorem d_Model_poke_0 : decode c_Model_poke 0 = .ok (.iload_n 1, 1) := by decide +kernel
theorem d_Model_poke_1 : decode c_Model_poke 1 = .ok (.iconst 0, 1) := by decide +kernel
theorem d_Model_poke_2 : decode c_Model_poke 2 = .ok (.bipush 127, 2) := by decide +kernel
theorem d_Model_poke_4 : decode c_Model_poke 4 = .ok (.invokestatic 89, 3) := by decide +kernel
theorem d_Model_poke_7 : decode c_Model_poke 7 = .ok (.ifCond .ne 5, 3) := by decide +kernel
theorem d_Model_poke_10 : decode c_Model_poke 10 = .ok (.iconst 0, 1) := by decide +kernel
theorem d_Model_poke_11 : decode c_Model_poke 11 = .ok (.ireturn, 1) := by decide +kernel
theorem d_Model_poke_12 : decode c_Model_poke 12 = .ok (.aload_n 0, 1) := by decide +kernel
theorem d_Model_poke_13 : decode c_Model_poke 13 = .ok (.getfield 16, 3) := by decide +kernel
theorem d_Model_poke_16 : decode c_Model_poke 16 = .ok (.iload_n 1, 1) := by decide +kernel
theorem d_Model_poke_17 : decode c_Model_poke 17 = .ok (.iaload, 1) := by decide +kernel
theorem d_Model_poke_18 : decode c_Model_poke 18 = .ok (.istore_n 3, 1) := by decide +kernel
theorem d_Model_poke_19 : decode c_Model_poke 19 = .ok (.aload_n 0, 1) := by decide +kernel
theorem d_Model_poke_20 : decode c_Model_poke 20 = .ok (.getfield 16, 3) := by decide +kernel
theorem d_Model_poke_23 : decode c_Model_poke 23 = .ok (.iload_n 1, 1) := by decide +kernel
theorem d_Model_poke_24 : decode c_Model_poke 24 = .ok (.iload_n 2, 1) := by decide +kernel
theorem d_Model_poke_25 : decode c_Model_poke 25 = .ok (.iastore, 1) := by decide +kernel
theorem d_Model_poke_26 : decode c_Model_poke 26 = .ok (.iload_n 3, 1) := by decide +kernel
theorem d_Model_poke_27 : decode c_Model_poke 27 = .ok (.ireturn, 1) := by decide +kernel
abbrev c_Model_peek : ByteArray := prog_14_method_4_code
def y_Model_peek : MethodName := ⟨"CycleChipModel", "peek", "(I)I"⟩
theorem d_Model_peek_0 : decode c_Model_peek 0 = .ok (.iload_n 1, 1) := by decide +kernel
theorem d_Model_peek_1 : decode c_Model_peek 1 = .ok (.iconst 0, 1) := by decide +kernel
theorem d_Model_peek_2 : decode c_Model_peek 2 = .ok (.bipush 127, 2) := by decide +kernel
theorem d_Model_peek_4 : decode c_Model_peek 4 = .ok (.invokestatic 89, 3) := by decide +kernel
theorem d_Model_peek_7 : decode c_Model_peek 7 = .ok (.ifCond .eq 12, 3) := by decide +kernel
theorem d_Model_peek_10 : decode c_Model_peek 10 = .ok (.aload_n 0, 1) := by decide +kernel
theorem d_Model_peek_11 : decode c_Model_peek 11 = .ok (.getfield 16, 3) := by decide +kernel
theorem d_Model_peek_14 : decode c_Model_peek 14 = .ok (.iload_n 1, 1) := by decide +kernel
theorem d_Model_peek_15 : decode c_Model_peek 15 = .ok (.iaload, 1) := by decide +kernel
theorem d_Model_peek_16 : decode c_Model_peek 16 = .ok (.goto 4, 3) := by decide +kernel
theorem d_Model_peek_19 : decode c_Model_peek 19 = .ok (.iconst 0, 1) := by decide +kernel
theorem d_Model_peek_20 : decode c_Model_peek 20 = .ok (.ireturn, 1) := by decide +kernel
abbrev c_Model_held : ByteArray := prog_14_method_5_code
def y_Model_held : MethodName := ⟨"CycleChipModel", "held", "(ZI)J"⟩
theorem d_Model_held_0 : decode c_Model_held 0 = .ok (.iload_n 2, 1) := by decide +kernel
theorem d_Model_held_1 : decode c_Model_held 1 = .ok (.iconst 0, 1) := by decide +kernel
theorem d_Model_held_2 : decode c_Model_held 2 = .ok (.bipush 127, 2) := by decide +kernel
theorem d_Model_held_4 : decode c_Model_held 4 = .ok (.invokestatic 89, 3) := by decide +kernel
theorem d_Model_held_7 : decode c_Model_held 7 = .ok (.ifCond .ne 7, 3) := by decide +kernel
theorem d_Model_held_10 : decode c_Model_held 10 = .ok (.ldc2_w 55, 3) := by decide +kernel
theorem d_Model_held_13 : decode c_Model_held 13 = .ok (.lreturn, 1) := by decide +kernel
theorem d_Model_held_14 : decode c_Model_held 14 = .ok (.iload_n 1, 1) := by decide +kernel
theorem d_Model_held_15 : decode c_Model_held 15 = .ok (.ifCond .eq 7, 3) := by decide +kernel
theorem d_Model_held_18 : decode c_Model_held 18 = .ok (.iload_n 2, 1) := by decide +kernel
theorem d_Model_held_19 : decode c_Model_held 19 = .ok (.goto 8, 3) := by decide +kernel
theorem d_Model_held_22 : decode c_Model_held 22 = .ok (.sipush 128, 3) := by decide +kernel
theorem d_Model_held_25 : decode c_Model_held 25 = .ok (.iload_n 2, 1) := by decide +kernel
theorem d_Model_held_26 : decode c_Model_held 26 = .ok (.iadd, 1) := by decide +kernel
theorem d_Model_held_27 : decode c_Model_held 27 = .ok (.istore_n 3, 1) := by decide +kernel
theorem d_Model_held_28 : decode c_Model_held 28 = .ok (.aload_n 0, 1) := by decide +kernel
theorem d_Model_held_29 : decode c_Model_held 29 = .ok (.getfield 19, 3) := by decide +kernel
theorem d_Model_held_32 : decode c_Model_held 32 = .ok (.iload_n 3, 1) := by decide +kernel
theorem d_Model_held_33 : decode c_Model_held 33 = .ok (.baload, 1) := by decide +kernel
theorem d_Model_held_34 : decode c_Model_held 34 = .ok (.ifCond .eq 17, 3) := by decide +kernel
theorem d_Model_held_37 : decode c_Model_held 37 = .ok (.aload_n 0, 1) := by decide +kernel
theorem d_Model_held_38 : decode c_Model_held 38 = .ok (.getfield 23, 3) := by decide +kernel
theorem d_Model_held_41 : decode c_Model_held 41 = .ok (.iload_n 3, 1) := by decide +kernel
theorem d_Model_held_42 : decode c_Model_held 42 = .ok (.iaload, 1) := by decide +kernel
theorem d_Model_held_43 : decode c_Model_held 43 = .ok (.i2l, 1) := by decide +kernel
theorem d_Model_held_44 : decode c_Model_held 44 = .ok (.ldc2_w 93, 3) := by decide +kernel
theorem d_Model_held_47 : decode c_Model_held 47 = .ok (.land, 1) := by decide +kernel
theorem d_Model_held_48 : decode c_Model_held 48 = .ok (.goto 6, 3) := by decide +kernel
theorem d_Model_held_51 : decode c_Model_held 51 = .ok (.ldc2_w 55, 3) := by decide +kernel
theorem d_Model_held_54 : decode c_Model_held 54 = .ok (.lreturn, 1) := by decide +kernel
abbrev c_Model_give : ByteArray := prog_14_method_6_code
def y_Model_give : MethodName := ⟨"CycleChipModel", "give", "(II)Z"⟩
theorem d_Model_give_0 : decode c_Model_give 0 = .ok (.iload_n 1, 1) := by decide +kernel
theorem d_Model_give_1 : decode c_Model_give 1 = .ok (.iconst 0, 1) := by decide +kernel
theorem d_Model_give_2 : decode c_Model_give 2 = .ok (.bipush 31, 2) := by decide +kernel
theorem d_Model_give_4 : decode c_Model_give 4 = .ok (.invokestatic 89, 3) := by decide +kernel
theorem d_Model_give_7 : decode c_Model_give 7 = .ok (.ifCond .ne 5, 3) := by decide +kernel
theorem d_Model_give_10 : decode c_Model_give 10 = .ok (.iconst 0, 1) := by decide +kernel
theorem d_Model_give_11 : decode c_Model_give 11 = .ok (.ireturn, 1) := by decide +kernel
theorem d_Model_give_12 : decode c_Model_give 12 = .ok (.aload_n 0, 1) := by decide +kernel
theorem d_Model_give_13 : decode c_Model_give 13 = .ok (.getfield 26, 3) := by decide +kernel
theorem d_Model_give_16 : decode c_Model_give 16 = .ok (.iload_n 1, 1) := by decide +kernel
theorem d_Model_give_17 : decode c_Model_give 17 = .ok (.iload_n 1, 1) := by decide +kernel
theorem d_Model_give_18 : decode c_Model_give 18 = .ok (.ifCond .ne 7, 3) := by decide +kernel
theorem d_Model_give_21 : decode c_Model_give 21 = .ok (.iconst 0, 1) := by decide +kernel
theorem d_Model_give_22 : decode c_Model_give 22 = .ok (.goto 4, 3) := by decide +kernel
theorem d_Model_give_25 : decode c_Model_give 25 = .ok (.iload_n 2, 1) := by decide +kernel
theorem d_Model_give_26 : decode c_Model_give 26 = .ok (.iastore, 1) := by decide +kernel
theorem d_Model_give_27 : decode c_Model_give 27 = .ok (.iconst 1, 1) := by decide +kernel
theorem d_Model_give_28 : decode c_Model_give 28 = .ok (.ireturn, 1) := by decide +kernel
abbrev c_Model_register : ByteArray := prog_14_method_7_code
def y_Model_register : MethodName := ⟨"CycleChipModel", "register", "(I)I"⟩
theorem d_Model_register_0 : decode c_Model_register 0 = .ok (.iload_n 1, 1) := by decide +kernel
theorem d_Model_register_1 : decode c_Model_register 1 = .ok (.iconst 0, 1) := by decide +kernel
theorem d_Model_register_2 : decode c_Model_register 2 = .ok (.bipush 31, 2) := by decide +kernel
theorem d_Model_register_4 : decode c_Model_register 4 = .ok (.invokestatic 89, 3) := by decide +kernel
theorem d_Model_register_7 : decode c_Model_register 7 = .ok (.ifCond .eq 12, 3) := by decide +kernel
theorem d_Model_register_10 : decode c_Model_register 10 = .ok (.aload_n 0, 1) := by decide +kernel
theorem d_Model_register_11 : decode c_Model_register 11 = .ok (.getfield 26, 3) := by decide +kernel
theorem d_Model_register_14 : decode c_Model_register 14 = .ok (.iload_n 1, 1) := by decide +kernel
theorem d_Model_register_15 : decode c_Model_register 15 = .ok (.iaload, 1) := by decide +kernel
theorem d_Model_register_16 : decode c_Model_register 16 = .ok (.goto 4, 3) := by decide +kernel
theorem d_Model_register_19 : decode c_Model_register 19 = .ok (.iconst 0, 1) := by decide +kernel
theorem d_Model_register_20 : decode c_Model_register 20 = .ok (.ireturn, 1) := by decide +kernel
abbrev c_Model_pc : ByteArray := prog_14_method_8_code
def y_Model_pc : MethodName := ⟨"CycleChipModel", "pc", "()I"⟩
theorem d_Model_pc_0 : decode c_Model_pc 0 = .ok (.aload_n 0, 1) := by decide +kernel
theorem d_Model_pc_1 : decode c_Model_pc 1 = .ok (.getfield 95, 3) := by decide +kernel
theorem d_Model_pc_4 : decode c_Model_pc 4 = .ok (.ireturn, 1) := by decide +kernel
abbrev c_Model_control : ByteArray := prog_14_method_9_code
def y_Model_control : MethodName := ⟨"CycleChipModel", "control", "(I)I"⟩
theorem d_Model_control_0 : decode c_Model_control 0 = .ok (.aload_n 0, 1) := by decide +kernel
theorem d_Model_control_1 : decode c_Model_control 1 = .ok (.iload_n 1, 1) := by decide +kernel
theorem d_Model_control_2 : decode c_Model_control 2 = .ok (.invokestatic 98, 3) := by decide +kernel
theorem d_Model_control_5 : decode c_Model_control 5 = .ok (.invokevirtual 102, 3) := by decide +kernel
theorem d_Model_control_8 : decode c_Model_control 8 = .ok (.ireturn, 1) := by decide +kernel
abbrev c_Model_plan : ByteArray := prog_14_method_10_code
def y_Model_plan : MethodName := ⟨"CycleChipModel", "plan", "(III)Z"⟩
theorem d_Model_plan_0 : decode c_Model_plan 0 = .ok (.iload_n 1, 1) := by decide +kernel
theorem d_Model_plan_1 : decode c_Model_plan 1 = .ok (.iconst 0, 1) := by decide +kernel
theorem d_Model_plan_2 : decode c_Model_plan 2 = .ok (.sipush 2000, 3) := by decide +kernel
theorem d_Model_plan_5 : decode c_Model_plan 5 = .ok (.invokestatic 89, 3) := by decide +kernel
theorem d_Model_plan_8 : decode c_Model_plan 8 = .ok (.ifCond .eq 27, 3) := by decide +kernel
theorem d_Model_plan_11 : decode c_Model_plan 11 = .ok (.iload_n 2, 1) := by decide +kernel
theorem d_Model_plan_12 : decode c_Model_plan 12 = .ok (.iconst 0, 1) := by decide +kernel
theorem d_Model_plan_13 : decode c_Model_plan 13 = .ok (.bipush 7, 2) := by decide +kernel
theorem d_Model_plan_15 : decode c_Model_plan 15 = .ok (.invokestatic 89, 3) := by decide +kernel
theorem d_Model_plan_18 : decode c_Model_plan 18 = .ok (.ifCond .eq 17, 3) := by decide +kernel
theorem d_Model_plan_21 : decode c_Model_plan 21 = .ok (.iload_n 2, 1) := by decide +kernel
theorem d_Model_plan_22 : decode c_Model_plan 22 = .ok (.iconst 1, 1) := by decide +kernel
theorem d_Model_plan_23 : decode c_Model_plan 23 = .ok (.if_icmp .eq 12, 3) := by decide +kernel
theorem d_Model_plan_26 : decode c_Model_plan 26 = .ok (.aload_n 0, 1) := by decide +kernel
theorem d_Model_plan_27 : decode c_Model_plan 27 = .ok (.getfield 105, 3) := by decide +kernel
theorem d_Model_plan_30 : decode c_Model_plan 30 = .ok (.bipush 16, 2) := by decide +kernel
theorem d_Model_plan_32 : decode c_Model_plan 32 = .ok (.if_icmp .ne 5, 3) := by decide +kernel
theorem d_Model_plan_35 : decode c_Model_plan 35 = .ok (.iconst 0, 1) := by decide +kernel
theorem d_Model_plan_36 : decode c_Model_plan 36 = .ok (.ireturn, 1) := by decide +kernel
theorem d_Model_plan_37 : decode c_Model_plan 37 = .ok (.aload_n 0, 1) := by decide +kernel
theorem d_Model_plan_38 : decode c_Model_plan 38 = .ok (.getfield 46, 3) := by decide +kernel
theorem d_Model_plan_41 : decode c_Model_plan 41 = .ok (.aload_n 0, 1) := by decide +kernel
theorem d_Model_plan_42 : decode c_Model_plan 42 = .ok (.getfield 105, 3) := by decide +kernel
theorem d_Model_plan_45 : decode c_Model_plan 45 = .ok (.aload_n 0, 1) := by decide +kernel
theorem d_Model_plan_46 : decode c_Model_plan 46 = .ok (.getfield 108, 3) := by decide +kernel
theorem d_Model_plan_49 : decode c_Model_plan 49 = .ok (.iload_n 1, 1) := by decide +kernel
theorem d_Model_plan_50 : decode c_Model_plan 50 = .ok (.iadd, 1) := by decide +kernel
theorem d_Model_plan_51 : decode c_Model_plan 51 = .ok (.iastore, 1) := by decide +kernel
theorem d_Model_plan_52 : decode c_Model_plan 52 = .ok (.aload_n 0, 1) := by decide +kernel
theorem d_Model_plan_53 : decode c_Model_plan 53 = .ok (.getfield 49, 3) := by decide +kernel
theorem d_Model_plan_56 : decode c_Model_plan 56 = .ok (.aload_n 0, 1) := by decide +kernel
theorem d_Model_plan_57 : decode c_Model_plan 57 = .ok (.getfield 105, 3) := by decide +kernel
theorem d_Model_plan_60 : decode c_Model_plan 60 = .ok (.iload_n 2, 1) := by decide +kernel
theorem d_Model_plan_61 : decode c_Model_plan 61 = .ok (.iastore, 1) := by decide +kernel
theorem d_Model_plan_62 : decode c_Model_plan 62 = .ok (.aload_n 0, 1) := by decide +kernel
theorem d_Model_plan_63 : decode c_Model_plan 63 = .ok (.getfield 52, 3) := by decide +kernel
theorem d_Model_plan_66 : decode c_Model_plan 66 = .ok (.aload_n 0, 1) := by decide +kernel
theorem d_Model_plan_67 : decode c_Model_plan 67 = .ok (.getfield 105, 3) := by decide +kernel
theorem d_Model_plan_70 : decode c_Model_plan 70 = .ok (.iload_n 3, 1) := by decide +kernel
theorem d_Model_plan_71 : decode c_Model_plan 71 = .ok (.iastore, 1) := by decide +kernel
theorem d_Model_plan_72 : decode c_Model_plan 72 = .ok (.aload_n 0, 1) := by decide +kernel
theorem d_Model_plan_73 : decode c_Model_plan 73 = .ok (.dup, 1) := by decide +kernel
theorem d_Model_plan_74 : decode c_Model_plan 74 = .ok (.getfield 105, 3) := by decide +kernel
theorem d_Model_plan_77 : decode c_Model_plan 77 = .ok (.iconst 1, 1) := by decide +kernel
theorem d_Model_plan_78 : decode c_Model_plan 78 = .ok (.iadd, 1) := by decide +kernel
theorem d_Model_plan_79 : decode c_Model_plan 79 = .ok (.putfield 105, 3) := by decide +kernel
theorem d_Model_plan_82 : decode c_Model_plan 82 = .ok (.iconst 1, 1) := by decide +kernel
theorem d_Model_plan_83 : decode c_Model_plan 83 = .ok (.ireturn, 1) := by decide +kernel
abbrev c_Model_planned : ByteArray := prog_14_method_11_code
def y_Model_planned : MethodName := ⟨"CycleChipModel", "planned", "()I"⟩
theorem d_Model_planned_0 : decode c_Model_planned 0 = .ok (.aload_n 0, 1) := by decide +kernel
theorem d_Model_planned_1 : decode c_Model_planned 1 = .ok (.getfield 105, 3) := by decide +kernel
theorem d_Model_planned_4 : decode c_Model_planned 4 = .ok (.ireturn, 1) := by decide +kernel
abbrev c_Model_run : ByteArray := prog_14_method_12_code
def y_Model_run : MethodName := ⟨"CycleChipModel", "run", "(I)I"⟩
theorem d_Model_run_0 : decode c_Model_run 0 = .ok (.iload_n 1, 1) := by decide +kernel
theorem d_Model_run_1 : decode c_Model_run 1 = .ok (.iconst 0, 1) := by decide +kernel
theorem d_Model_run_2 : decode c_Model_run 2 = .ok (.sipush 1000, 3) := by decide +kernel
theorem d_Model_run_5 : decode c_Model_run 5 = .ok (.invokestatic 89, 3) := by decide +kernel
theorem d_Model_run_8 : decode c_Model_run 8 = .ok (.ifCond .ne 5, 3) := by decide +kernel
theorem d_Model_run_11 : decode c_Model_run 11 = .ok (.iconst (-1), 1) := by decide +kernel
theorem d_Model_run_12 : decode c_Model_run 12 = .ok (.ireturn, 1) := by decide +kernel
theorem d_Model_run_13 : decode c_Model_run 13 = .ok (.aload_n 0, 1) := by decide +kernel
theorem d_Model_run_14 : decode c_Model_run 14 = .ok (.getfield 111, 3) := by decide +kernel
theorem d_Model_run_17 : decode c_Model_run 17 = .ok (.istore_n 2, 1) := by decide +kernel
theorem d_Model_run_18 : decode c_Model_run 18 = .ok (.iconst 0, 1) := by decide +kernel
theorem d_Model_run_19 : decode c_Model_run 19 = .ok (.istore_n 3, 1) := by decide +kernel
theorem d_Model_run_20 : decode c_Model_run 20 = .ok (.iload_n 3, 1) := by decide +kernel
theorem d_Model_run_21 : decode c_Model_run 21 = .ok (.iload_n 1, 1) := by decide +kernel
theorem d_Model_run_22 : decode c_Model_run 22 = .ok (.if_icmp .ge 49, 3) := by decide +kernel
theorem d_Model_run_25 : decode c_Model_run 25 = .ok (.aload_n 0, 1) := by decide +kernel
theorem d_Model_run_26 : decode c_Model_run 26 = .ok (.invokevirtual 114, 3) := by decide +kernel
theorem d_Model_run_29 : decode c_Model_run 29 = .ok (.aload_n 0, 1) := by decide +kernel
theorem d_Model_run_30 : decode c_Model_run 30 = .ok (.invokevirtual 117, 3) := by decide +kernel
theorem d_Model_run_33 : decode c_Model_run 33 = .ok (.aload_n 0, 1) := by decide +kernel
theorem d_Model_run_34 : decode c_Model_run 34 = .ok (.invokevirtual 120, 3) := by decide +kernel
theorem d_Model_run_37 : decode c_Model_run 37 = .ok (.aload_n 0, 1) := by decide +kernel
theorem d_Model_run_38 : decode c_Model_run 38 = .ok (.invokevirtual 123, 3) := by decide +kernel
theorem d_Model_run_41 : decode c_Model_run 41 = .ok (.aload_n 0, 1) := by decide +kernel
theorem d_Model_run_42 : decode c_Model_run 42 = .ok (.invokevirtual 126, 3) := by decide +kernel
theorem d_Model_run_45 : decode c_Model_run 45 = .ok (.aload_n 0, 1) := by decide +kernel
theorem d_Model_run_46 : decode c_Model_run 46 = .ok (.dup, 1) := by decide +kernel
theorem d_Model_run_47 : decode c_Model_run 47 = .ok (.getfield 129, 3) := by decide +kernel
theorem d_Model_run_50 : decode c_Model_run 50 = .ok (.lconst 1, 1) := by decide +kernel
theorem d_Model_run_51 : decode c_Model_run 51 = .ok (.ladd, 1) := by decide +kernel
theorem d_Model_run_52 : decode c_Model_run 52 = .ok (.putfield 129, 3) := by decide +kernel
theorem d_Model_run_55 : decode c_Model_run 55 = .ok (.aload_n 0, 1) := by decide +kernel
theorem d_Model_run_56 : decode c_Model_run 56 = .ok (.dup, 1) := by decide +kernel
theorem d_Model_run_57 : decode c_Model_run 57 = .ok (.getfield 108, 3) := by decide +kernel
theorem d_Model_run_60 : decode c_Model_run 60 = .ok (.iconst 1, 1) := by decide +kernel
theorem d_Model_run_61 : decode c_Model_run 61 = .ok (.iadd, 1) := by decide +kernel
theorem d_Model_run_62 : decode c_Model_run 62 = .ok (.putfield 108, 3) := by decide +kernel
theorem d_Model_run_65 : decode c_Model_run 65 = .ok (.iinc 3 1, 3) := by decide +kernel
theorem d_Model_run_68 : decode c_Model_run 68 = .ok (.goto (-48), 3) := by decide +kernel
theorem d_Model_run_71 : decode c_Model_run 71 = .ok (.aload_n 0, 1) := by decide +kernel
theorem d_Model_run_72 : decode c_Model_run 72 = .ok (.getfield 111, 3) := by decide +kernel
theorem d_Model_run_75 : decode c_Model_run 75 = .ok (.iload_n 2, 1) := by decide +kernel
theorem d_Model_run_76 : decode c_Model_run 76 = .ok (.isub, 1) := by decide +kernel
theorem d_Model_run_77 : decode c_Model_run 77 = .ok (.ireturn, 1) := by decide +kernel
abbrev c_Model_cycles : ByteArray := prog_14_method_13_code
def y_Model_cycles : MethodName := ⟨"CycleChipModel", "cycles", "()I"⟩
theorem d_Model_cycles_0 : decode c_Model_cycles 0 = .ok (.aload_n 0, 1) := by decide +kernel
theorem d_Model_cycles_1 : decode c_Model_cycles 1 = .ok (.getfield 108, 3) := by decide +kernel
theorem d_Model_cycles_4 : decode c_Model_cycles 4 = .ok (.ireturn, 1) := by decide +kernel
abbrev c_Model_traps : ByteArray := prog_14_method_14_code
def y_Model_traps : MethodName := ⟨"CycleChipModel", "traps", "()I"⟩
theorem d_Model_traps_0 : decode c_Model_traps 0 = .ok (.aload_n 0, 1) := by decide +kernel
theorem d_Model_traps_1 : decode c_Model_traps 1 = .ok (.getfield 132, 3) := by decide +kernel
theorem d_Model_traps_4 : decode c_Model_traps 4 = .ok (.ireturn, 1) := by decide +kernel
abbrev c_Model_actCycle : ByteArray := prog_14_method_15_code
def y_Model_actCycle : MethodName := ⟨"CycleChipModel", "actCycle", "(I)I"⟩
theorem d_Model_actCycle_0 : decode c_Model_actCycle 0 = .ok (.iload_n 1, 1) := by decide +kernel
theorem d_Model_actCycle_1 : decode c_Model_actCycle 1 = .ok (.iconst 0, 1) := by decide +kernel
theorem d_Model_actCycle_2 : decode c_Model_actCycle 2 = .ok (.bipush 15, 2) := by decide +kernel
theorem d_Model_actCycle_4 : decode c_Model_actCycle 4 = .ok (.invokestatic 89, 3) := by decide +kernel
theorem d_Model_actCycle_7 : decode c_Model_actCycle 7 = .ok (.ifCond .eq 30, 3) := by decide +kernel
theorem d_Model_actCycle_10 : decode c_Model_actCycle 10 = .ok (.iload_n 1, 1) := by decide +kernel
theorem d_Model_actCycle_11 : decode c_Model_actCycle 11 = .ok (.aload_n 0, 1) := by decide +kernel
theorem d_Model_actCycle_12 : decode c_Model_actCycle 12 = .ok (.getfield 111, 3) := by decide +kernel
theorem d_Model_actCycle_15 : decode c_Model_actCycle 15 = .ok (.if_icmp .ge 22, 3) := by decide +kernel
theorem d_Model_actCycle_18 : decode c_Model_actCycle 18 = .ok (.aload_n 0, 1) := by decide +kernel
theorem d_Model_actCycle_19 : decode c_Model_actCycle 19 = .ok (.getfield 7, 3) := by decide +kernel
theorem d_Model_actCycle_22 : decode c_Model_actCycle 22 = .ok (.aload_n 0, 1) := by decide +kernel
theorem d_Model_actCycle_23 : decode c_Model_actCycle 23 = .ok (.getfield 111, 3) := by decide +kernel
theorem d_Model_actCycle_26 : decode c_Model_actCycle 26 = .ok (.iconst 1, 1) := by decide +kernel
theorem d_Model_actCycle_27 : decode c_Model_actCycle 27 = .ok (.isub, 1) := by decide +kernel
theorem d_Model_actCycle_28 : decode c_Model_actCycle 28 = .ok (.iload_n 1, 1) := by decide +kernel
theorem d_Model_actCycle_29 : decode c_Model_actCycle 29 = .ok (.isub, 1) := by decide +kernel
theorem d_Model_actCycle_30 : decode c_Model_actCycle 30 = .ok (.bipush 16, 2) := by decide +kernel
theorem d_Model_actCycle_32 : decode c_Model_actCycle 32 = .ok (.irem, 1) := by decide +kernel
theorem d_Model_actCycle_33 : decode c_Model_actCycle 33 = .ok (.iaload, 1) := by decide +kernel
theorem d_Model_actCycle_34 : decode c_Model_actCycle 34 = .ok (.goto 4, 3) := by decide +kernel
theorem d_Model_actCycle_37 : decode c_Model_actCycle 37 = .ok (.iconst (-1), 1) := by decide +kernel
theorem d_Model_actCycle_38 : decode c_Model_actCycle 38 = .ok (.ireturn, 1) := by decide +kernel
abbrev c_Model_actAddress : ByteArray := prog_14_method_16_code
def y_Model_actAddress : MethodName := ⟨"CycleChipModel", "actAddress", "(I)I"⟩
theorem d_Model_actAddress_0 : decode c_Model_actAddress 0 = .ok (.iload_n 1, 1) := by decide +kernel
theorem d_Model_actAddress_1 : decode c_Model_actAddress 1 = .ok (.iconst 0, 1) := by decide +kernel
theorem d_Model_actAddress_2 : decode c_Model_actAddress 2 = .ok (.bipush 15, 2) := by decide +kernel
theorem d_Model_actAddress_4 : decode c_Model_actAddress 4 = .ok (.invokestatic 89, 3) := by decide +kernel
theorem d_Model_actAddress_7 : decode c_Model_actAddress 7 = .ok (.ifCond .eq 30, 3) := by decide +kernel
theorem d_Model_actAddress_10 : decode c_Model_actAddress 10 = .ok (.iload_n 1, 1) := by decide +kernel
theorem d_Model_actAddress_11 : decode c_Model_actAddress 11 = .ok (.aload_n 0, 1) := by decide +kernel
theorem d_Model_actAddress_12 : decode c_Model_actAddress 12 = .ok (.getfield 111, 3) := by decide +kernel
theorem d_Model_actAddress_15 : decode c_Model_actAddress 15 = .ok (.if_icmp .ge 22, 3) := by decide +kernel
theorem d_Model_actAddress_18 : decode c_Model_actAddress 18 = .ok (.aload_n 0, 1) := by decide +kernel
theorem d_Model_actAddress_19 : decode c_Model_actAddress 19 = .ok (.getfield 13, 3) := by decide +kernel
theorem d_Model_actAddress_22 : decode c_Model_actAddress 22 = .ok (.aload_n 0, 1) := by decide +kernel
theorem d_Model_actAddress_23 : decode c_Model_actAddress 23 = .ok (.getfield 111, 3) := by decide +kernel
theorem d_Model_actAddress_26 : decode c_Model_actAddress 26 = .ok (.iconst 1, 1) := by decide +kernel
theorem d_Model_actAddress_27 : decode c_Model_actAddress 27 = .ok (.isub, 1) := by decide +kernel
theorem d_Model_actAddress_28 : decode c_Model_actAddress 28 = .ok (.iload_n 1, 1) := by decide +kernel
theorem d_Model_actAddress_29 : decode c_Model_actAddress 29 = .ok (.isub, 1) := by decide +kernel
theorem d_Model_actAddress_30 : decode c_Model_actAddress 30 = .ok (.bipush 16, 2) := by decide +kernel
theorem d_Model_actAddress_32 : decode c_Model_actAddress 32 = .ok (.irem, 1) := by decide +kernel
theorem d_Model_actAddress_33 : decode c_Model_actAddress 33 = .ok (.iaload, 1) := by decide +kernel
theorem d_Model_actAddress_34 : decode c_Model_actAddress 34 = .ok (.goto 4, 3) := by decide +kernel
theorem d_Model_actAddress_37 : decode c_Model_actAddress 37 = .ok (.iconst (-1), 1) := by decide +kernel
theorem d_Model_actAddress_38 : decode c_Model_actAddress 38 = .ok (.ireturn, 1) := by decide +kernel
abbrev c_Model_sent : ByteArray := prog_14_method_17_code
def y_Model_sent : MethodName := ⟨"CycleChipModel", "sent", "(I)J"⟩
theorem d_Model_sent_0 : decode c_Model_sent 0 = .ok (.iload_n 1, 1) := by decide +kernel
theorem d_Model_sent_1 : decode c_Model_sent 1 = .ok (.iconst (-1), 1) := by decide +kernel
theorem d_Model_sent_2 : decode c_Model_sent 2 = .ok (.if_icmp .ne 9, 3) := by decide +kernel
theorem d_Model_sent_5 : decode c_Model_sent 5 = .ok (.aload_n 0, 1) := by decide +kernel
theorem d_Model_sent_6 : decode c_Model_sent 6 = .ok (.getfield 135, 3) := by decide +kernel
theorem d_Model_sent_9 : decode c_Model_sent 9 = .ok (.i2l, 1) := by decide +kernel
theorem d_Model_sent_10 : decode c_Model_sent 10 = .ok (.lreturn, 1) := by decide +kernel
theorem d_Model_sent_11 : decode c_Model_sent 11 = .ok (.iload_n 1, 1) := by decide +kernel
theorem d_Model_sent_12 : decode c_Model_sent 12 = .ok (.iconst 0, 1) := by decide +kernel
theorem d_Model_sent_13 : decode c_Model_sent 13 = .ok (.bipush 15, 2) := by decide +kernel
theorem d_Model_sent_15 : decode c_Model_sent 15 = .ok (.invokestatic 89, 3) := by decide +kernel
theorem d_Model_sent_18 : decode c_Model_sent 18 = .ok (.ifCond .eq 30, 3) := by decide +kernel
theorem d_Model_sent_21 : decode c_Model_sent 21 = .ok (.iload_n 1, 1) := by decide +kernel
theorem d_Model_sent_22 : decode c_Model_sent 22 = .ok (.aload_n 0, 1) := by decide +kernel
theorem d_Model_sent_23 : decode c_Model_sent 23 = .ok (.getfield 135, 3) := by decide +kernel
theorem d_Model_sent_26 : decode c_Model_sent 26 = .ok (.if_icmp .ge 22, 3) := by decide +kernel
theorem d_Model_sent_29 : decode c_Model_sent 29 = .ok (.aload_n 0, 1) := by decide +kernel
theorem d_Model_sent_30 : decode c_Model_sent 30 = .ok (.getfield 79, 3) := by decide +kernel
theorem d_Model_sent_33 : decode c_Model_sent 33 = .ok (.aload_n 0, 1) := by decide +kernel
theorem d_Model_sent_34 : decode c_Model_sent 34 = .ok (.getfield 135, 3) := by decide +kernel
theorem d_Model_sent_37 : decode c_Model_sent 37 = .ok (.iconst 1, 1) := by decide +kernel
theorem d_Model_sent_38 : decode c_Model_sent 38 = .ok (.isub, 1) := by decide +kernel
theorem d_Model_sent_39 : decode c_Model_sent 39 = .ok (.iload_n 1, 1) := by decide +kernel
theorem d_Model_sent_40 : decode c_Model_sent 40 = .ok (.isub, 1) := by decide +kernel
theorem d_Model_sent_41 : decode c_Model_sent 41 = .ok (.bipush 16, 2) := by decide +kernel
theorem d_Model_sent_43 : decode c_Model_sent 43 = .ok (.irem, 1) := by decide +kernel
theorem d_Model_sent_44 : decode c_Model_sent 44 = .ok (.laload, 1) := by decide +kernel
theorem d_Model_sent_45 : decode c_Model_sent 45 = .ok (.goto 6, 3) := by decide +kernel
theorem d_Model_sent_48 : decode c_Model_sent 48 = .ok (.ldc2_w 55, 3) := by decide +kernel
theorem d_Model_sent_51 : decode c_Model_sent 51 = .ok (.lreturn, 1) := by decide +kernel
abbrev c_Model_queued : ByteArray := prog_14_method_18_code
def y_Model_queued : MethodName := ⟨"CycleChipModel", "queued", "(Z)I"⟩
theorem d_Model_queued_0 : decode c_Model_queued 0 = .ok (.iload_n 1, 1) := by decide +kernel
theorem d_Model_queued_1 : decode c_Model_queued 1 = .ok (.ifCond .eq 10, 3) := by decide +kernel
theorem d_Model_queued_4 : decode c_Model_queued 4 = .ok (.aload_n 0, 1) := by decide +kernel
theorem d_Model_queued_5 : decode c_Model_queued 5 = .ok (.getfield 138, 3) := by decide +kernel
theorem d_Model_queued_8 : decode c_Model_queued 8 = .ok (.goto 7, 3) := by decide +kernel
theorem d_Model_queued_11 : decode c_Model_queued 11 = .ok (.aload_n 0, 1) := by decide +kernel
theorem d_Model_queued_12 : decode c_Model_queued 12 = .ok (.getfield 141, 3) := by decide +kernel
theorem d_Model_queued_15 : decode c_Model_queued 15 = .ok (.ireturn, 1) := by decide +kernel
abbrev c_Model_stores : ByteArray := prog_14_method_19_code
def y_Model_stores : MethodName := ⟨"CycleChipModel", "stores", "()I"⟩
theorem d_Model_stores_0 : decode c_Model_stores 0 = .ok (.aload_n 0, 1) := by decide +kernel
theorem d_Model_stores_1 : decode c_Model_stores 1 = .ok (.getfield 144, 3) := by decide +kernel
theorem d_Model_stores_4 : decode c_Model_stores 4 = .ok (.ireturn, 1) := by decide +kernel
abbrev c_Model_bus : ByteArray := prog_14_method_20_code
def y_Model_bus : MethodName := ⟨"CycleChipModel", "bus", "()I"⟩
theorem d_Model_bus_0 : decode c_Model_bus 0 = .ok (.aload_n 0, 1) := by decide +kernel
theorem d_Model_bus_1 : decode c_Model_bus 1 = .ok (.getfield 147, 3) := by decide +kernel
theorem d_Model_bus_4 : decode c_Model_bus 4 = .ok (.ireturn, 1) := by decide +kernel
abbrev c_Model_sources : ByteArray := prog_14_method_21_code
def y_Model_sources : MethodName := ⟨"CycleChipModel", "sources", "()I"⟩
theorem d_Model_sources_0 : decode c_Model_sources 0 = .ok (.aload_n 0, 1) := by decide +kernel
theorem d_Model_sources_1 : decode c_Model_sources 1 = .ok (.iconst 0, 1) := by decide +kernel
theorem d_Model_sources_2 : decode c_Model_sources 2 = .ok (.invokevirtual 150, 3) := by decide +kernel
theorem d_Model_sources_5 : decode c_Model_sources 5 = .ok (.sipush 256, 3) := by decide +kernel
theorem d_Model_sources_8 : decode c_Model_sources 8 = .ok (.aload_n 0, 1) := by decide +kernel
theorem d_Model_sources_9 : decode c_Model_sources 9 = .ok (.iconst 1, 1) := by decide +kernel
theorem d_Model_sources_10 : decode c_Model_sources 10 = .ok (.invokevirtual 150, 3) := by decide +kernel
theorem d_Model_sources_13 : decode c_Model_sources 13 = .ok (.imul, 1) := by decide +kernel
theorem d_Model_sources_14 : decode c_Model_sources 14 = .ok (.iadd, 1) := by decide +kernel
theorem d_Model_sources_15 : decode c_Model_sources 15 = .ok (.ireturn, 1) := by decide +kernel
abbrev c_Model_bits : ByteArray := prog_14_method_22_code
def y_Model_bits : MethodName := ⟨"CycleChipModel", "bits", "(Z)I"⟩
theorem d_Model_bits_0 : decode c_Model_bits 0 = .ok (.iconst 0, 1) := by decide +kernel
theorem d_Model_bits_1 : decode c_Model_bits 1 = .ok (.istore_n 2, 1) := by decide +kernel
theorem d_Model_bits_2 : decode c_Model_bits 2 = .ok (.bipush 7, 2) := by decide +kernel
theorem d_Model_bits_4 : decode c_Model_bits 4 = .ok (.istore_n 3, 1) := by decide +kernel
theorem d_Model_bits_5 : decode c_Model_bits 5 = .ok (.iload_n 3, 1) := by decide +kernel
theorem d_Model_bits_6 : decode c_Model_bits 6 = .ok (.iconst 1, 1) := by decide +kernel
theorem d_Model_bits_7 : decode c_Model_bits 7 = .ok (.if_icmp .lt 44, 3) := by decide +kernel
theorem d_Model_bits_10 : decode c_Model_bits 10 = .ok (.iconst 2, 1) := by decide +kernel
theorem d_Model_bits_11 : decode c_Model_bits 11 = .ok (.iload_n 2, 1) := by decide +kernel
theorem d_Model_bits_12 : decode c_Model_bits 12 = .ok (.imul, 1) := by decide +kernel
theorem d_Model_bits_13 : decode c_Model_bits 13 = .ok (.iload_n 1, 1) := by decide +kernel
theorem d_Model_bits_14 : decode c_Model_bits 14 = .ok (.ifCond .eq 15, 3) := by decide +kernel
theorem d_Model_bits_17 : decode c_Model_bits 17 = .ok (.aload_n 0, 1) := by decide +kernel
theorem d_Model_bits_18 : decode c_Model_bits 18 = .ok (.getfield 67, 3) := by decide +kernel
theorem d_Model_bits_21 : decode c_Model_bits 21 = .ok (.iload_n 3, 1) := by decide +kernel
theorem d_Model_bits_22 : decode c_Model_bits 22 = .ok (.baload, 1) := by decide +kernel
theorem d_Model_bits_23 : decode c_Model_bits 23 = .ok (.ifCond .eq 19, 3) := by decide +kernel
theorem d_Model_bits_26 : decode c_Model_bits 26 = .ok (.goto 12, 3) := by decide +kernel
theorem d_Model_bits_29 : decode c_Model_bits 29 = .ok (.aload_n 0, 1) := by decide +kernel
theorem d_Model_bits_30 : decode c_Model_bits 30 = .ok (.getfield 64, 3) := by decide +kernel
theorem d_Model_bits_33 : decode c_Model_bits 33 = .ok (.iload_n 3, 1) := by decide +kernel
theorem d_Model_bits_34 : decode c_Model_bits 34 = .ok (.baload, 1) := by decide +kernel
theorem d_Model_bits_35 : decode c_Model_bits 35 = .ok (.ifCond .eq 7, 3) := by decide +kernel
theorem d_Model_bits_38 : decode c_Model_bits 38 = .ok (.iconst 1, 1) := by decide +kernel
theorem d_Model_bits_39 : decode c_Model_bits 39 = .ok (.goto 4, 3) := by decide +kernel
theorem d_Model_bits_42 : decode c_Model_bits 42 = .ok (.iconst 0, 1) := by decide +kernel
theorem d_Model_bits_43 : decode c_Model_bits 43 = .ok (.iadd, 1) := by decide +kernel
theorem d_Model_bits_44 : decode c_Model_bits 44 = .ok (.istore_n 2, 1) := by decide +kernel
theorem d_Model_bits_45 : decode c_Model_bits 45 = .ok (.iinc 3 (-1), 3) := by decide +kernel
theorem d_Model_bits_48 : decode c_Model_bits 48 = .ok (.goto (-43), 3) := by decide +kernel
theorem d_Model_bits_51 : decode c_Model_bits 51 = .ok (.iconst 2, 1) := by decide +kernel
theorem d_Model_bits_52 : decode c_Model_bits 52 = .ok (.iload_n 2, 1) := by decide +kernel
theorem d_Model_bits_53 : decode c_Model_bits 53 = .ok (.imul, 1) := by decide +kernel
theorem d_Model_bits_54 : decode c_Model_bits 54 = .ok (.ireturn, 1) := by decide +kernel
abbrev c_Model_events : ByteArray := prog_14_method_23_code
def y_Model_events : MethodName := ⟨"CycleChipModel", "events", "()V"⟩
theorem d_Model_events_0 : decode c_Model_events 0 = .ok (.iconst 0, 1) := by decide +kernel
theorem d_Model_events_1 : decode c_Model_events 1 = .ok (.istore_n 1, 1) := by decide +kernel
theorem d_Model_events_2 : decode c_Model_events 2 = .ok (.iconst 0, 1) := by decide +kernel
theorem d_Model_events_3 : decode c_Model_events 3 = .ok (.istore_n 2, 1) := by decide +kernel
theorem d_Model_events_4 : decode c_Model_events 4 = .ok (.iload_n 2, 1) := by decide +kernel
theorem d_Model_events_5 : decode c_Model_events 5 = .ok (.aload_n 0, 1) := by decide +kernel
theorem d_Model_events_6 : decode c_Model_events 6 = .ok (.getfield 105, 3) := by decide +kernel
theorem d_Model_events_9 : decode c_Model_events 9 = .ok (.if_icmp .ge 80, 3) := by decide +kernel
theorem d_Model_events_12 : decode c_Model_events 12 = .ok (.aload_n 0, 1) := by decide +kernel
theorem d_Model_events_13 : decode c_Model_events 13 = .ok (.getfield 46, 3) := by decide +kernel
theorem d_Model_events_16 : decode c_Model_events 16 = .ok (.iload_n 2, 1) := by decide +kernel
theorem d_Model_events_17 : decode c_Model_events 17 = .ok (.iaload, 1) := by decide +kernel
theorem d_Model_events_18 : decode c_Model_events 18 = .ok (.aload_n 0, 1) := by decide +kernel
theorem d_Model_events_19 : decode c_Model_events 19 = .ok (.getfield 108, 3) := by decide +kernel
theorem d_Model_events_22 : decode c_Model_events 22 = .ok (.if_icmp .ne 22, 3) := by decide +kernel
theorem d_Model_events_25 : decode c_Model_events 25 = .ok (.aload_n 0, 1) := by decide +kernel
theorem d_Model_events_26 : decode c_Model_events 26 = .ok (.aload_n 0, 1) := by decide +kernel
theorem d_Model_events_27 : decode c_Model_events 27 = .ok (.getfield 49, 3) := by decide +kernel
theorem d_Model_events_30 : decode c_Model_events 30 = .ok (.iload_n 2, 1) := by decide +kernel
theorem d_Model_events_31 : decode c_Model_events 31 = .ok (.iaload, 1) := by decide +kernel
theorem d_Model_events_32 : decode c_Model_events 32 = .ok (.aload_n 0, 1) := by decide +kernel
theorem d_Model_events_33 : decode c_Model_events 33 = .ok (.getfield 52, 3) := by decide +kernel
theorem d_Model_events_36 : decode c_Model_events 36 = .ok (.iload_n 2, 1) := by decide +kernel
theorem d_Model_events_37 : decode c_Model_events 37 = .ok (.iaload, 1) := by decide +kernel
theorem d_Model_events_38 : decode c_Model_events 38 = .ok (.invokevirtual 154, 3) := by decide +kernel
theorem d_Model_events_41 : decode c_Model_events 41 = .ok (.goto 42, 3) := by decide +kernel
theorem d_Model_events_44 : decode c_Model_events 44 = .ok (.aload_n 0, 1) := by decide +kernel
theorem d_Model_events_45 : decode c_Model_events 45 = .ok (.getfield 46, 3) := by decide +kernel
theorem d_Model_events_48 : decode c_Model_events 48 = .ok (.iload_n 1, 1) := by decide +kernel
theorem d_Model_events_49 : decode c_Model_events 49 = .ok (.aload_n 0, 1) := by decide +kernel
theorem d_Model_events_50 : decode c_Model_events 50 = .ok (.getfield 46, 3) := by decide +kernel
theorem d_Model_events_53 : decode c_Model_events 53 = .ok (.iload_n 2, 1) := by decide +kernel
theorem d_Model_events_54 : decode c_Model_events 54 = .ok (.iaload, 1) := by decide +kernel
theorem d_Model_events_55 : decode c_Model_events 55 = .ok (.iastore, 1) := by decide +kernel
theorem d_Model_events_56 : decode c_Model_events 56 = .ok (.aload_n 0, 1) := by decide +kernel
theorem d_Model_events_57 : decode c_Model_events 57 = .ok (.getfield 49, 3) := by decide +kernel
theorem d_Model_events_60 : decode c_Model_events 60 = .ok (.iload_n 1, 1) := by decide +kernel
theorem d_Model_events_61 : decode c_Model_events 61 = .ok (.aload_n 0, 1) := by decide +kernel
theorem d_Model_events_62 : decode c_Model_events 62 = .ok (.getfield 49, 3) := by decide +kernel
theorem d_Model_events_65 : decode c_Model_events 65 = .ok (.iload_n 2, 1) := by decide +kernel
theorem d_Model_events_66 : decode c_Model_events 66 = .ok (.iaload, 1) := by decide +kernel
theorem d_Model_events_67 : decode c_Model_events 67 = .ok (.iastore, 1) := by decide +kernel
theorem d_Model_events_68 : decode c_Model_events 68 = .ok (.aload_n 0, 1) := by decide +kernel
theorem d_Model_events_69 : decode c_Model_events 69 = .ok (.getfield 52, 3) := by decide +kernel
theorem d_Model_events_72 : decode c_Model_events 72 = .ok (.iload_n 1, 1) := by decide +kernel
theorem d_Model_events_73 : decode c_Model_events 73 = .ok (.aload_n 0, 1) := by decide +kernel
theorem d_Model_events_74 : decode c_Model_events 74 = .ok (.getfield 52, 3) := by decide +kernel
theorem d_Model_events_77 : decode c_Model_events 77 = .ok (.iload_n 2, 1) := by decide +kernel
theorem d_Model_events_78 : decode c_Model_events 78 = .ok (.iaload, 1) := by decide +kernel
theorem d_Model_events_79 : decode c_Model_events 79 = .ok (.iastore, 1) := by decide +kernel
theorem d_Model_events_80 : decode c_Model_events 80 = .ok (.iinc 1 1, 3) := by decide +kernel
theorem d_Model_events_83 : decode c_Model_events 83 = .ok (.iinc 2 1, 3) := by decide +kernel
theorem d_Model_events_86 : decode c_Model_events 86 = .ok (.goto (-82), 3) := by decide +kernel
theorem d_Model_events_89 : decode c_Model_events 89 = .ok (.aload_n 0, 1) := by decide +kernel
theorem d_Model_events_90 : decode c_Model_events 90 = .ok (.iload_n 1, 1) := by decide +kernel
theorem d_Model_events_91 : decode c_Model_events 91 = .ok (.putfield 105, 3) := by decide +kernel
theorem d_Model_events_94 : decode c_Model_events 94 = .ok (.return_, 1) := by decide +kernel
abbrev c_Model_happen : ByteArray := prog_14_method_24_code
def y_Model_happen : MethodName := ⟨"CycleChipModel", "happen", "(II)V"⟩
theorem d_Model_happen_0 : decode c_Model_happen 0 = .ok (.iload_n 1, 1) := by decide +kernel
theorem d_Model_happen_1 : decode c_Model_happen 1 = .ok (.ifCond .le 21, 3) := by decide +kernel
theorem d_Model_happen_4 : decode c_Model_happen 4 = .ok (.aload_n 0, 1) := by decide +kernel
theorem d_Model_happen_5 : decode c_Model_happen 5 = .ok (.getfield 61, 3) := by decide +kernel
theorem d_Model_happen_8 : decode c_Model_happen 8 = .ok (.iload_n 1, 1) := by decide +kernel
theorem d_Model_happen_9 : decode c_Model_happen 9 = .ok (.iload_n 2, 1) := by decide +kernel
theorem d_Model_happen_10 : decode c_Model_happen 10 = .ok (.ifCond .eq 7, 3) := by decide +kernel
theorem d_Model_happen_13 : decode c_Model_happen 13 = .ok (.iconst 1, 1) := by decide +kernel
theorem d_Model_happen_14 : decode c_Model_happen 14 = .ok (.goto 4, 3) := by decide +kernel
theorem d_Model_happen_17 : decode c_Model_happen 17 = .ok (.iconst 0, 1) := by decide +kernel
theorem d_Model_happen_18 : decode c_Model_happen 18 = .ok (.bastore, 1) := by decide +kernel
theorem d_Model_happen_19 : decode c_Model_happen 19 = .ok (.goto 44, 3) := by decide +kernel
theorem d_Model_happen_22 : decode c_Model_happen 22 = .ok (.aload_n 0, 1) := by decide +kernel
theorem d_Model_happen_23 : decode c_Model_happen 23 = .ok (.getfield 141, 3) := by decide +kernel
theorem d_Model_happen_26 : decode c_Model_happen 26 = .ok (.bipush 8, 2) := by decide +kernel
theorem d_Model_happen_28 : decode c_Model_happen 28 = .ok (.if_icmp .ne 11, 3) := by decide +kernel
theorem d_Model_happen_31 : decode c_Model_happen 31 = .ok (.aload_n 0, 1) := by decide +kernel
theorem d_Model_happen_32 : decode c_Model_happen 32 = .ok (.iconst 1, 1) := by decide +kernel
theorem d_Model_happen_33 : decode c_Model_happen 33 = .ok (.putfield 158, 3) := by decide +kernel
theorem d_Model_happen_36 : decode c_Model_happen 36 = .ok (.goto 27, 3) := by decide +kernel
theorem d_Model_happen_39 : decode c_Model_happen 39 = .ok (.aload_n 0, 1) := by decide +kernel
theorem d_Model_happen_40 : decode c_Model_happen 40 = .ok (.getfield 70, 3) := by decide +kernel
theorem d_Model_happen_43 : decode c_Model_happen 43 = .ok (.aload_n 0, 1) := by decide +kernel
theorem d_Model_happen_44 : decode c_Model_happen 44 = .ok (.getfield 141, 3) := by decide +kernel
theorem d_Model_happen_47 : decode c_Model_happen 47 = .ok (.iload_n 2, 1) := by decide +kernel
theorem d_Model_happen_48 : decode c_Model_happen 48 = .ok (.sipush 255, 3) := by decide +kernel
theorem d_Model_happen_51 : decode c_Model_happen 51 = .ok (.iand, 1) := by decide +kernel
theorem d_Model_happen_52 : decode c_Model_happen 52 = .ok (.iastore, 1) := by decide +kernel
theorem d_Model_happen_53 : decode c_Model_happen 53 = .ok (.aload_n 0, 1) := by decide +kernel
theorem d_Model_happen_54 : decode c_Model_happen 54 = .ok (.dup, 1) := by decide +kernel
theorem d_Model_happen_55 : decode c_Model_happen 55 = .ok (.getfield 141, 3) := by decide +kernel
theorem d_Model_happen_58 : decode c_Model_happen 58 = .ok (.iconst 1, 1) := by decide +kernel
theorem d_Model_happen_59 : decode c_Model_happen 59 = .ok (.iadd, 1) := by decide +kernel
theorem d_Model_happen_60 : decode c_Model_happen 60 = .ok (.putfield 141, 3) := by decide +kernel
theorem d_Model_happen_63 : decode c_Model_happen 63 = .ok (.return_, 1) := by decide +kernel
abbrev c_Model_sender : ByteArray := prog_14_method_25_code
def y_Model_sender : MethodName := ⟨"CycleChipModel", "sender", "()V"⟩
theorem d_Model_sender_0 : decode c_Model_sender 0 = .ok (.aload_n 0, 1) := by decide +kernel
theorem d_Model_sender_1 : decode c_Model_sender 1 = .ok (.getfield 161, 3) := by decide +kernel
theorem d_Model_sender_4 : decode c_Model_sender 4 = .ok (.ifCond .eq 56, 3) := by decide +kernel
theorem d_Model_sender_7 : decode c_Model_sender 7 = .ok (.aload_n 0, 1) := by decide +kernel
theorem d_Model_sender_8 : decode c_Model_sender 8 = .ok (.getfield 164, 3) := by decide +kernel
theorem d_Model_sender_11 : decode c_Model_sender 11 = .ok (.aload_n 0, 1) := by decide +kernel
theorem d_Model_sender_12 : decode c_Model_sender 12 = .ok (.getfield 108, 3) := by decide +kernel
theorem d_Model_sender_15 : decode c_Model_sender 15 = .ok (.if_icmp .ne 45, 3) := by decide +kernel
theorem d_Model_sender_18 : decode c_Model_sender 18 = .ok (.aload_n 0, 1) := by decide +kernel
theorem d_Model_sender_19 : decode c_Model_sender 19 = .ok (.getfield 79, 3) := by decide +kernel
theorem d_Model_sender_22 : decode c_Model_sender 22 = .ok (.aload_n 0, 1) := by decide +kernel
theorem d_Model_sender_23 : decode c_Model_sender 23 = .ok (.getfield 135, 3) := by decide +kernel
theorem d_Model_sender_26 : decode c_Model_sender 26 = .ok (.bipush 16, 2) := by decide +kernel
theorem d_Model_sender_28 : decode c_Model_sender 28 = .ok (.irem, 1) := by decide +kernel
theorem d_Model_sender_29 : decode c_Model_sender 29 = .ok (.aload_n 0, 1) := by decide +kernel
theorem d_Model_sender_30 : decode c_Model_sender 30 = .ok (.getfield 167, 3) := by decide +kernel
theorem d_Model_sender_33 : decode c_Model_sender 33 = .ok (.i2l, 1) := by decide +kernel
theorem d_Model_sender_34 : decode c_Model_sender 34 = .ok (.ldc2_w 170, 3) := by decide +kernel
theorem d_Model_sender_37 : decode c_Model_sender 37 = .ok (.aload_n 0, 1) := by decide +kernel
theorem d_Model_sender_38 : decode c_Model_sender 38 = .ok (.getfield 108, 3) := by decide +kernel
theorem d_Model_sender_41 : decode c_Model_sender 41 = .ok (.i2l, 1) := by decide +kernel
theorem d_Model_sender_42 : decode c_Model_sender 42 = .ok (.lmul, 1) := by decide +kernel
theorem d_Model_sender_43 : decode c_Model_sender 43 = .ok (.ladd, 1) := by decide +kernel
theorem d_Model_sender_44 : decode c_Model_sender 44 = .ok (.lastore, 1) := by decide +kernel
theorem d_Model_sender_45 : decode c_Model_sender 45 = .ok (.aload_n 0, 1) := by decide +kernel
theorem d_Model_sender_46 : decode c_Model_sender 46 = .ok (.dup, 1) := by decide +kernel
theorem d_Model_sender_47 : decode c_Model_sender 47 = .ok (.getfield 135, 3) := by decide +kernel
theorem d_Model_sender_50 : decode c_Model_sender 50 = .ok (.iconst 1, 1) := by decide +kernel
theorem d_Model_sender_51 : decode c_Model_sender 51 = .ok (.iadd, 1) := by decide +kernel
theorem d_Model_sender_52 : decode c_Model_sender 52 = .ok (.putfield 135, 3) := by decide +kernel
theorem d_Model_sender_55 : decode c_Model_sender 55 = .ok (.aload_n 0, 1) := by decide +kernel
theorem d_Model_sender_56 : decode c_Model_sender 56 = .ok (.iconst 0, 1) := by decide +kernel
theorem d_Model_sender_57 : decode c_Model_sender 57 = .ok (.putfield 161, 3) := by decide +kernel
theorem d_Model_sender_60 : decode c_Model_sender 60 = .ok (.aload_n 0, 1) := by decide +kernel
theorem d_Model_sender_61 : decode c_Model_sender 61 = .ok (.getfield 161, 3) := by decide +kernel
theorem d_Model_sender_64 : decode c_Model_sender 64 = .ok (.ifCond .ne 10, 3) := by decide +kernel
theorem d_Model_sender_67 : decode c_Model_sender 67 = .ok (.aload_n 0, 1) := by decide +kernel
theorem d_Model_sender_68 : decode c_Model_sender 68 = .ok (.getfield 138, 3) := by decide +kernel
theorem d_Model_sender_71 : decode c_Model_sender 71 = .ok (.ifCond .ne 4, 3) := by decide +kernel
theorem d_Model_sender_74 : decode c_Model_sender 74 = .ok (.return_, 1) := by decide +kernel
theorem d_Model_sender_75 : decode c_Model_sender 75 = .ok (.aload_n 0, 1) := by decide +kernel
theorem d_Model_sender_76 : decode c_Model_sender 76 = .ok (.iconst 1, 1) := by decide +kernel
theorem d_Model_sender_77 : decode c_Model_sender 77 = .ok (.putfield 161, 3) := by decide +kernel
theorem d_Model_sender_80 : decode c_Model_sender 80 = .ok (.aload_n 0, 1) := by decide +kernel
theorem d_Model_sender_81 : decode c_Model_sender 81 = .ok (.aload_n 0, 1) := by decide +kernel
theorem d_Model_sender_82 : decode c_Model_sender 82 = .ok (.getfield 73, 3) := by decide +kernel
theorem d_Model_sender_85 : decode c_Model_sender 85 = .ok (.iconst 0, 1) := by decide +kernel
theorem d_Model_sender_86 : decode c_Model_sender 86 = .ok (.iaload, 1) := by decide +kernel
theorem d_Model_sender_87 : decode c_Model_sender 87 = .ok (.putfield 167, 3) := by decide +kernel
theorem d_Model_sender_90 : decode c_Model_sender 90 = .ok (.aload_n 0, 1) := by decide +kernel
theorem d_Model_sender_91 : decode c_Model_sender 91 = .ok (.aload_n 0, 1) := by decide +kernel
theorem d_Model_sender_92 : decode c_Model_sender 92 = .ok (.getfield 108, 3) := by decide +kernel
theorem d_Model_sender_95 : decode c_Model_sender 95 = .ok (.bipush 10, 2) := by decide +kernel
theorem d_Model_sender_97 : decode c_Model_sender 97 = .ok (.aload_n 0, 1) := by decide +kernel
theorem d_Model_sender_98 : decode c_Model_sender 98 = .ok (.getfield 76, 3) := by decide +kernel
theorem d_Model_sender_101 : decode c_Model_sender 101 = .ok (.imul, 1) := by decide +kernel
theorem d_Model_sender_102 : decode c_Model_sender 102 = .ok (.iadd, 1) := by decide +kernel
theorem d_Model_sender_103 : decode c_Model_sender 103 = .ok (.putfield 164, 3) := by decide +kernel
theorem d_Model_sender_106 : decode c_Model_sender 106 = .ok (.aload_n 0, 1) := by decide +kernel
theorem d_Model_sender_107 : decode c_Model_sender 107 = .ok (.dup, 1) := by decide +kernel
theorem d_Model_sender_108 : decode c_Model_sender 108 = .ok (.getfield 138, 3) := by decide +kernel
theorem d_Model_sender_111 : decode c_Model_sender 111 = .ok (.iconst 1, 1) := by decide +kernel
theorem d_Model_sender_112 : decode c_Model_sender 112 = .ok (.isub, 1) := by decide +kernel
theorem d_Model_sender_113 : decode c_Model_sender 113 = .ok (.putfield 138, 3) := by decide +kernel
theorem d_Model_sender_116 : decode c_Model_sender 116 = .ok (.iconst 0, 1) := by decide +kernel
theorem d_Model_sender_117 : decode c_Model_sender 117 = .ok (.istore_n 1, 1) := by decide +kernel
theorem d_Model_sender_118 : decode c_Model_sender 118 = .ok (.iload_n 1, 1) := by decide +kernel
theorem d_Model_sender_119 : decode c_Model_sender 119 = .ok (.aload_n 0, 1) := by decide +kernel
theorem d_Model_sender_120 : decode c_Model_sender 120 = .ok (.getfield 138, 3) := by decide +kernel
theorem d_Model_sender_123 : decode c_Model_sender 123 = .ok (.if_icmp .ge 23, 3) := by decide +kernel
theorem d_Model_sender_126 : decode c_Model_sender 126 = .ok (.aload_n 0, 1) := by decide +kernel
theorem d_Model_sender_127 : decode c_Model_sender 127 = .ok (.getfield 73, 3) := by decide +kernel
theorem d_Model_sender_130 : decode c_Model_sender 130 = .ok (.iload_n 1, 1) := by decide +kernel
theorem d_Model_sender_131 : decode c_Model_sender 131 = .ok (.aload_n 0, 1) := by decide +kernel
theorem d_Model_sender_132 : decode c_Model_sender 132 = .ok (.getfield 73, 3) := by decide +kernel
theorem d_Model_sender_135 : decode c_Model_sender 135 = .ok (.iload_n 1, 1) := by decide +kernel
theorem d_Model_sender_136 : decode c_Model_sender 136 = .ok (.iconst 1, 1) := by decide +kernel
theorem d_Model_sender_137 : decode c_Model_sender 137 = .ok (.iadd, 1) := by decide +kernel
theorem d_Model_sender_138 : decode c_Model_sender 138 = .ok (.iaload, 1) := by decide +kernel
theorem d_Model_sender_139 : decode c_Model_sender 139 = .ok (.iastore, 1) := by decide +kernel
theorem d_Model_sender_140 : decode c_Model_sender 140 = .ok (.iinc 1 1, 3) := by decide +kernel
theorem d_Model_sender_143 : decode c_Model_sender 143 = .ok (.goto (-25), 3) := by decide +kernel
theorem d_Model_sender_146 : decode c_Model_sender 146 = .ok (.return_, 1) := by decide +kernel
abbrev c_Model_raiseLines : ByteArray := prog_14_method_26_code
def y_Model_raiseLines : MethodName := ⟨"CycleChipModel", "raiseLines", "()V"⟩
theorem d_Model_raiseLines_0 : decode c_Model_raiseLines 0 = .ok (.aload_n 0, 1) := by decide +kernel
theorem d_Model_raiseLines_1 : decode c_Model_raiseLines 1 = .ok (.getfield 61, 3) := by decide +kernel
theorem d_Model_raiseLines_4 : decode c_Model_raiseLines 4 = .ok (.iconst 1, 1) := by decide +kernel
theorem d_Model_raiseLines_5 : decode c_Model_raiseLines 5 = .ok (.aload_n 0, 1) := by decide +kernel
theorem d_Model_raiseLines_6 : decode c_Model_raiseLines 6 = .ok (.getfield 141, 3) := by decide +kernel
theorem d_Model_raiseLines_9 : decode c_Model_raiseLines 9 = .ok (.ifCond .le 13, 3) := by decide +kernel
theorem d_Model_raiseLines_12 : decode c_Model_raiseLines 12 = .ok (.aload_n 0, 1) := by decide +kernel
theorem d_Model_raiseLines_13 : decode c_Model_raiseLines 13 = .ok (.getfield 172, 3) := by decide +kernel
theorem d_Model_raiseLines_16 : decode c_Model_raiseLines 16 = .ok (.iconst 2, 1) := by decide +kernel
theorem d_Model_raiseLines_17 : decode c_Model_raiseLines 17 = .ok (.irem, 1) := by decide +kernel
theorem d_Model_raiseLines_18 : decode c_Model_raiseLines 18 = .ok (.iconst 1, 1) := by decide +kernel
theorem d_Model_raiseLines_19 : decode c_Model_raiseLines 19 = .ok (.if_icmp .eq 20, 3) := by decide +kernel
theorem d_Model_raiseLines_22 : decode c_Model_raiseLines 22 = .ok (.aload_n 0, 1) := by decide +kernel
theorem d_Model_raiseLines_23 : decode c_Model_raiseLines 23 = .ok (.getfield 138, 3) := by decide +kernel
theorem d_Model_raiseLines_26 : decode c_Model_raiseLines 26 = .ok (.ifCond .ne 17, 3) := by decide +kernel
theorem d_Model_raiseLines_29 : decode c_Model_raiseLines 29 = .ok (.aload_n 0, 1) := by decide +kernel
theorem d_Model_raiseLines_30 : decode c_Model_raiseLines 30 = .ok (.getfield 172, 3) := by decide +kernel
theorem d_Model_raiseLines_33 : decode c_Model_raiseLines 33 = .ok (.iconst 2, 1) := by decide +kernel
theorem d_Model_raiseLines_34 : decode c_Model_raiseLines 34 = .ok (.idiv, 1) := by decide +kernel
theorem d_Model_raiseLines_35 : decode c_Model_raiseLines 35 = .ok (.iconst 1, 1) := by decide +kernel
theorem d_Model_raiseLines_36 : decode c_Model_raiseLines 36 = .ok (.if_icmp .ne 7, 3) := by decide +kernel
theorem d_Model_raiseLines_39 : decode c_Model_raiseLines 39 = .ok (.iconst 1, 1) := by decide +kernel
theorem d_Model_raiseLines_40 : decode c_Model_raiseLines 40 = .ok (.goto 4, 3) := by decide +kernel
theorem d_Model_raiseLines_43 : decode c_Model_raiseLines 43 = .ok (.iconst 0, 1) := by decide +kernel
theorem d_Model_raiseLines_44 : decode c_Model_raiseLines 44 = .ok (.bastore, 1) := by decide +kernel
theorem d_Model_raiseLines_45 : decode c_Model_raiseLines 45 = .ok (.iconst 1, 1) := by decide +kernel
theorem d_Model_raiseLines_46 : decode c_Model_raiseLines 46 = .ok (.istore_n 1, 1) := by decide +kernel
theorem d_Model_raiseLines_47 : decode c_Model_raiseLines 47 = .ok (.iload_n 1, 1) := by decide +kernel
theorem d_Model_raiseLines_48 : decode c_Model_raiseLines 48 = .ok (.bipush 7, 2) := by decide +kernel
theorem d_Model_raiseLines_50 : decode c_Model_raiseLines 50 = .ok (.if_icmp .gt 34, 3) := by decide +kernel
theorem d_Model_raiseLines_53 : decode c_Model_raiseLines 53 = .ok (.aload_n 0, 1) := by decide +kernel
theorem d_Model_raiseLines_54 : decode c_Model_raiseLines 54 = .ok (.getfield 61, 3) := by decide +kernel
theorem d_Model_raiseLines_57 : decode c_Model_raiseLines 57 = .ok (.iload_n 1, 1) := by decide +kernel
theorem d_Model_raiseLines_58 : decode c_Model_raiseLines 58 = .ok (.baload, 1) := by decide +kernel
theorem d_Model_raiseLines_59 : decode c_Model_raiseLines 59 = .ok (.ifCond .eq 19, 3) := by decide +kernel
theorem d_Model_raiseLines_62 : decode c_Model_raiseLines 62 = .ok (.aload_n 0, 1) := by decide +kernel
theorem d_Model_raiseLines_63 : decode c_Model_raiseLines 63 = .ok (.getfield 67, 3) := by decide +kernel
theorem d_Model_raiseLines_66 : decode c_Model_raiseLines 66 = .ok (.iload_n 1, 1) := by decide +kernel
theorem d_Model_raiseLines_67 : decode c_Model_raiseLines 67 = .ok (.baload, 1) := by decide +kernel
theorem d_Model_raiseLines_68 : decode c_Model_raiseLines 68 = .ok (.ifCond .ne 10, 3) := by decide +kernel
theorem d_Model_raiseLines_71 : decode c_Model_raiseLines 71 = .ok (.aload_n 0, 1) := by decide +kernel
theorem d_Model_raiseLines_72 : decode c_Model_raiseLines 72 = .ok (.getfield 64, 3) := by decide +kernel
theorem d_Model_raiseLines_75 : decode c_Model_raiseLines 75 = .ok (.iload_n 1, 1) := by decide +kernel
theorem d_Model_raiseLines_76 : decode c_Model_raiseLines 76 = .ok (.iconst 1, 1) := by decide +kernel
theorem d_Model_raiseLines_77 : decode c_Model_raiseLines 77 = .ok (.bastore, 1) := by decide +kernel
theorem d_Model_raiseLines_78 : decode c_Model_raiseLines 78 = .ok (.iinc 1 1, 3) := by decide +kernel
theorem d_Model_raiseLines_81 : decode c_Model_raiseLines 81 = .ok (.goto (-34), 3) := by decide +kernel
theorem d_Model_raiseLines_84 : decode c_Model_raiseLines 84 = .ok (.return_, 1) := by decide +kernel
abbrev c_Model_busPart : ByteArray := prog_14_method_27_code
def y_Model_busPart : MethodName := ⟨"CycleChipModel", "busPart", "()V"⟩
theorem d_Model_busPart_0 : decode c_Model_busPart 0 = .ok (.aload_n 0, 1) := by decide +kernel
theorem d_Model_busPart_1 : decode c_Model_busPart 1 = .ok (.getfield 147, 3) := by decide +kernel
theorem d_Model_busPart_4 : decode c_Model_busPart 4 = .ok (.ifCond .le 109, 3) := by decide +kernel
theorem d_Model_busPart_7 : decode c_Model_busPart 7 = .ok (.aload_n 0, 1) := by decide +kernel
theorem d_Model_busPart_8 : decode c_Model_busPart 8 = .ok (.getfield 175, 3) := by decide +kernel
theorem d_Model_busPart_11 : decode c_Model_busPart 11 = .ok (.aload_n 0, 1) := by decide +kernel
theorem d_Model_busPart_12 : decode c_Model_busPart 12 = .ok (.getfield 108, 3) := by decide +kernel
theorem d_Model_busPart_15 : decode c_Model_busPart 15 = .ok (.if_icmp .ne 98, 3) := by decide +kernel
theorem d_Model_busPart_18 : decode c_Model_busPart 18 = .ok (.aload_n 0, 1) := by decide +kernel
theorem d_Model_busPart_19 : decode c_Model_busPart 19 = .ok (.getfield 147, 3) := by decide +kernel
theorem d_Model_busPart_22 : decode c_Model_busPart 22 = .ok (.istore_n 1, 1) := by decide +kernel
theorem d_Model_busPart_23 : decode c_Model_busPart 23 = .ok (.aload_n 0, 1) := by decide +kernel
theorem d_Model_busPart_24 : decode c_Model_busPart 24 = .ok (.iconst 0, 1) := by decide +kernel
theorem d_Model_busPart_25 : decode c_Model_busPart 25 = .ok (.putfield 147, 3) := by decide +kernel
theorem d_Model_busPart_28 : decode c_Model_busPart 28 = .ok (.iload_n 1, 1) := by decide +kernel
theorem d_Model_busPart_29 : decode c_Model_busPart 29 = .ok (.iconst 4, 1) := by decide +kernel
theorem d_Model_busPart_30 : decode c_Model_busPart 30 = .ok (.if_icmp .ne 57, 3) := by decide +kernel
theorem d_Model_busPart_33 : decode c_Model_busPart 33 = .ok (.aload_n 0, 1) := by decide +kernel
theorem d_Model_busPart_34 : decode c_Model_busPart 34 = .ok (.getfield 16, 3) := by decide +kernel
theorem d_Model_busPart_37 : decode c_Model_busPart 37 = .ok (.aload_n 0, 1) := by decide +kernel
theorem d_Model_busPart_38 : decode c_Model_busPart 38 = .ok (.getfield 40, 3) := by decide +kernel
theorem d_Model_busPart_41 : decode c_Model_busPart 41 = .ok (.iconst 0, 1) := by decide +kernel
theorem d_Model_busPart_42 : decode c_Model_busPart 42 = .ok (.iaload, 1) := by decide +kernel
theorem d_Model_busPart_43 : decode c_Model_busPart 43 = .ok (.aload_n 0, 1) := by decide +kernel
theorem d_Model_busPart_44 : decode c_Model_busPart 44 = .ok (.getfield 43, 3) := by decide +kernel
theorem d_Model_busPart_47 : decode c_Model_busPart 47 = .ok (.iconst 0, 1) := by decide +kernel
theorem d_Model_busPart_48 : decode c_Model_busPart 48 = .ok (.iaload, 1) := by decide +kernel
theorem d_Model_busPart_49 : decode c_Model_busPart 49 = .ok (.iastore, 1) := by decide +kernel
theorem d_Model_busPart_50 : decode c_Model_busPart 50 = .ok (.aload_n 0, 1) := by decide +kernel
theorem d_Model_busPart_51 : decode c_Model_busPart 51 = .ok (.getfield 40, 3) := by decide +kernel
theorem d_Model_busPart_54 : decode c_Model_busPart 54 = .ok (.iconst 0, 1) := by decide +kernel
theorem d_Model_busPart_55 : decode c_Model_busPart 55 = .ok (.aload_n 0, 1) := by decide +kernel
theorem d_Model_busPart_56 : decode c_Model_busPart 56 = .ok (.getfield 40, 3) := by decide +kernel
theorem d_Model_busPart_59 : decode c_Model_busPart 59 = .ok (.iconst 1, 1) := by decide +kernel
theorem d_Model_busPart_60 : decode c_Model_busPart 60 = .ok (.iaload, 1) := by decide +kernel
theorem d_Model_busPart_61 : decode c_Model_busPart 61 = .ok (.iastore, 1) := by decide +kernel
theorem d_Model_busPart_62 : decode c_Model_busPart 62 = .ok (.aload_n 0, 1) := by decide +kernel
theorem d_Model_busPart_63 : decode c_Model_busPart 63 = .ok (.getfield 43, 3) := by decide +kernel
theorem d_Model_busPart_66 : decode c_Model_busPart 66 = .ok (.iconst 0, 1) := by decide +kernel
theorem d_Model_busPart_67 : decode c_Model_busPart 67 = .ok (.aload_n 0, 1) := by decide +kernel
theorem d_Model_busPart_68 : decode c_Model_busPart 68 = .ok (.getfield 43, 3) := by decide +kernel
theorem d_Model_busPart_71 : decode c_Model_busPart 71 = .ok (.iconst 1, 1) := by decide +kernel
theorem d_Model_busPart_72 : decode c_Model_busPart 72 = .ok (.iaload, 1) := by decide +kernel
theorem d_Model_busPart_73 : decode c_Model_busPart 73 = .ok (.iastore, 1) := by decide +kernel
theorem d_Model_busPart_74 : decode c_Model_busPart 74 = .ok (.aload_n 0, 1) := by decide +kernel
theorem d_Model_busPart_75 : decode c_Model_busPart 75 = .ok (.dup, 1) := by decide +kernel
theorem d_Model_busPart_76 : decode c_Model_busPart 76 = .ok (.getfield 144, 3) := by decide +kernel
theorem d_Model_busPart_79 : decode c_Model_busPart 79 = .ok (.iconst 1, 1) := by decide +kernel
theorem d_Model_busPart_80 : decode c_Model_busPart 80 = .ok (.isub, 1) := by decide +kernel
theorem d_Model_busPart_81 : decode c_Model_busPart 81 = .ok (.putfield 144, 3) := by decide +kernel
theorem d_Model_busPart_84 : decode c_Model_busPart 84 = .ok (.goto 29, 3) := by decide +kernel
theorem d_Model_busPart_87 : decode c_Model_busPart 87 = .ok (.aload_n 0, 1) := by decide +kernel
theorem d_Model_busPart_88 : decode c_Model_busPart 88 = .ok (.iconst 0, 1) := by decide +kernel
theorem d_Model_busPart_89 : decode c_Model_busPart 89 = .ok (.putfield 178, 3) := by decide +kernel
theorem d_Model_busPart_92 : decode c_Model_busPart 92 = .ok (.iload_n 1, 1) := by decide +kernel
theorem d_Model_busPart_93 : decode c_Model_busPart 93 = .ok (.iconst 3, 1) := by decide +kernel
theorem d_Model_busPart_94 : decode c_Model_busPart 94 = .ok (.if_icmp .ne 10, 3) := by decide +kernel
theorem d_Model_busPart_97 : decode c_Model_busPart 97 = .ok (.aload_n 0, 1) := by decide +kernel
theorem d_Model_busPart_98 : decode c_Model_busPart 98 = .ok (.invokevirtual 181, 3) := by decide +kernel
theorem d_Model_busPart_101 : decode c_Model_busPart 101 = .ok (.goto 12, 3) := by decide +kernel
theorem d_Model_busPart_104 : decode c_Model_busPart 104 = .ok (.aload_n 0, 1) := by decide +kernel
theorem d_Model_busPart_105 : decode c_Model_busPart 105 = .ok (.iload_n 1, 1) := by decide +kernel
theorem d_Model_busPart_106 : decode c_Model_busPart 106 = .ok (.aload_n 0, 1) := by decide +kernel
theorem d_Model_busPart_107 : decode c_Model_busPart 107 = .ok (.getfield 184, 3) := by decide +kernel
theorem d_Model_busPart_110 : decode c_Model_busPart 110 = .ok (.invokevirtual 187, 3) := by decide +kernel
theorem d_Model_busPart_113 : decode c_Model_busPart 113 = .ok (.aload_n 0, 1) := by decide +kernel
theorem d_Model_busPart_114 : decode c_Model_busPart 114 = .ok (.getfield 147, 3) := by decide +kernel
theorem d_Model_busPart_117 : decode c_Model_busPart 117 = .ok (.ifCond .gt 17, 3) := by decide +kernel
theorem d_Model_busPart_120 : decode c_Model_busPart 120 = .ok (.aload_n 0, 1) := by decide +kernel
theorem d_Model_busPart_121 : decode c_Model_busPart 121 = .ok (.getfield 190, 3) := by decide +kernel
theorem d_Model_busPart_124 : decode c_Model_busPart 124 = .ok (.ifCond .ne 11, 3) := by decide +kernel
theorem d_Model_busPart_127 : decode c_Model_busPart 127 = .ok (.aload_n 0, 1) := by decide +kernel
theorem d_Model_busPart_128 : decode c_Model_busPart 128 = .ok (.getfield 144, 3) := by decide +kernel
theorem d_Model_busPart_131 : decode c_Model_busPart 131 = .ok (.ifCond .ne 4, 3) := by decide +kernel
theorem d_Model_busPart_134 : decode c_Model_busPart 134 = .ok (.return_, 1) := by decide +kernel
theorem d_Model_busPart_135 : decode c_Model_busPart 135 = .ok (.aload_n 0, 1) := by decide +kernel
theorem d_Model_busPart_136 : decode c_Model_busPart 136 = .ok (.getfield 190, 3) := by decide +kernel
theorem d_Model_busPart_139 : decode c_Model_busPart 139 = .ok (.ifCond .le 21, 3) := by decide +kernel
theorem d_Model_busPart_142 : decode c_Model_busPart 142 = .ok (.aload_n 0, 1) := by decide +kernel
theorem d_Model_busPart_143 : decode c_Model_busPart 143 = .ok (.getfield 144, 3) := by decide +kernel
theorem d_Model_busPart_146 : decode c_Model_busPart 146 = .ok (.ifCond .eq 10, 3) := by decide +kernel
theorem d_Model_busPart_149 : decode c_Model_busPart 149 = .ok (.aload_n 0, 1) := by decide +kernel
theorem d_Model_busPart_150 : decode c_Model_busPart 150 = .ok (.getfield 36, 3) := by decide +kernel
theorem d_Model_busPart_153 : decode c_Model_busPart 153 = .ok (.ifCond .eq 7, 3) := by decide +kernel
theorem d_Model_busPart_156 : decode c_Model_busPart 156 = .ok (.iconst 1, 1) := by decide +kernel
theorem d_Model_busPart_157 : decode c_Model_busPart 157 = .ok (.goto 4, 3) := by decide +kernel
theorem d_Model_busPart_160 : decode c_Model_busPart 160 = .ok (.iconst 0, 1) := by decide +kernel
theorem d_Model_busPart_161 : decode c_Model_busPart 161 = .ok (.istore_n 1, 1) := by decide +kernel
theorem d_Model_busPart_162 : decode c_Model_busPart 162 = .ok (.aload_n 0, 1) := by decide +kernel
theorem d_Model_busPart_163 : decode c_Model_busPart 163 = .ok (.iload_n 1, 1) := by decide +kernel
theorem d_Model_busPart_164 : decode c_Model_busPart 164 = .ok (.ifCond .ne 7, 3) := by decide +kernel
theorem d_Model_busPart_167 : decode c_Model_busPart 167 = .ok (.iconst 1, 1) := by decide +kernel
theorem d_Model_busPart_168 : decode c_Model_busPart 168 = .ok (.goto 4, 3) := by decide +kernel
theorem d_Model_busPart_171 : decode c_Model_busPart 171 = .ok (.iconst 0, 1) := by decide +kernel
theorem d_Model_busPart_172 : decode c_Model_busPart 172 = .ok (.putfield 36, 3) := by decide +kernel
theorem d_Model_busPart_175 : decode c_Model_busPart 175 = .ok (.aload_n 0, 1) := by decide +kernel
theorem d_Model_busPart_176 : decode c_Model_busPart 176 = .ok (.iload_n 1, 1) := by decide +kernel
theorem d_Model_busPart_177 : decode c_Model_busPart 177 = .ok (.ifCond .eq 10, 3) := by decide +kernel
theorem d_Model_busPart_180 : decode c_Model_busPart 180 = .ok (.aload_n 0, 1) := by decide +kernel
theorem d_Model_busPart_181 : decode c_Model_busPart 181 = .ok (.getfield 190, 3) := by decide +kernel
theorem d_Model_busPart_184 : decode c_Model_busPart 184 = .ok (.goto 4, 3) := by decide +kernel
theorem d_Model_busPart_187 : decode c_Model_busPart 187 = .ok (.iconst 4, 1) := by decide +kernel
theorem d_Model_busPart_188 : decode c_Model_busPart 188 = .ok (.putfield 147, 3) := by decide +kernel
theorem d_Model_busPart_191 : decode c_Model_busPart 191 = .ok (.aload_n 0, 1) := by decide +kernel
theorem d_Model_busPart_192 : decode c_Model_busPart 192 = .ok (.aload_n 0, 1) := by decide +kernel
theorem d_Model_busPart_193 : decode c_Model_busPart 193 = .ok (.getfield 193, 3) := by decide +kernel
theorem d_Model_busPart_196 : decode c_Model_busPart 196 = .ok (.putfield 184, 3) := by decide +kernel
theorem d_Model_busPart_199 : decode c_Model_busPart 199 = .ok (.aload_n 0, 1) := by decide +kernel
theorem d_Model_busPart_200 : decode c_Model_busPart 200 = .ok (.aload_n 0, 1) := by decide +kernel
theorem d_Model_busPart_201 : decode c_Model_busPart 201 = .ok (.getfield 108, 3) := by decide +kernel
theorem d_Model_busPart_204 : decode c_Model_busPart 204 = .ok (.aload_n 0, 1) := by decide +kernel
theorem d_Model_busPart_205 : decode c_Model_busPart 205 = .ok (.getfield 147, 3) := by decide +kernel
theorem d_Model_busPart_208 : decode c_Model_busPart 208 = .ok (.iconst 4, 1) := by decide +kernel
theorem d_Model_busPart_209 : decode c_Model_busPart 209 = .ok (.if_icmp .ne 10, 3) := by decide +kernel
theorem d_Model_busPart_212 : decode c_Model_busPart 212 = .ok (.aload_n 0, 1) := by decide +kernel
theorem d_Model_busPart_213 : decode c_Model_busPart 213 = .ok (.getfield 83, 3) := by decide +kernel
theorem d_Model_busPart_216 : decode c_Model_busPart 216 = .ok (.goto 21, 3) := by decide +kernel
theorem d_Model_busPart_219 : decode c_Model_busPart 219 = .ok (.aload_n 0, 1) := by decide +kernel
theorem d_Model_busPart_220 : decode c_Model_busPart 220 = .ok (.getfield 147, 3) := by decide +kernel
theorem d_Model_busPart_223 : decode c_Model_busPart 223 = .ok (.iconst 3, 1) := by decide +kernel
theorem d_Model_busPart_224 : decode c_Model_busPart 224 = .ok (.if_icmp .ne 7, 3) := by decide +kernel
theorem d_Model_busPart_227 : decode c_Model_busPart 227 = .ok (.iconst 1, 1) := by decide +kernel
theorem d_Model_busPart_228 : decode c_Model_busPart 228 = .ok (.goto 9, 3) := by decide +kernel
theorem d_Model_busPart_231 : decode c_Model_busPart 231 = .ok (.iconst 4, 1) := by decide +kernel
theorem d_Model_busPart_232 : decode c_Model_busPart 232 = .ok (.aload_n 0, 1) := by decide +kernel
theorem d_Model_busPart_233 : decode c_Model_busPart 233 = .ok (.getfield 83, 3) := by decide +kernel
theorem d_Model_busPart_236 : decode c_Model_busPart 236 = .ok (.imul, 1) := by decide +kernel
theorem d_Model_busPart_237 : decode c_Model_busPart 237 = .ok (.iadd, 1) := by decide +kernel
theorem d_Model_busPart_238 : decode c_Model_busPart 238 = .ok (.putfield 175, 3) := by decide +kernel
theorem d_Model_busPart_241 : decode c_Model_busPart 241 = .ok (.iload_n 1, 1) := by decide +kernel
theorem d_Model_busPart_242 : decode c_Model_busPart 242 = .ok (.ifCond .eq 8, 3) := by decide +kernel
theorem d_Model_busPart_245 : decode c_Model_busPart 245 = .ok (.aload_n 0, 1) := by decide +kernel
theorem d_Model_busPart_246 : decode c_Model_busPart 246 = .ok (.iconst 0, 1) := by decide +kernel
theorem d_Model_busPart_247 : decode c_Model_busPart 247 = .ok (.putfield 190, 3) := by decide +kernel
theorem d_Model_busPart_250 : decode c_Model_busPart 250 = .ok (.return_, 1) := by decide +kernel
abbrev c_Model_fill : ByteArray := prog_14_method_28_code
def y_Model_fill : MethodName := ⟨"CycleChipModel", "fill", "(II)V"⟩
theorem d_Model_fill_0 : decode c_Model_fill 0 = .ok (.iload_n 1, 1) := by decide +kernel
theorem d_Model_fill_1 : decode c_Model_fill 1 = .ok (.iconst 1, 1) := by decide +kernel
theorem d_Model_fill_2 : decode c_Model_fill 2 = .ok (.if_icmp .ne 7, 3) := by decide +kernel
theorem d_Model_fill_5 : decode c_Model_fill 5 = .ok (.iconst 0, 1) := by decide +kernel
theorem d_Model_fill_6 : decode c_Model_fill 6 = .ok (.goto 6, 3) := by decide +kernel
theorem d_Model_fill_9 : decode c_Model_fill 9 = .ok (.sipush 128, 3) := by decide +kernel
theorem d_Model_fill_12 : decode c_Model_fill 12 = .ok (.istore_n 3, 1) := by decide +kernel
theorem d_Model_fill_13 : decode c_Model_fill 13 = .ok (.iconst 0, 1) := by decide +kernel
theorem d_Model_fill_14 : decode c_Model_fill 14 = .ok (.istore 4, 2) := by decide +kernel
theorem d_Model_fill_16 : decode c_Model_fill 16 = .ok (.iload 4, 2) := by decide +kernel
theorem d_Model_fill_18 : decode c_Model_fill 18 = .ok (.sipush 128, 3) := by decide +kernel
theorem d_Model_fill_21 : decode c_Model_fill 21 = .ok (.if_icmp .ge 65, 3) := by decide +kernel
theorem d_Model_fill_24 : decode c_Model_fill 24 = .ok (.iload 4, 2) := by decide +kernel
theorem d_Model_fill_26 : decode c_Model_fill 26 = .ok (.iconst 4, 1) := by decide +kernel
theorem d_Model_fill_27 : decode c_Model_fill 27 = .ok (.idiv, 1) := by decide +kernel
theorem d_Model_fill_28 : decode c_Model_fill 28 = .ok (.aload_n 0, 1) := by decide +kernel
theorem d_Model_fill_29 : decode c_Model_fill 29 = .ok (.getfield 86, 3) := by decide +kernel
theorem d_Model_fill_32 : decode c_Model_fill 32 = .ok (.irem, 1) := by decide +kernel
theorem d_Model_fill_33 : decode c_Model_fill 33 = .ok (.iload_n 2, 1) := by decide +kernel
theorem d_Model_fill_34 : decode c_Model_fill 34 = .ok (.aload_n 0, 1) := by decide +kernel
theorem d_Model_fill_35 : decode c_Model_fill 35 = .ok (.getfield 86, 3) := by decide +kernel
theorem d_Model_fill_38 : decode c_Model_fill 38 = .ok (.irem, 1) := by decide +kernel
theorem d_Model_fill_39 : decode c_Model_fill 39 = .ok (.if_icmp .ne 41, 3) := by decide +kernel
theorem d_Model_fill_42 : decode c_Model_fill 42 = .ok (.aload_n 0, 1) := by decide +kernel
theorem d_Model_fill_43 : decode c_Model_fill 43 = .ok (.getfield 19, 3) := by decide +kernel
theorem d_Model_fill_46 : decode c_Model_fill 46 = .ok (.iload_n 3, 1) := by decide +kernel
theorem d_Model_fill_47 : decode c_Model_fill 47 = .ok (.iload 4, 2) := by decide +kernel
theorem d_Model_fill_49 : decode c_Model_fill 49 = .ok (.iadd, 1) := by decide +kernel
theorem d_Model_fill_50 : decode c_Model_fill 50 = .ok (.iload 4, 2) := by decide +kernel
theorem d_Model_fill_52 : decode c_Model_fill 52 = .ok (.iconst 4, 1) := by decide +kernel
theorem d_Model_fill_53 : decode c_Model_fill 53 = .ok (.idiv, 1) := by decide +kernel
theorem d_Model_fill_54 : decode c_Model_fill 54 = .ok (.iload_n 2, 1) := by decide +kernel
theorem d_Model_fill_55 : decode c_Model_fill 55 = .ok (.if_icmp .ne 7, 3) := by decide +kernel
theorem d_Model_fill_58 : decode c_Model_fill 58 = .ok (.iconst 1, 1) := by decide +kernel
theorem d_Model_fill_59 : decode c_Model_fill 59 = .ok (.goto 4, 3) := by decide +kernel
theorem d_Model_fill_62 : decode c_Model_fill 62 = .ok (.iconst 0, 1) := by decide +kernel
theorem d_Model_fill_63 : decode c_Model_fill 63 = .ok (.bastore, 1) := by decide +kernel
theorem d_Model_fill_64 : decode c_Model_fill 64 = .ok (.aload_n 0, 1) := by decide +kernel
theorem d_Model_fill_65 : decode c_Model_fill 65 = .ok (.getfield 23, 3) := by decide +kernel
theorem d_Model_fill_68 : decode c_Model_fill 68 = .ok (.iload_n 3, 1) := by decide +kernel
theorem d_Model_fill_69 : decode c_Model_fill 69 = .ok (.iload 4, 2) := by decide +kernel
theorem d_Model_fill_71 : decode c_Model_fill 71 = .ok (.iadd, 1) := by decide +kernel
theorem d_Model_fill_72 : decode c_Model_fill 72 = .ok (.aload_n 0, 1) := by decide +kernel
theorem d_Model_fill_73 : decode c_Model_fill 73 = .ok (.getfield 16, 3) := by decide +kernel
theorem d_Model_fill_76 : decode c_Model_fill 76 = .ok (.iload 4, 2) := by decide +kernel
theorem d_Model_fill_78 : decode c_Model_fill 78 = .ok (.iaload, 1) := by decide +kernel
theorem d_Model_fill_79 : decode c_Model_fill 79 = .ok (.iastore, 1) := by decide +kernel
theorem d_Model_fill_80 : decode c_Model_fill 80 = .ok (.iinc 4 1, 3) := by decide +kernel
theorem d_Model_fill_83 : decode c_Model_fill 83 = .ok (.goto (-67), 3) := by decide +kernel
theorem d_Model_fill_86 : decode c_Model_fill 86 = .ok (.return_, 1) := by decide +kernel
abbrev c_Model_want : ByteArray := prog_14_method_29_code
def y_Model_want : MethodName := ⟨"CycleChipModel", "want", "(II)V"⟩
theorem d_Model_want_0 : decode c_Model_want 0 = .ok (.aload_n 0, 1) := by decide +kernel
theorem d_Model_want_1 : decode c_Model_want 1 = .ok (.iload_n 1, 1) := by decide +kernel
theorem d_Model_want_2 : decode c_Model_want 2 = .ok (.putfield 190, 3) := by decide +kernel
theorem d_Model_want_5 : decode c_Model_want 5 = .ok (.aload_n 0, 1) := by decide +kernel
theorem d_Model_want_6 : decode c_Model_want 6 = .ok (.iload_n 2, 1) := by decide +kernel
theorem d_Model_want_7 : decode c_Model_want 7 = .ok (.putfield 193, 3) := by decide +kernel
theorem d_Model_want_10 : decode c_Model_want 10 = .ok (.aload_n 0, 1) := by decide +kernel
theorem d_Model_want_11 : decode c_Model_want 11 = .ok (.iconst 1, 1) := by decide +kernel
theorem d_Model_want_12 : decode c_Model_want 12 = .ok (.putfield 178, 3) := by decide +kernel
theorem d_Model_want_15 : decode c_Model_want 15 = .ok (.return_, 1) := by decide +kernel
abbrev c_Model_act : ByteArray := prog_14_method_30_code
def y_Model_act : MethodName := ⟨"CycleChipModel", "act", "(I)V"⟩
theorem d_Model_act_0 : decode c_Model_act 0 = .ok (.aload_n 0, 1) := by decide +kernel
theorem d_Model_act_1 : decode c_Model_act 1 = .ok (.getfield 7, 3) := by decide +kernel
theorem d_Model_act_4 : decode c_Model_act 4 = .ok (.aload_n 0, 1) := by decide +kernel
theorem d_Model_act_5 : decode c_Model_act 5 = .ok (.getfield 111, 3) := by decide +kernel
theorem d_Model_act_8 : decode c_Model_act 8 = .ok (.bipush 16, 2) := by decide +kernel
theorem d_Model_act_10 : decode c_Model_act 10 = .ok (.irem, 1) := by decide +kernel
theorem d_Model_act_11 : decode c_Model_act 11 = .ok (.aload_n 0, 1) := by decide +kernel
theorem d_Model_act_12 : decode c_Model_act 12 = .ok (.getfield 108, 3) := by decide +kernel
theorem d_Model_act_15 : decode c_Model_act 15 = .ok (.iastore, 1) := by decide +kernel
theorem d_Model_act_16 : decode c_Model_act 16 = .ok (.aload_n 0, 1) := by decide +kernel
theorem d_Model_act_17 : decode c_Model_act 17 = .ok (.getfield 13, 3) := by decide +kernel
theorem d_Model_act_20 : decode c_Model_act 20 = .ok (.aload_n 0, 1) := by decide +kernel
theorem d_Model_act_21 : decode c_Model_act 21 = .ok (.getfield 111, 3) := by decide +kernel
theorem d_Model_act_24 : decode c_Model_act 24 = .ok (.bipush 16, 2) := by decide +kernel
theorem d_Model_act_26 : decode c_Model_act 26 = .ok (.irem, 1) := by decide +kernel
theorem d_Model_act_27 : decode c_Model_act 27 = .ok (.aload_n 0, 1) := by decide +kernel
theorem d_Model_act_28 : decode c_Model_act 28 = .ok (.getfield 95, 3) := by decide +kernel
theorem d_Model_act_31 : decode c_Model_act 31 = .ok (.iastore, 1) := by decide +kernel
theorem d_Model_act_32 : decode c_Model_act 32 = .ok (.aload_n 0, 1) := by decide +kernel
theorem d_Model_act_33 : decode c_Model_act 33 = .ok (.dup, 1) := by decide +kernel
theorem d_Model_act_34 : decode c_Model_act 34 = .ok (.getfield 111, 3) := by decide +kernel
theorem d_Model_act_37 : decode c_Model_act 37 = .ok (.iconst 1, 1) := by decide +kernel
theorem d_Model_act_38 : decode c_Model_act 38 = .ok (.iadd, 1) := by decide +kernel
theorem d_Model_act_39 : decode c_Model_act 39 = .ok (.putfield 111, 3) := by decide +kernel
theorem d_Model_act_42 : decode c_Model_act 42 = .ok (.aload_n 0, 1) := by decide +kernel
theorem d_Model_act_43 : decode c_Model_act 43 = .ok (.iload_n 1, 1) := by decide +kernel
theorem d_Model_act_44 : decode c_Model_act 44 = .ok (.putfield 95, 3) := by decide +kernel
theorem d_Model_act_47 : decode c_Model_act 47 = .ok (.return_, 1) := by decide +kernel
abbrev c_Model_set : ByteArray := prog_14_method_31_code
def y_Model_set : MethodName := ⟨"CycleChipModel", "set", "(II)V"⟩
theorem d_Model_set_0 : decode c_Model_set 0 = .ok (.iload_n 1, 1) := by decide +kernel
theorem d_Model_set_1 : decode c_Model_set 1 = .ok (.ifCond .le 10, 3) := by decide +kernel
theorem d_Model_set_4 : decode c_Model_set 4 = .ok (.aload_n 0, 1) := by decide +kernel
theorem d_Model_set_5 : decode c_Model_set 5 = .ok (.getfield 26, 3) := by decide +kernel
theorem d_Model_set_8 : decode c_Model_set 8 = .ok (.iload_n 1, 1) := by decide +kernel
theorem d_Model_set_9 : decode c_Model_set 9 = .ok (.iload_n 2, 1) := by decide +kernel
theorem d_Model_set_10 : decode c_Model_set 10 = .ok (.iastore, 1) := by decide +kernel
theorem d_Model_set_11 : decode c_Model_set 11 = .ok (.aload_n 0, 1) := by decide +kernel
theorem d_Model_set_12 : decode c_Model_set 12 = .ok (.aload_n 0, 1) := by decide +kernel
theorem d_Model_set_13 : decode c_Model_set 13 = .ok (.getfield 95, 3) := by decide +kernel
theorem d_Model_set_16 : decode c_Model_set 16 = .ok (.iconst 4, 1) := by decide +kernel
theorem d_Model_set_17 : decode c_Model_set 17 = .ok (.iadd, 1) := by decide +kernel
theorem d_Model_set_18 : decode c_Model_set 18 = .ok (.invokevirtual 196, 3) := by decide +kernel
theorem d_Model_set_21 : decode c_Model_set 21 = .ok (.return_, 1) := by decide +kernel
abbrev c_Model_enter : ByteArray := prog_14_method_32_code
def y_Model_enter : MethodName := ⟨"CycleChipModel", "enter", "(III)V"⟩
theorem d_Model_enter_0 : decode c_Model_enter 0 = .ok (.aload_n 0, 1) := by decide +kernel
theorem d_Model_enter_1 : decode c_Model_enter 1 = .ok (.getfield 29, 3) := by decide +kernel
theorem d_Model_enter_4 : decode c_Model_enter 4 = .ok (.iconst 4, 1) := by decide +kernel
theorem d_Model_enter_5 : decode c_Model_enter 5 = .ok (.aload_n 0, 1) := by decide +kernel
theorem d_Model_enter_6 : decode c_Model_enter 6 = .ok (.getfield 95, 3) := by decide +kernel
theorem d_Model_enter_9 : decode c_Model_enter 9 = .ok (.iastore, 1) := by decide +kernel
theorem d_Model_enter_10 : decode c_Model_enter 10 = .ok (.aload_n 0, 1) := by decide +kernel
theorem d_Model_enter_11 : decode c_Model_enter 11 = .ok (.getfield 29, 3) := by decide +kernel
theorem d_Model_enter_14 : decode c_Model_enter 14 = .ok (.iconst 5, 1) := by decide +kernel
theorem d_Model_enter_15 : decode c_Model_enter 15 = .ok (.iload_n 1, 1) := by decide +kernel
theorem d_Model_enter_16 : decode c_Model_enter 16 = .ok (.iastore, 1) := by decide +kernel
theorem d_Model_enter_17 : decode c_Model_enter 17 = .ok (.aload_n 0, 1) := by decide +kernel
theorem d_Model_enter_18 : decode c_Model_enter 18 = .ok (.getfield 29, 3) := by decide +kernel
theorem d_Model_enter_21 : decode c_Model_enter 21 = .ok (.bipush 6, 2) := by decide +kernel
theorem d_Model_enter_23 : decode c_Model_enter 23 = .ok (.iload_n 2, 1) := by decide +kernel
theorem d_Model_enter_24 : decode c_Model_enter 24 = .ok (.iastore, 1) := by decide +kernel
theorem d_Model_enter_25 : decode c_Model_enter 25 = .ok (.aload_n 0, 1) := by decide +kernel
theorem d_Model_enter_26 : decode c_Model_enter 26 = .ok (.getfield 29, 3) := by decide +kernel
theorem d_Model_enter_29 : decode c_Model_enter 29 = .ok (.iconst 0, 1) := by decide +kernel
theorem d_Model_enter_30 : decode c_Model_enter 30 = .ok (.aload_n 0, 1) := by decide +kernel
theorem d_Model_enter_31 : decode c_Model_enter 31 = .ok (.getfield 29, 3) := by decide +kernel
theorem d_Model_enter_34 : decode c_Model_enter 34 = .ok (.iconst 0, 1) := by decide +kernel
theorem d_Model_enter_35 : decode c_Model_enter 35 = .ok (.iaload, 1) := by decide +kernel
theorem d_Model_enter_36 : decode c_Model_enter 36 = .ok (.bipush 8, 2) := by decide +kernel
theorem d_Model_enter_38 : decode c_Model_enter 38 = .ok (.iand, 1) := by decide +kernel
theorem d_Model_enter_39 : decode c_Model_enter 39 = .ok (.ifCond .eq 9, 3) := by decide +kernel
theorem d_Model_enter_42 : decode c_Model_enter 42 = .ok (.sipush 128, 3) := by decide +kernel
theorem d_Model_enter_45 : decode c_Model_enter 45 = .ok (.goto 4, 3) := by decide +kernel
theorem d_Model_enter_48 : decode c_Model_enter 48 = .ok (.iconst 0, 1) := by decide +kernel
theorem d_Model_enter_49 : decode c_Model_enter 49 = .ok (.iastore, 1) := by decide +kernel
theorem d_Model_enter_50 : decode c_Model_enter 50 = .ok (.aload_n 0, 1) := by decide +kernel
theorem d_Model_enter_51 : decode c_Model_enter 51 = .ok (.iload_n 3, 1) := by decide +kernel
theorem d_Model_enter_52 : decode c_Model_enter 52 = .ok (.putfield 95, 3) := by decide +kernel
theorem d_Model_enter_55 : decode c_Model_enter 55 = .ok (.aload_n 0, 1) := by decide +kernel
theorem d_Model_enter_56 : decode c_Model_enter 56 = .ok (.aload_n 0, 1) := by decide +kernel
theorem d_Model_enter_57 : decode c_Model_enter 57 = .ok (.getfield 108, 3) := by decide +kernel
theorem d_Model_enter_60 : decode c_Model_enter 60 = .ok (.iconst 1, 1) := by decide +kernel
theorem d_Model_enter_61 : decode c_Model_enter 61 = .ok (.iadd, 1) := by decide +kernel
theorem d_Model_enter_62 : decode c_Model_enter 62 = .ok (.putfield 32, 3) := by decide +kernel
theorem d_Model_enter_65 : decode c_Model_enter 65 = .ok (.aload_n 0, 1) := by decide +kernel
theorem d_Model_enter_66 : decode c_Model_enter 66 = .ok (.dup, 1) := by decide +kernel
theorem d_Model_enter_67 : decode c_Model_enter 67 = .ok (.getfield 132, 3) := by decide +kernel
theorem d_Model_enter_70 : decode c_Model_enter 70 = .ok (.iconst 1, 1) := by decide +kernel
theorem d_Model_enter_71 : decode c_Model_enter 71 = .ok (.iadd, 1) := by decide +kernel
theorem d_Model_enter_72 : decode c_Model_enter 72 = .ok (.putfield 132, 3) := by decide +kernel
theorem d_Model_enter_75 : decode c_Model_enter 75 = .ok (.return_, 1) := by decide +kernel
abbrev c_Model_trap : ByteArray := prog_14_method_33_code
def y_Model_trap : MethodName := ⟨"CycleChipModel", "trap", "(II)V"⟩
theorem d_Model_trap_0 : decode c_Model_trap 0 = .ok (.aload_n 0, 1) := by decide +kernel
theorem d_Model_trap_1 : decode c_Model_trap 1 = .ok (.iload_n 1, 1) := by decide +kernel
theorem d_Model_trap_2 : decode c_Model_trap 2 = .ok (.iload_n 2, 1) := by decide +kernel
theorem d_Model_trap_3 : decode c_Model_trap 3 = .ok (.aload_n 0, 1) := by decide +kernel
theorem d_Model_trap_4 : decode c_Model_trap 4 = .ok (.getfield 29, 3) := by decide +kernel
theorem d_Model_trap_7 : decode c_Model_trap 7 = .ok (.iconst 2, 1) := by decide +kernel
theorem d_Model_trap_8 : decode c_Model_trap 8 = .ok (.iaload, 1) := by decide +kernel
theorem d_Model_trap_9 : decode c_Model_trap 9 = .ok (.bipush (-4), 2) := by decide +kernel
theorem d_Model_trap_11 : decode c_Model_trap 11 = .ok (.iand, 1) := by decide +kernel
theorem d_Model_trap_12 : decode c_Model_trap 12 = .ok (.invokevirtual 200, 3) := by decide +kernel
theorem d_Model_trap_15 : decode c_Model_trap 15 = .ok (.return_, 1) := by decide +kernel
abbrev c_Model_mip : ByteArray := prog_14_method_34_code
def y_Model_mip : MethodName := ⟨"CycleChipModel", "mip", "()I"⟩
theorem d_Model_mip_0 : decode c_Model_mip 0 = .ok (.ldc2_w 204, 3) := by decide +kernel
theorem d_Model_mip_3 : decode c_Model_mip 3 = .ok (.lstore_n 1, 1) := by decide +kernel
theorem d_Model_mip_4 : decode c_Model_mip 4 = .ok (.aload_n 0, 1) := by decide +kernel
theorem d_Model_mip_5 : decode c_Model_mip 5 = .ok (.getfield 129, 3) := by decide +kernel
theorem d_Model_mip_8 : decode c_Model_mip 8 = .ok (.lload_n 1, 1) := by decide +kernel
theorem d_Model_mip_9 : decode c_Model_mip 9 = .ok (.lxor, 1) := by decide +kernel
theorem d_Model_mip_10 : decode c_Model_mip 10 = .ok (.aload_n 0, 1) := by decide +kernel
theorem d_Model_mip_11 : decode c_Model_mip 11 = .ok (.getfield 57, 3) := by decide +kernel
theorem d_Model_mip_14 : decode c_Model_mip 14 = .ok (.lload_n 1, 1) := by decide +kernel
theorem d_Model_mip_15 : decode c_Model_mip 15 = .ok (.lxor, 1) := by decide +kernel
theorem d_Model_mip_16 : decode c_Model_mip 16 = .ok (.lcmp, 1) := by decide +kernel
theorem d_Model_mip_17 : decode c_Model_mip 17 = .ok (.ifCond .lt 7, 3) := by decide +kernel
theorem d_Model_mip_20 : decode c_Model_mip 20 = .ok (.iconst 1, 1) := by decide +kernel
theorem d_Model_mip_21 : decode c_Model_mip 21 = .ok (.goto 4, 3) := by decide +kernel
theorem d_Model_mip_24 : decode c_Model_mip 24 = .ok (.iconst 0, 1) := by decide +kernel
theorem d_Model_mip_25 : decode c_Model_mip 25 = .ok (.istore_n 3, 1) := by decide +kernel
theorem d_Model_mip_26 : decode c_Model_mip 26 = .ok (.iload_n 3, 1) := by decide +kernel
theorem d_Model_mip_27 : decode c_Model_mip 27 = .ok (.ifCond .eq 9, 3) := by decide +kernel
theorem d_Model_mip_30 : decode c_Model_mip 30 = .ok (.sipush 128, 3) := by decide +kernel
theorem d_Model_mip_33 : decode c_Model_mip 33 = .ok (.goto 4, 3) := by decide +kernel
theorem d_Model_mip_36 : decode c_Model_mip 36 = .ok (.iconst 0, 1) := by decide +kernel
theorem d_Model_mip_37 : decode c_Model_mip 37 = .ok (.aload_n 0, 1) := by decide +kernel
theorem d_Model_mip_38 : decode c_Model_mip 38 = .ok (.invokevirtual 206, 3) := by decide +kernel
theorem d_Model_mip_41 : decode c_Model_mip 41 = .ok (.ifCond .le 9, 3) := by decide +kernel
theorem d_Model_mip_44 : decode c_Model_mip 44 = .ok (.sipush 2048, 3) := by decide +kernel
theorem d_Model_mip_47 : decode c_Model_mip 47 = .ok (.goto 4, 3) := by decide +kernel
theorem d_Model_mip_50 : decode c_Model_mip 50 = .ok (.iconst 0, 1) := by decide +kernel
theorem d_Model_mip_51 : decode c_Model_mip 51 = .ok (.iadd, 1) := by decide +kernel
theorem d_Model_mip_52 : decode c_Model_mip 52 = .ok (.ireturn, 1) := by decide +kernel
abbrev c_Model_core : ByteArray := prog_14_method_35_code
def y_Model_core : MethodName := ⟨"CycleChipModel", "core", "()V"⟩
theorem d_Model_core_0 : decode c_Model_core 0 = .ok (.aload_n 0, 1) := by decide +kernel
theorem d_Model_core_1 : decode c_Model_core 1 = .ok (.getfield 178, 3) := by decide +kernel
theorem d_Model_core_4 : decode c_Model_core 4 = .ok (.ifCond .ne 14, 3) := by decide +kernel
theorem d_Model_core_7 : decode c_Model_core 7 = .ok (.aload_n 0, 1) := by decide +kernel
theorem d_Model_core_8 : decode c_Model_core 8 = .ok (.getfield 108, 3) := by decide +kernel
theorem d_Model_core_11 : decode c_Model_core 11 = .ok (.aload_n 0, 1) := by decide +kernel
theorem d_Model_core_12 : decode c_Model_core 12 = .ok (.getfield 32, 3) := by decide +kernel
theorem d_Model_core_15 : decode c_Model_core 15 = .ok (.if_icmp .gt 4, 3) := by decide +kernel
theorem d_Model_core_18 : decode c_Model_core 18 = .ok (.return_, 1) := by decide +kernel
theorem d_Model_core_19 : decode c_Model_core 19 = .ok (.aload_n 0, 1) := by decide +kernel
theorem d_Model_core_20 : decode c_Model_core 20 = .ok (.invokevirtual 210, 3) := by decide +kernel
theorem d_Model_core_23 : decode c_Model_core 23 = .ok (.aload_n 0, 1) := by decide +kernel
theorem d_Model_core_24 : decode c_Model_core 24 = .ok (.getfield 29, 3) := by decide +kernel
theorem d_Model_core_27 : decode c_Model_core 27 = .ok (.iconst 1, 1) := by decide +kernel
theorem d_Model_core_28 : decode c_Model_core 28 = .ok (.iaload, 1) := by decide +kernel
theorem d_Model_core_29 : decode c_Model_core 29 = .ok (.iand, 1) := by decide +kernel
theorem d_Model_core_30 : decode c_Model_core 30 = .ok (.istore_n 1, 1) := by decide +kernel
theorem d_Model_core_31 : decode c_Model_core 31 = .ok (.aload_n 0, 1) := by decide +kernel
theorem d_Model_core_32 : decode c_Model_core 32 = .ok (.getfield 213, 3) := by decide +kernel
theorem d_Model_core_35 : decode c_Model_core 35 = .ok (.ifCond .eq 8, 3) := by decide +kernel
theorem d_Model_core_38 : decode c_Model_core 38 = .ok (.iload_n 1, 1) := by decide +kernel
theorem d_Model_core_39 : decode c_Model_core 39 = .ok (.ifCond .ne 4, 3) := by decide +kernel
theorem d_Model_core_42 : decode c_Model_core 42 = .ok (.return_, 1) := by decide +kernel
theorem d_Model_core_43 : decode c_Model_core 43 = .ok (.aload_n 0, 1) := by decide +kernel
theorem d_Model_core_44 : decode c_Model_core 44 = .ok (.iconst 0, 1) := by decide +kernel
theorem d_Model_core_45 : decode c_Model_core 45 = .ok (.putfield 213, 3) := by decide +kernel
theorem d_Model_core_48 : decode c_Model_core 48 = .ok (.aload_n 0, 1) := by decide +kernel
theorem d_Model_core_49 : decode c_Model_core 49 = .ok (.getfield 29, 3) := by decide +kernel
theorem d_Model_core_52 : decode c_Model_core 52 = .ok (.iconst 0, 1) := by decide +kernel
theorem d_Model_core_53 : decode c_Model_core 53 = .ok (.iaload, 1) := by decide +kernel
theorem d_Model_core_54 : decode c_Model_core 54 = .ok (.bipush 8, 2) := by decide +kernel
theorem d_Model_core_56 : decode c_Model_core 56 = .ok (.iand, 1) := by decide +kernel
theorem d_Model_core_57 : decode c_Model_core 57 = .ok (.ifCond .eq 66, 3) := by decide +kernel
theorem d_Model_core_60 : decode c_Model_core 60 = .ok (.iload_n 1, 1) := by decide +kernel
theorem d_Model_core_61 : decode c_Model_core 61 = .ok (.ifCond .eq 62, 3) := by decide +kernel
theorem d_Model_core_64 : decode c_Model_core 64 = .ok (.iload_n 1, 1) := by decide +kernel
theorem d_Model_core_65 : decode c_Model_core 65 = .ok (.sipush 2048, 3) := by decide +kernel
theorem d_Model_core_68 : decode c_Model_core 68 = .ok (.if_icmp .lt 8, 3) := by decide +kernel
theorem d_Model_core_71 : decode c_Model_core 71 = .ok (.bipush 11, 2) := by decide +kernel
theorem d_Model_core_73 : decode c_Model_core 73 = .ok (.goto 5, 3) := by decide +kernel
theorem d_Model_core_76 : decode c_Model_core 76 = .ok (.bipush 7, 2) := by decide +kernel
theorem d_Model_core_78 : decode c_Model_core 78 = .ok (.istore_n 2, 1) := by decide +kernel
theorem d_Model_core_79 : decode c_Model_core 79 = .ok (.aload_n 0, 1) := by decide +kernel
theorem d_Model_core_80 : decode c_Model_core 80 = .ok (.getfield 29, 3) := by decide +kernel
theorem d_Model_core_83 : decode c_Model_core 83 = .ok (.iconst 2, 1) := by decide +kernel
theorem d_Model_core_84 : decode c_Model_core 84 = .ok (.iaload, 1) := by decide +kernel
theorem d_Model_core_85 : decode c_Model_core 85 = .ok (.bipush (-4), 2) := by decide +kernel
theorem d_Model_core_87 : decode c_Model_core 87 = .ok (.iand, 1) := by decide +kernel
theorem d_Model_core_88 : decode c_Model_core 88 = .ok (.istore_n 3, 1) := by decide +kernel
theorem d_Model_core_89 : decode c_Model_core 89 = .ok (.aload_n 0, 1) := by decide +kernel
theorem d_Model_core_90 : decode c_Model_core 90 = .ok (.iload_n 2, 1) := by decide +kernel
theorem d_Model_core_91 : decode c_Model_core 91 = .ok (.ldc 216, 2) := by decide +kernel
theorem d_Model_core_93 : decode c_Model_core 93 = .ok (.isub, 1) := by decide +kernel
theorem d_Model_core_94 : decode c_Model_core 94 = .ok (.iconst 1, 1) := by decide +kernel
theorem d_Model_core_95 : decode c_Model_core 95 = .ok (.isub, 1) := by decide +kernel
theorem d_Model_core_96 : decode c_Model_core 96 = .ok (.iconst 0, 1) := by decide +kernel
theorem d_Model_core_97 : decode c_Model_core 97 = .ok (.aload_n 0, 1) := by decide +kernel
theorem d_Model_core_98 : decode c_Model_core 98 = .ok (.getfield 29, 3) := by decide +kernel
theorem d_Model_core_101 : decode c_Model_core 101 = .ok (.iconst 2, 1) := by decide +kernel
theorem d_Model_core_102 : decode c_Model_core 102 = .ok (.iaload, 1) := by decide +kernel
theorem d_Model_core_103 : decode c_Model_core 103 = .ok (.iconst 2, 1) := by decide +kernel
theorem d_Model_core_104 : decode c_Model_core 104 = .ok (.irem, 1) := by decide +kernel
theorem d_Model_core_105 : decode c_Model_core 105 = .ok (.ifCond .ne 7, 3) := by decide +kernel
theorem d_Model_core_108 : decode c_Model_core 108 = .ok (.iload_n 3, 1) := by decide +kernel
theorem d_Model_core_109 : decode c_Model_core 109 = .ok (.goto 8, 3) := by decide +kernel
theorem d_Model_core_112 : decode c_Model_core 112 = .ok (.iload_n 3, 1) := by decide +kernel
theorem d_Model_core_113 : decode c_Model_core 113 = .ok (.iconst 4, 1) := by decide +kernel
theorem d_Model_core_114 : decode c_Model_core 114 = .ok (.iload_n 2, 1) := by decide +kernel
theorem d_Model_core_115 : decode c_Model_core 115 = .ok (.imul, 1) := by decide +kernel
theorem d_Model_core_116 : decode c_Model_core 116 = .ok (.iadd, 1) := by decide +kernel
theorem d_Model_core_117 : decode c_Model_core 117 = .ok (.invokevirtual 200, 3) := by decide +kernel
theorem d_Model_core_120 : decode c_Model_core 120 = .ok (.goto 82, 3) := by decide +kernel
theorem d_Model_core_123 : decode c_Model_core 123 = .ok (.aload_n 0, 1) := by decide +kernel
theorem d_Model_core_124 : decode c_Model_core 124 = .ok (.getfield 95, 3) := by decide +kernel
theorem d_Model_core_127 : decode c_Model_core 127 = .ok (.iconst 0, 1) := by decide +kernel
theorem d_Model_core_128 : decode c_Model_core 128 = .ok (.sipush 508, 3) := by decide +kernel
theorem d_Model_core_131 : decode c_Model_core 131 = .ok (.invokestatic 89, 3) := by decide +kernel
theorem d_Model_core_134 : decode c_Model_core 134 = .ok (.ifCond .eq 12, 3) := by decide +kernel
theorem d_Model_core_137 : decode c_Model_core 137 = .ok (.aload_n 0, 1) := by decide +kernel
theorem d_Model_core_138 : decode c_Model_core 138 = .ok (.getfield 95, 3) := by decide +kernel
theorem d_Model_core_141 : decode c_Model_core 141 = .ok (.iconst 4, 1) := by decide +kernel
theorem d_Model_core_142 : decode c_Model_core 142 = .ok (.irem, 1) := by decide +kernel
theorem d_Model_core_143 : decode c_Model_core 143 = .ok (.ifCond .eq 15, 3) := by decide +kernel
theorem d_Model_core_146 : decode c_Model_core 146 = .ok (.aload_n 0, 1) := by decide +kernel
theorem d_Model_core_147 : decode c_Model_core 147 = .ok (.iconst 1, 1) := by decide +kernel
theorem d_Model_core_148 : decode c_Model_core 148 = .ok (.aload_n 0, 1) := by decide +kernel
theorem d_Model_core_149 : decode c_Model_core 149 = .ok (.getfield 95, 3) := by decide +kernel
theorem d_Model_core_152 : decode c_Model_core 152 = .ok (.invokevirtual 217, 3) := by decide +kernel
theorem d_Model_core_155 : decode c_Model_core 155 = .ok (.goto 47, 3) := by decide +kernel
theorem d_Model_core_158 : decode c_Model_core 158 = .ok (.aload_n 0, 1) := by decide +kernel
theorem d_Model_core_159 : decode c_Model_core 159 = .ok (.getfield 19, 3) := by decide +kernel
theorem d_Model_core_162 : decode c_Model_core 162 = .ok (.aload_n 0, 1) := by decide +kernel
theorem d_Model_core_163 : decode c_Model_core 163 = .ok (.getfield 95, 3) := by decide +kernel
theorem d_Model_core_166 : decode c_Model_core 166 = .ok (.iconst 4, 1) := by decide +kernel
theorem d_Model_core_167 : decode c_Model_core 167 = .ok (.idiv, 1) := by decide +kernel
theorem d_Model_core_168 : decode c_Model_core 168 = .ok (.baload, 1) := by decide +kernel
theorem d_Model_core_169 : decode c_Model_core 169 = .ok (.ifCond .ne 18, 3) := by decide +kernel
theorem d_Model_core_172 : decode c_Model_core 172 = .ok (.aload_n 0, 1) := by decide +kernel
theorem d_Model_core_173 : decode c_Model_core 173 = .ok (.iconst 1, 1) := by decide +kernel
theorem d_Model_core_174 : decode c_Model_core 174 = .ok (.aload_n 0, 1) := by decide +kernel
theorem d_Model_core_175 : decode c_Model_core 175 = .ok (.getfield 95, 3) := by decide +kernel
theorem d_Model_core_178 : decode c_Model_core 178 = .ok (.bipush 16, 2) := by decide +kernel
theorem d_Model_core_180 : decode c_Model_core 180 = .ok (.idiv, 1) := by decide +kernel
theorem d_Model_core_181 : decode c_Model_core 181 = .ok (.invokevirtual 220, 3) := by decide +kernel
theorem d_Model_core_184 : decode c_Model_core 184 = .ok (.goto 18, 3) := by decide +kernel
theorem d_Model_core_187 : decode c_Model_core 187 = .ok (.aload_n 0, 1) := by decide +kernel
theorem d_Model_core_188 : decode c_Model_core 188 = .ok (.aload_n 0, 1) := by decide +kernel
theorem d_Model_core_189 : decode c_Model_core 189 = .ok (.getfield 23, 3) := by decide +kernel
theorem d_Model_core_192 : decode c_Model_core 192 = .ok (.aload_n 0, 1) := by decide +kernel
theorem d_Model_core_193 : decode c_Model_core 193 = .ok (.getfield 95, 3) := by decide +kernel
theorem d_Model_core_196 : decode c_Model_core 196 = .ok (.iconst 4, 1) := by decide +kernel
theorem d_Model_core_197 : decode c_Model_core 197 = .ok (.idiv, 1) := by decide +kernel
theorem d_Model_core_198 : decode c_Model_core 198 = .ok (.iaload, 1) := by decide +kernel
theorem d_Model_core_199 : decode c_Model_core 199 = .ok (.invokevirtual 223, 3) := by decide +kernel
theorem d_Model_core_202 : decode c_Model_core 202 = .ok (.return_, 1) := by decide +kernel
abbrev c_Model_instruction : ByteArray := prog_14_method_36_code
def y_Model_instruction : MethodName := ⟨"CycleChipModel", "instruction", "(I)V"⟩
theorem d_Model_instruction_0 : decode c_Model_instruction 0 = .ok (.iload_n 1, 1) := by decide +kernel
theorem d_Model_instruction_1 : decode c_Model_instruction 1 = .ok (.bipush 127, 2) := by decide +kernel
theorem d_Model_instruction_3 : decode c_Model_instruction 3 = .ok (.iand, 1) := by decide +kernel
theorem d_Model_instruction_4 : decode c_Model_instruction 4 = .ok (.istore_n 2, 1) := by decide +kernel
theorem d_Model_instruction_5 : decode c_Model_instruction 5 = .ok (.iload_n 1, 1) := by decide +kernel
theorem d_Model_instruction_6 : decode c_Model_instruction 6 = .ok (.bipush 12, 2) := by decide +kernel
theorem d_Model_instruction_8 : decode c_Model_instruction 8 = .ok (.ishr, 1) := by decide +kernel
theorem d_Model_instruction_9 : decode c_Model_instruction 9 = .ok (.bipush 7, 2) := by decide +kernel
theorem d_Model_instruction_11 : decode c_Model_instruction 11 = .ok (.iand, 1) := by decide +kernel
theorem d_Model_instruction_12 : decode c_Model_instruction 12 = .ok (.istore_n 3, 1) := by decide +kernel
theorem d_Model_instruction_13 : decode c_Model_instruction 13 = .ok (.iload_n 1, 1) := by decide +kernel
theorem d_Model_instruction_14 : decode c_Model_instruction 14 = .ok (.bipush 7, 2) := by decide +kernel
theorem d_Model_instruction_16 : decode c_Model_instruction 16 = .ok (.ishr, 1) := by decide +kernel
theorem d_Model_instruction_17 : decode c_Model_instruction 17 = .ok (.bipush 31, 2) := by decide +kernel
theorem d_Model_instruction_19 : decode c_Model_instruction 19 = .ok (.iand, 1) := by decide +kernel
theorem d_Model_instruction_20 : decode c_Model_instruction 20 = .ok (.istore 4, 2) := by decide +kernel
theorem d_Model_instruction_22 : decode c_Model_instruction 22 = .ok (.aload_n 0, 1) := by decide +kernel
theorem d_Model_instruction_23 : decode c_Model_instruction 23 = .ok (.getfield 26, 3) := by decide +kernel
theorem d_Model_instruction_26 : decode c_Model_instruction 26 = .ok (.iload_n 1, 1) := by decide +kernel
theorem d_Model_instruction_27 : decode c_Model_instruction 27 = .ok (.bipush 15, 2) := by decide +kernel
theorem d_Model_instruction_29 : decode c_Model_instruction 29 = .ok (.ishr, 1) := by decide +kernel
theorem d_Model_instruction_30 : decode c_Model_instruction 30 = .ok (.bipush 31, 2) := by decide +kernel
theorem d_Model_instruction_32 : decode c_Model_instruction 32 = .ok (.iand, 1) := by decide +kernel
theorem d_Model_instruction_33 : decode c_Model_instruction 33 = .ok (.iaload, 1) := by decide +kernel
theorem d_Model_instruction_34 : decode c_Model_instruction 34 = .ok (.istore 5, 2) := by decide +kernel
theorem d_Model_instruction_36 : decode c_Model_instruction 36 = .ok (.aload_n 0, 1) := by decide +kernel
theorem d_Model_instruction_37 : decode c_Model_instruction 37 = .ok (.getfield 26, 3) := by decide +kernel
theorem d_Model_instruction_40 : decode c_Model_instruction 40 = .ok (.iload_n 1, 1) := by decide +kernel
theorem d_Model_instruction_41 : decode c_Model_instruction 41 = .ok (.bipush 20, 2) := by decide +kernel
theorem d_Model_instruction_43 : decode c_Model_instruction 43 = .ok (.ishr, 1) := by decide +kernel
theorem d_Model_instruction_44 : decode c_Model_instruction 44 = .ok (.bipush 31, 2) := by decide +kernel
theorem d_Model_instruction_46 : decode c_Model_instruction 46 = .ok (.iand, 1) := by decide +kernel
theorem d_Model_instruction_47 : decode c_Model_instruction 47 = .ok (.iaload, 1) := by decide +kernel
theorem d_Model_instruction_48 : decode c_Model_instruction 48 = .ok (.istore 6, 2) := by decide +kernel
theorem d_Model_instruction_50 : decode c_Model_instruction 50 = .ok (.iload_n 1, 1) := by decide +kernel
theorem d_Model_instruction_51 : decode c_Model_instruction 51 = .ok (.sipush (-4096), 3) := by decide +kernel
theorem d_Model_instruction_54 : decode c_Model_instruction 54 = .ok (.iand, 1) := by decide +kernel
theorem d_Model_instruction_55 : decode c_Model_instruction 55 = .ok (.istore 7, 2) := by decide +kernel
theorem d_Model_instruction_57 : decode c_Model_instruction 57 = .ok (.iload_n 2, 1) := by decide +kernel
theorem d_Model_instruction_58 : decode c_Model_instruction 58 = .ok (.bipush 55, 2) := by decide +kernel
theorem d_Model_instruction_60 : decode c_Model_instruction 60 = .ok (.if_icmp .ne 14, 3) := by decide +kernel
theorem d_Model_instruction_63 : decode c_Model_instruction 63 = .ok (.aload_n 0, 1) := by decide +kernel
theorem d_Model_instruction_64 : decode c_Model_instruction 64 = .ok (.iload 4, 2) := by decide +kernel
theorem d_Model_instruction_66 : decode c_Model_instruction 66 = .ok (.iload 7, 2) := by decide +kernel
theorem d_Model_instruction_68 : decode c_Model_instruction 68 = .ok (.invokevirtual 226, 3) := by decide +kernel
theorem d_Model_instruction_71 : decode c_Model_instruction 71 = .ok (.goto 286, 3) := by decide +kernel
theorem d_Model_instruction_74 : decode c_Model_instruction 74 = .ok (.iload_n 2, 1) := by decide +kernel
theorem d_Model_instruction_75 : decode c_Model_instruction 75 = .ok (.bipush 23, 2) := by decide +kernel
theorem d_Model_instruction_77 : decode c_Model_instruction 77 = .ok (.if_icmp .ne 19, 3) := by decide +kernel
theorem d_Model_instruction_80 : decode c_Model_instruction 80 = .ok (.aload_n 0, 1) := by decide +kernel
theorem d_Model_instruction_81 : decode c_Model_instruction 81 = .ok (.iload 4, 2) := by decide +kernel
theorem d_Model_instruction_83 : decode c_Model_instruction 83 = .ok (.aload_n 0, 1) := by decide +kernel
theorem d_Model_instruction_84 : decode c_Model_instruction 84 = .ok (.getfield 95, 3) := by decide +kernel
theorem d_Model_instruction_87 : decode c_Model_instruction 87 = .ok (.iload 7, 2) := by decide +kernel
theorem d_Model_instruction_89 : decode c_Model_instruction 89 = .ok (.iadd, 1) := by decide +kernel
theorem d_Model_instruction_90 : decode c_Model_instruction 90 = .ok (.invokevirtual 226, 3) := by decide +kernel
theorem d_Model_instruction_93 : decode c_Model_instruction 93 = .ok (.goto 264, 3) := by decide +kernel
theorem d_Model_instruction_96 : decode c_Model_instruction 96 = .ok (.iload_n 2, 1) := by decide +kernel
theorem d_Model_instruction_97 : decode c_Model_instruction 97 = .ok (.bipush 111, 2) := by decide +kernel
theorem d_Model_instruction_99 : decode c_Model_instruction 99 = .ok (.if_icmp .ne 59, 3) := by decide +kernel
theorem d_Model_instruction_102 : decode c_Model_instruction 102 = .ok (.aload_n 0, 1) := by decide +kernel
theorem d_Model_instruction_103 : decode c_Model_instruction 103 = .ok (.iload 4, 2) := by decide +kernel
theorem d_Model_instruction_105 : decode c_Model_instruction 105 = .ok (.aload_n 0, 1) := by decide +kernel
theorem d_Model_instruction_106 : decode c_Model_instruction 106 = .ok (.getfield 95, 3) := by decide +kernel
theorem d_Model_instruction_109 : decode c_Model_instruction 109 = .ok (.iload_n 1, 1) := by decide +kernel
theorem d_Model_instruction_110 : decode c_Model_instruction 110 = .ok (.bipush 31, 2) := by decide +kernel
theorem d_Model_instruction_112 : decode c_Model_instruction 112 = .ok (.ishr, 1) := by decide +kernel
theorem d_Model_instruction_113 : decode c_Model_instruction 113 = .ok (.ldc 229, 2) := by decide +kernel
theorem d_Model_instruction_115 : decode c_Model_instruction 115 = .ok (.imul, 1) := by decide +kernel
theorem d_Model_instruction_116 : decode c_Model_instruction 116 = .ok (.iadd, 1) := by decide +kernel
theorem d_Model_instruction_117 : decode c_Model_instruction 117 = .ok (.iload_n 1, 1) := by decide +kernel
theorem d_Model_instruction_118 : decode c_Model_instruction 118 = .ok (.bipush 12, 2) := by decide +kernel
theorem d_Model_instruction_120 : decode c_Model_instruction 120 = .ok (.ishr, 1) := by decide +kernel
theorem d_Model_instruction_121 : decode c_Model_instruction 121 = .ok (.sipush 255, 3) := by decide +kernel
theorem d_Model_instruction_124 : decode c_Model_instruction 124 = .ok (.iand, 1) := by decide +kernel
theorem d_Model_instruction_125 : decode c_Model_instruction 125 = .ok (.sipush 4096, 3) := by decide +kernel
theorem d_Model_instruction_128 : decode c_Model_instruction 128 = .ok (.imul, 1) := by decide +kernel
theorem d_Model_instruction_129 : decode c_Model_instruction 129 = .ok (.iadd, 1) := by decide +kernel
theorem d_Model_instruction_130 : decode c_Model_instruction 130 = .ok (.iload_n 1, 1) := by decide +kernel
theorem d_Model_instruction_131 : decode c_Model_instruction 131 = .ok (.bipush 20, 2) := by decide +kernel
theorem d_Model_instruction_133 : decode c_Model_instruction 133 = .ok (.ishr, 1) := by decide +kernel
theorem d_Model_instruction_134 : decode c_Model_instruction 134 = .ok (.iconst 1, 1) := by decide +kernel
theorem d_Model_instruction_135 : decode c_Model_instruction 135 = .ok (.iand, 1) := by decide +kernel
theorem d_Model_instruction_136 : decode c_Model_instruction 136 = .ok (.sipush 2048, 3) := by decide +kernel
theorem d_Model_instruction_139 : decode c_Model_instruction 139 = .ok (.imul, 1) := by decide +kernel
theorem d_Model_instruction_140 : decode c_Model_instruction 140 = .ok (.iadd, 1) := by decide +kernel
theorem d_Model_instruction_141 : decode c_Model_instruction 141 = .ok (.iload_n 1, 1) := by decide +kernel
theorem d_Model_instruction_142 : decode c_Model_instruction 142 = .ok (.bipush 21, 2) := by decide +kernel
theorem d_Model_instruction_144 : decode c_Model_instruction 144 = .ok (.ishr, 1) := by decide +kernel
theorem d_Model_instruction_145 : decode c_Model_instruction 145 = .ok (.sipush 1023, 3) := by decide +kernel
theorem d_Model_instruction_148 : decode c_Model_instruction 148 = .ok (.iand, 1) := by decide +kernel
theorem d_Model_instruction_149 : decode c_Model_instruction 149 = .ok (.iconst 2, 1) := by decide +kernel
theorem d_Model_instruction_150 : decode c_Model_instruction 150 = .ok (.imul, 1) := by decide +kernel
theorem d_Model_instruction_151 : decode c_Model_instruction 151 = .ok (.iadd, 1) := by decide +kernel
theorem d_Model_instruction_152 : decode c_Model_instruction 152 = .ok (.invokevirtual 230, 3) := by decide +kernel
theorem d_Model_instruction_155 : decode c_Model_instruction 155 = .ok (.goto 202, 3) := by decide +kernel
theorem d_Model_instruction_158 : decode c_Model_instruction 158 = .ok (.iload_n 2, 1) := by decide +kernel
theorem d_Model_instruction_159 : decode c_Model_instruction 159 = .ok (.bipush 103, 2) := by decide +kernel
theorem d_Model_instruction_161 : decode c_Model_instruction 161 = .ok (.if_icmp .ne 26, 3) := by decide +kernel
theorem d_Model_instruction_164 : decode c_Model_instruction 164 = .ok (.iload_n 3, 1) := by decide +kernel
theorem d_Model_instruction_165 : decode c_Model_instruction 165 = .ok (.ifCond .ne 22, 3) := by decide +kernel
theorem d_Model_instruction_168 : decode c_Model_instruction 168 = .ok (.aload_n 0, 1) := by decide +kernel
theorem d_Model_instruction_169 : decode c_Model_instruction 169 = .ok (.iload 4, 2) := by decide +kernel
theorem d_Model_instruction_171 : decode c_Model_instruction 171 = .ok (.iload 5, 2) := by decide +kernel
theorem d_Model_instruction_173 : decode c_Model_instruction 173 = .ok (.iload_n 1, 1) := by decide +kernel
theorem d_Model_instruction_174 : decode c_Model_instruction 174 = .ok (.bipush 20, 2) := by decide +kernel
theorem d_Model_instruction_176 : decode c_Model_instruction 176 = .ok (.ishr, 1) := by decide +kernel
theorem d_Model_instruction_177 : decode c_Model_instruction 177 = .ok (.iadd, 1) := by decide +kernel
theorem d_Model_instruction_178 : decode c_Model_instruction 178 = .ok (.bipush (-2), 2) := by decide +kernel
theorem d_Model_instruction_180 : decode c_Model_instruction 180 = .ok (.iand, 1) := by decide +kernel
theorem d_Model_instruction_181 : decode c_Model_instruction 181 = .ok (.invokevirtual 230, 3) := by decide +kernel
theorem d_Model_instruction_184 : decode c_Model_instruction 184 = .ok (.goto 173, 3) := by decide +kernel
theorem d_Model_instruction_187 : decode c_Model_instruction 187 = .ok (.iload_n 2, 1) := by decide +kernel
theorem d_Model_instruction_188 : decode c_Model_instruction 188 = .ok (.bipush 99, 2) := by decide +kernel
theorem d_Model_instruction_190 : decode c_Model_instruction 190 = .ok (.if_icmp .ne 26, 3) := by decide +kernel
theorem d_Model_instruction_193 : decode c_Model_instruction 193 = .ok (.iload_n 3, 1) := by decide +kernel
theorem d_Model_instruction_194 : decode c_Model_instruction 194 = .ok (.iconst 2, 1) := by decide +kernel
theorem d_Model_instruction_195 : decode c_Model_instruction 195 = .ok (.if_icmp .eq 21, 3) := by decide +kernel
theorem d_Model_instruction_198 : decode c_Model_instruction 198 = .ok (.iload_n 3, 1) := by decide +kernel
theorem d_Model_instruction_199 : decode c_Model_instruction 199 = .ok (.iconst 3, 1) := by decide +kernel
theorem d_Model_instruction_200 : decode c_Model_instruction 200 = .ok (.if_icmp .eq 16, 3) := by decide +kernel
theorem d_Model_instruction_203 : decode c_Model_instruction 203 = .ok (.aload_n 0, 1) := by decide +kernel
theorem d_Model_instruction_204 : decode c_Model_instruction 204 = .ok (.iload_n 1, 1) := by decide +kernel
theorem d_Model_instruction_205 : decode c_Model_instruction 205 = .ok (.iload_n 3, 1) := by decide +kernel
theorem d_Model_instruction_206 : decode c_Model_instruction 206 = .ok (.iload 5, 2) := by decide +kernel
theorem d_Model_instruction_208 : decode c_Model_instruction 208 = .ok (.iload 6, 2) := by decide +kernel
theorem d_Model_instruction_210 : decode c_Model_instruction 210 = .ok (.invokevirtual 233, 3) := by decide +kernel
theorem d_Model_instruction_213 : decode c_Model_instruction 213 = .ok (.goto 144, 3) := by decide +kernel
theorem d_Model_instruction_216 : decode c_Model_instruction 216 = .ok (.iload_n 2, 1) := by decide +kernel
theorem d_Model_instruction_217 : decode c_Model_instruction 217 = .ok (.bipush 51, 2) := by decide +kernel
theorem d_Model_instruction_219 : decode c_Model_instruction 219 = .ok (.if_icmp .ne 16, 3) := by decide +kernel
theorem d_Model_instruction_222 : decode c_Model_instruction 222 = .ok (.aload_n 0, 1) := by decide +kernel
theorem d_Model_instruction_223 : decode c_Model_instruction 223 = .ok (.iload_n 1, 1) := by decide +kernel
theorem d_Model_instruction_224 : decode c_Model_instruction 224 = .ok (.iload_n 3, 1) := by decide +kernel
theorem d_Model_instruction_225 : decode c_Model_instruction 225 = .ok (.iload 5, 2) := by decide +kernel
theorem d_Model_instruction_227 : decode c_Model_instruction 227 = .ok (.iload 6, 2) := by decide +kernel
theorem d_Model_instruction_229 : decode c_Model_instruction 229 = .ok (.invokevirtual 237, 3) := by decide +kernel
theorem d_Model_instruction_232 : decode c_Model_instruction 232 = .ok (.goto 125, 3) := by decide +kernel
theorem d_Model_instruction_235 : decode c_Model_instruction 235 = .ok (.iload_n 2, 1) := by decide +kernel
theorem d_Model_instruction_236 : decode c_Model_instruction 236 = .ok (.bipush 19, 2) := by decide +kernel
theorem d_Model_instruction_238 : decode c_Model_instruction 238 = .ok (.if_icmp .ne 14, 3) := by decide +kernel
theorem d_Model_instruction_241 : decode c_Model_instruction 241 = .ok (.aload_n 0, 1) := by decide +kernel
theorem d_Model_instruction_242 : decode c_Model_instruction 242 = .ok (.iload_n 1, 1) := by decide +kernel
theorem d_Model_instruction_243 : decode c_Model_instruction 243 = .ok (.iload_n 3, 1) := by decide +kernel
theorem d_Model_instruction_244 : decode c_Model_instruction 244 = .ok (.iload 5, 2) := by decide +kernel
theorem d_Model_instruction_246 : decode c_Model_instruction 246 = .ok (.invokevirtual 240, 3) := by decide +kernel
theorem d_Model_instruction_249 : decode c_Model_instruction 249 = .ok (.goto 108, 3) := by decide +kernel
theorem d_Model_instruction_252 : decode c_Model_instruction 252 = .ok (.iload_n 2, 1) := by decide +kernel
theorem d_Model_instruction_253 : decode c_Model_instruction 253 = .ok (.iconst 3, 1) := by decide +kernel
theorem d_Model_instruction_254 : decode c_Model_instruction 254 = .ok (.if_icmp .ne 26, 3) := by decide +kernel
theorem d_Model_instruction_257 : decode c_Model_instruction 257 = .ok (.iload_n 3, 1) := by decide +kernel
theorem d_Model_instruction_258 : decode c_Model_instruction 258 = .ok (.iconst 2, 1) := by decide +kernel
theorem d_Model_instruction_259 : decode c_Model_instruction 259 = .ok (.if_icmp .ne 21, 3) := by decide +kernel
theorem d_Model_instruction_262 : decode c_Model_instruction 262 = .ok (.aload_n 0, 1) := by decide +kernel
theorem d_Model_instruction_263 : decode c_Model_instruction 263 = .ok (.iconst 0, 1) := by decide +kernel
theorem d_Model_instruction_264 : decode c_Model_instruction 264 = .ok (.iload 5, 2) := by decide +kernel
theorem d_Model_instruction_266 : decode c_Model_instruction 266 = .ok (.iload_n 1, 1) := by decide +kernel
theorem d_Model_instruction_267 : decode c_Model_instruction 267 = .ok (.bipush 20, 2) := by decide +kernel
theorem d_Model_instruction_269 : decode c_Model_instruction 269 = .ok (.ishr, 1) := by decide +kernel
theorem d_Model_instruction_270 : decode c_Model_instruction 270 = .ok (.iadd, 1) := by decide +kernel
theorem d_Model_instruction_271 : decode c_Model_instruction 271 = .ok (.iload 4, 2) := by decide +kernel
theorem d_Model_instruction_273 : decode c_Model_instruction 273 = .ok (.iconst 0, 1) := by decide +kernel
theorem d_Model_instruction_274 : decode c_Model_instruction 274 = .ok (.invokevirtual 243, 3) := by decide +kernel
theorem d_Model_instruction_277 : decode c_Model_instruction 277 = .ok (.goto 80, 3) := by decide +kernel
theorem d_Model_instruction_280 : decode c_Model_instruction 280 = .ok (.iload_n 2, 1) := by decide +kernel
theorem d_Model_instruction_281 : decode c_Model_instruction 281 = .ok (.bipush 35, 2) := by decide +kernel
theorem d_Model_instruction_283 : decode c_Model_instruction 283 = .ok (.if_icmp .ne 32, 3) := by decide +kernel
theorem d_Model_instruction_286 : decode c_Model_instruction 286 = .ok (.iload_n 3, 1) := by decide +kernel
theorem d_Model_instruction_287 : decode c_Model_instruction 287 = .ok (.iconst 2, 1) := by decide +kernel
theorem d_Model_instruction_288 : decode c_Model_instruction 288 = .ok (.if_icmp .ne 27, 3) := by decide +kernel
theorem d_Model_instruction_291 : decode c_Model_instruction 291 = .ok (.aload_n 0, 1) := by decide +kernel
theorem d_Model_instruction_292 : decode c_Model_instruction 292 = .ok (.iconst 1, 1) := by decide +kernel
theorem d_Model_instruction_293 : decode c_Model_instruction 293 = .ok (.iload 5, 2) := by decide +kernel
theorem d_Model_instruction_295 : decode c_Model_instruction 295 = .ok (.iload_n 1, 1) := by decide +kernel
theorem d_Model_instruction_296 : decode c_Model_instruction 296 = .ok (.bipush 25, 2) := by decide +kernel
theorem d_Model_instruction_298 : decode c_Model_instruction 298 = .ok (.ishr, 1) := by decide +kernel
theorem d_Model_instruction_299 : decode c_Model_instruction 299 = .ok (.bipush 32, 2) := by decide +kernel
theorem d_Model_instruction_301 : decode c_Model_instruction 301 = .ok (.imul, 1) := by decide +kernel
theorem d_Model_instruction_302 : decode c_Model_instruction 302 = .ok (.iadd, 1) := by decide +kernel
theorem d_Model_instruction_303 : decode c_Model_instruction 303 = .ok (.iload 4, 2) := by decide +kernel
theorem d_Model_instruction_305 : decode c_Model_instruction 305 = .ok (.iadd, 1) := by decide +kernel
theorem d_Model_instruction_306 : decode c_Model_instruction 306 = .ok (.iconst 0, 1) := by decide +kernel
theorem d_Model_instruction_307 : decode c_Model_instruction 307 = .ok (.iload 6, 2) := by decide +kernel
theorem d_Model_instruction_309 : decode c_Model_instruction 309 = .ok (.invokevirtual 243, 3) := by decide +kernel
theorem d_Model_instruction_312 : decode c_Model_instruction 312 = .ok (.goto 45, 3) := by decide +kernel
theorem d_Model_instruction_315 : decode c_Model_instruction 315 = .ok (.iload_n 2, 1) := by decide +kernel
theorem d_Model_instruction_316 : decode c_Model_instruction 316 = .ok (.bipush 15, 2) := by decide +kernel
theorem d_Model_instruction_318 : decode c_Model_instruction 318 = .ok (.if_icmp .ne 16, 3) := by decide +kernel
theorem d_Model_instruction_321 : decode c_Model_instruction 321 = .ok (.iload_n 3, 1) := by decide +kernel
theorem d_Model_instruction_322 : decode c_Model_instruction 322 = .ok (.iconst 2, 1) := by decide +kernel
theorem d_Model_instruction_323 : decode c_Model_instruction 323 = .ok (.if_icmp .ge 11, 3) := by decide +kernel
theorem d_Model_instruction_326 : decode c_Model_instruction 326 = .ok (.aload_n 0, 1) := by decide +kernel
theorem d_Model_instruction_327 : decode c_Model_instruction 327 = .ok (.iload_n 3, 1) := by decide +kernel
theorem d_Model_instruction_328 : decode c_Model_instruction 328 = .ok (.invokevirtual 247, 3) := by decide +kernel
theorem d_Model_instruction_331 : decode c_Model_instruction 331 = .ok (.goto 26, 3) := by decide +kernel
theorem d_Model_instruction_334 : decode c_Model_instruction 334 = .ok (.iload_n 2, 1) := by decide +kernel
theorem d_Model_instruction_335 : decode c_Model_instruction 335 = .ok (.bipush 115, 2) := by decide +kernel
theorem d_Model_instruction_337 : decode c_Model_instruction 337 = .ok (.if_icmp .ne 14, 3) := by decide +kernel
theorem d_Model_instruction_340 : decode c_Model_instruction 340 = .ok (.aload_n 0, 1) := by decide +kernel
theorem d_Model_instruction_341 : decode c_Model_instruction 341 = .ok (.iload_n 1, 1) := by decide +kernel
theorem d_Model_instruction_342 : decode c_Model_instruction 342 = .ok (.iload_n 3, 1) := by decide +kernel
theorem d_Model_instruction_343 : decode c_Model_instruction 343 = .ok (.iload 5, 2) := by decide +kernel
theorem d_Model_instruction_345 : decode c_Model_instruction 345 = .ok (.invokevirtual 250, 3) := by decide +kernel
theorem d_Model_instruction_348 : decode c_Model_instruction 348 = .ok (.goto 9, 3) := by decide +kernel
theorem d_Model_instruction_351 : decode c_Model_instruction 351 = .ok (.aload_n 0, 1) := by decide +kernel
theorem d_Model_instruction_352 : decode c_Model_instruction 352 = .ok (.iconst 2, 1) := by decide +kernel
theorem d_Model_instruction_353 : decode c_Model_instruction 353 = .ok (.iload_n 1, 1) := by decide +kernel
theorem d_Model_instruction_354 : decode c_Model_instruction 354 = .ok (.invokevirtual 217, 3) := by decide +kernel
theorem d_Model_instruction_357 : decode c_Model_instruction 357 = .ok (.return_, 1) := by decide +kernel
abbrev c_Model_jump : ByteArray := prog_14_method_37_code
def y_Model_jump : MethodName := ⟨"CycleChipModel", "jump", "(II)V"⟩
theorem d_Model_jump_0 : decode c_Model_jump 0 = .ok (.iload_n 2, 1) := by decide +kernel
theorem d_Model_jump_1 : decode c_Model_jump 1 = .ok (.iconst 2, 1) := by decide +kernel
theorem d_Model_jump_2 : decode c_Model_jump 2 = .ok (.iand, 1) := by decide +kernel
theorem d_Model_jump_3 : decode c_Model_jump 3 = .ok (.ifCond .eq 10, 3) := by decide +kernel
theorem d_Model_jump_6 : decode c_Model_jump 6 = .ok (.aload_n 0, 1) := by decide +kernel
theorem d_Model_jump_7 : decode c_Model_jump 7 = .ok (.iconst 0, 1) := by decide +kernel
theorem d_Model_jump_8 : decode c_Model_jump 8 = .ok (.iload_n 2, 1) := by decide +kernel
theorem d_Model_jump_9 : decode c_Model_jump 9 = .ok (.invokevirtual 217, 3) := by decide +kernel
theorem d_Model_jump_12 : decode c_Model_jump 12 = .ok (.return_, 1) := by decide +kernel
theorem d_Model_jump_13 : decode c_Model_jump 13 = .ok (.iload_n 1, 1) := by decide +kernel
theorem d_Model_jump_14 : decode c_Model_jump 14 = .ok (.ifCond .le 15, 3) := by decide +kernel
theorem d_Model_jump_17 : decode c_Model_jump 17 = .ok (.aload_n 0, 1) := by decide +kernel
theorem d_Model_jump_18 : decode c_Model_jump 18 = .ok (.getfield 26, 3) := by decide +kernel
theorem d_Model_jump_21 : decode c_Model_jump 21 = .ok (.iload_n 1, 1) := by decide +kernel
theorem d_Model_jump_22 : decode c_Model_jump 22 = .ok (.aload_n 0, 1) := by decide +kernel
theorem d_Model_jump_23 : decode c_Model_jump 23 = .ok (.getfield 95, 3) := by decide +kernel
theorem d_Model_jump_26 : decode c_Model_jump 26 = .ok (.iconst 4, 1) := by decide +kernel
theorem d_Model_jump_27 : decode c_Model_jump 27 = .ok (.iadd, 1) := by decide +kernel
theorem d_Model_jump_28 : decode c_Model_jump 28 = .ok (.iastore, 1) := by decide +kernel
theorem d_Model_jump_29 : decode c_Model_jump 29 = .ok (.aload_n 0, 1) := by decide +kernel
theorem d_Model_jump_30 : decode c_Model_jump 30 = .ok (.iload_n 2, 1) := by decide +kernel
theorem d_Model_jump_31 : decode c_Model_jump 31 = .ok (.invokevirtual 196, 3) := by decide +kernel
theorem d_Model_jump_34 : decode c_Model_jump 34 = .ok (.aload_n 0, 1) := by decide +kernel
theorem d_Model_jump_35 : decode c_Model_jump 35 = .ok (.aload_n 0, 1) := by decide +kernel
theorem d_Model_jump_36 : decode c_Model_jump 36 = .ok (.getfield 108, 3) := by decide +kernel
theorem d_Model_jump_39 : decode c_Model_jump 39 = .ok (.iconst 1, 1) := by decide +kernel
theorem d_Model_jump_40 : decode c_Model_jump 40 = .ok (.iadd, 1) := by decide +kernel
theorem d_Model_jump_41 : decode c_Model_jump 41 = .ok (.putfield 32, 3) := by decide +kernel
theorem d_Model_jump_44 : decode c_Model_jump 44 = .ok (.return_, 1) := by decide +kernel
abbrev c_Model_below : ByteArray := prog_14_method_38_code
def y_Model_below : MethodName := ⟨"CycleChipModel", "below", "(II)Z"⟩
theorem d_Model_below_0 : decode c_Model_below 0 = .ok (.iload_n 0, 1) := by decide +kernel
theorem d_Model_below_1 : decode c_Model_below 1 = .ok (.i2l, 1) := by decide +kernel
theorem d_Model_below_2 : decode c_Model_below 2 = .ok (.ldc2_w 93, 3) := by decide +kernel
theorem d_Model_below_5 : decode c_Model_below 5 = .ok (.land, 1) := by decide +kernel
theorem d_Model_below_6 : decode c_Model_below 6 = .ok (.iload_n 1, 1) := by decide +kernel
theorem d_Model_below_7 : decode c_Model_below 7 = .ok (.i2l, 1) := by decide +kernel
theorem d_Model_below_8 : decode c_Model_below 8 = .ok (.ldc2_w 93, 3) := by decide +kernel
theorem d_Model_below_11 : decode c_Model_below 11 = .ok (.land, 1) := by decide +kernel
theorem d_Model_below_12 : decode c_Model_below 12 = .ok (.lcmp, 1) := by decide +kernel
theorem d_Model_below_13 : decode c_Model_below 13 = .ok (.ifCond .ge 7, 3) := by decide +kernel
theorem d_Model_below_16 : decode c_Model_below 16 = .ok (.iconst 1, 1) := by decide +kernel
theorem d_Model_below_17 : decode c_Model_below 17 = .ok (.goto 4, 3) := by decide +kernel
theorem d_Model_below_20 : decode c_Model_below 20 = .ok (.iconst 0, 1) := by decide +kernel
theorem d_Model_below_21 : decode c_Model_below 21 = .ok (.ireturn, 1) := by decide +kernel
abbrev c_Model_branch : ByteArray := prog_14_method_39_code
def y_Model_branch : MethodName := ⟨"CycleChipModel", "branch", "(IIII)V"⟩
theorem d_Model_branch_0 : decode c_Model_branch 0 = .ok (.iload_n 2, 1) := by decide +kernel
theorem d_Model_branch_1 : decode c_Model_branch 1 = .ok (.bipush 6, 2) := by decide +kernel
theorem d_Model_branch_3 : decode c_Model_branch 3 = .ok (.if_icmp .ge 17, 3) := by decide +kernel
theorem d_Model_branch_6 : decode c_Model_branch 6 = .ok (.iload_n 3, 1) := by decide +kernel
theorem d_Model_branch_7 : decode c_Model_branch 7 = .ok (.iload 4, 2) := by decide +kernel
theorem d_Model_branch_9 : decode c_Model_branch 9 = .ok (.if_icmp .ge 7, 3) := by decide +kernel
theorem d_Model_branch_12 : decode c_Model_branch 12 = .ok (.iconst 1, 1) := by decide +kernel
theorem d_Model_branch_13 : decode c_Model_branch 13 = .ok (.goto 13, 3) := by decide +kernel
theorem d_Model_branch_16 : decode c_Model_branch 16 = .ok (.iconst 0, 1) := by decide +kernel
theorem d_Model_branch_17 : decode c_Model_branch 17 = .ok (.goto 9, 3) := by decide +kernel
theorem d_Model_branch_20 : decode c_Model_branch 20 = .ok (.iload_n 3, 1) := by decide +kernel
theorem d_Model_branch_21 : decode c_Model_branch 21 = .ok (.iload 4, 2) := by decide +kernel
theorem d_Model_branch_23 : decode c_Model_branch 23 = .ok (.invokestatic 253, 3) := by decide +kernel
theorem d_Model_branch_26 : decode c_Model_branch 26 = .ok (.istore 5, 2) := by decide +kernel
theorem d_Model_branch_28 : decode c_Model_branch 28 = .ok (.iload_n 2, 1) := by decide +kernel
theorem d_Model_branch_29 : decode c_Model_branch 29 = .ok (.iconst 2, 1) := by decide +kernel
theorem d_Model_branch_30 : decode c_Model_branch 30 = .ok (.if_icmp .ge 17, 3) := by decide +kernel
theorem d_Model_branch_33 : decode c_Model_branch 33 = .ok (.iload_n 3, 1) := by decide +kernel
theorem d_Model_branch_34 : decode c_Model_branch 34 = .ok (.iload 4, 2) := by decide +kernel
theorem d_Model_branch_36 : decode c_Model_branch 36 = .ok (.if_icmp .ne 7, 3) := by decide +kernel
theorem d_Model_branch_39 : decode c_Model_branch 39 = .ok (.iconst 1, 1) := by decide +kernel
theorem d_Model_branch_40 : decode c_Model_branch 40 = .ok (.goto 9, 3) := by decide +kernel
theorem d_Model_branch_43 : decode c_Model_branch 43 = .ok (.iconst 0, 1) := by decide +kernel
theorem d_Model_branch_44 : decode c_Model_branch 44 = .ok (.goto 5, 3) := by decide +kernel
theorem d_Model_branch_47 : decode c_Model_branch 47 = .ok (.iload 5, 2) := by decide +kernel
theorem d_Model_branch_49 : decode c_Model_branch 49 = .ok (.istore 6, 2) := by decide +kernel
theorem d_Model_branch_51 : decode c_Model_branch 51 = .ok (.iload_n 2, 1) := by decide +kernel
theorem d_Model_branch_52 : decode c_Model_branch 52 = .ok (.iconst 2, 1) := by decide +kernel
theorem d_Model_branch_53 : decode c_Model_branch 53 = .ok (.irem, 1) := by decide +kernel
theorem d_Model_branch_54 : decode c_Model_branch 54 = .ok (.ifCond .ne 8, 3) := by decide +kernel
theorem d_Model_branch_57 : decode c_Model_branch 57 = .ok (.iload 6, 2) := by decide +kernel
theorem d_Model_branch_59 : decode c_Model_branch 59 = .ok (.goto 13, 3) := by decide +kernel
theorem d_Model_branch_62 : decode c_Model_branch 62 = .ok (.iload 6, 2) := by decide +kernel
theorem d_Model_branch_64 : decode c_Model_branch 64 = .ok (.ifCond .ne 7, 3) := by decide +kernel
theorem d_Model_branch_67 : decode c_Model_branch 67 = .ok (.iconst 1, 1) := by decide +kernel
theorem d_Model_branch_68 : decode c_Model_branch 68 = .ok (.goto 4, 3) := by decide +kernel
theorem d_Model_branch_71 : decode c_Model_branch 71 = .ok (.iconst 0, 1) := by decide +kernel
theorem d_Model_branch_72 : decode c_Model_branch 72 = .ok (.istore 7, 2) := by decide +kernel
theorem d_Model_branch_74 : decode c_Model_branch 74 = .ok (.iload_n 1, 1) := by decide +kernel
theorem d_Model_branch_75 : decode c_Model_branch 75 = .ok (.bipush 31, 2) := by decide +kernel
theorem d_Model_branch_77 : decode c_Model_branch 77 = .ok (.ishr, 1) := by decide +kernel
theorem d_Model_branch_78 : decode c_Model_branch 78 = .ok (.sipush 4096, 3) := by decide +kernel
theorem d_Model_branch_81 : decode c_Model_branch 81 = .ok (.imul, 1) := by decide +kernel
theorem d_Model_branch_82 : decode c_Model_branch 82 = .ok (.iload_n 1, 1) := by decide +kernel
theorem d_Model_branch_83 : decode c_Model_branch 83 = .ok (.bipush 7, 2) := by decide +kernel
theorem d_Model_branch_85 : decode c_Model_branch 85 = .ok (.ishr, 1) := by decide +kernel
theorem d_Model_branch_86 : decode c_Model_branch 86 = .ok (.iconst 1, 1) := by decide +kernel
theorem d_Model_branch_87 : decode c_Model_branch 87 = .ok (.iand, 1) := by decide +kernel
theorem d_Model_branch_88 : decode c_Model_branch 88 = .ok (.sipush 2048, 3) := by decide +kernel
theorem d_Model_branch_91 : decode c_Model_branch 91 = .ok (.imul, 1) := by decide +kernel
theorem d_Model_branch_92 : decode c_Model_branch 92 = .ok (.iadd, 1) := by decide +kernel
theorem d_Model_branch_93 : decode c_Model_branch 93 = .ok (.iload_n 1, 1) := by decide +kernel
theorem d_Model_branch_94 : decode c_Model_branch 94 = .ok (.bipush 25, 2) := by decide +kernel
theorem d_Model_branch_96 : decode c_Model_branch 96 = .ok (.ishr, 1) := by decide +kernel
theorem d_Model_branch_97 : decode c_Model_branch 97 = .ok (.bipush 63, 2) := by decide +kernel
theorem d_Model_branch_99 : decode c_Model_branch 99 = .ok (.iand, 1) := by decide +kernel
theorem d_Model_branch_100 : decode c_Model_branch 100 = .ok (.bipush 32, 2) := by decide +kernel
theorem d_Model_branch_102 : decode c_Model_branch 102 = .ok (.imul, 1) := by decide +kernel
theorem d_Model_branch_103 : decode c_Model_branch 103 = .ok (.iadd, 1) := by decide +kernel
theorem d_Model_branch_104 : decode c_Model_branch 104 = .ok (.iload_n 1, 1) := by decide +kernel
theorem d_Model_branch_105 : decode c_Model_branch 105 = .ok (.bipush 8, 2) := by decide +kernel
theorem d_Model_branch_107 : decode c_Model_branch 107 = .ok (.ishr, 1) := by decide +kernel
theorem d_Model_branch_108 : decode c_Model_branch 108 = .ok (.bipush 15, 2) := by decide +kernel
theorem d_Model_branch_110 : decode c_Model_branch 110 = .ok (.iand, 1) := by decide +kernel
theorem d_Model_branch_111 : decode c_Model_branch 111 = .ok (.iconst 2, 1) := by decide +kernel
theorem d_Model_branch_112 : decode c_Model_branch 112 = .ok (.imul, 1) := by decide +kernel
theorem d_Model_branch_113 : decode c_Model_branch 113 = .ok (.iadd, 1) := by decide +kernel
theorem d_Model_branch_114 : decode c_Model_branch 114 = .ok (.istore 8, 2) := by decide +kernel
theorem d_Model_branch_116 : decode c_Model_branch 116 = .ok (.iload 7, 2) := by decide +kernel
theorem d_Model_branch_118 : decode c_Model_branch 118 = .ok (.ifCond .eq 18, 3) := by decide +kernel
theorem d_Model_branch_121 : decode c_Model_branch 121 = .ok (.aload_n 0, 1) := by decide +kernel
theorem d_Model_branch_122 : decode c_Model_branch 122 = .ok (.iconst 0, 1) := by decide +kernel
theorem d_Model_branch_123 : decode c_Model_branch 123 = .ok (.aload_n 0, 1) := by decide +kernel
theorem d_Model_branch_124 : decode c_Model_branch 124 = .ok (.getfield 95, 3) := by decide +kernel
theorem d_Model_branch_127 : decode c_Model_branch 127 = .ok (.iload 8, 2) := by decide +kernel
theorem d_Model_branch_129 : decode c_Model_branch 129 = .ok (.iadd, 1) := by decide +kernel
theorem d_Model_branch_130 : decode c_Model_branch 130 = .ok (.invokevirtual 230, 3) := by decide +kernel
theorem d_Model_branch_133 : decode c_Model_branch 133 = .ok (.goto 13, 3) := by decide +kernel
theorem d_Model_branch_136 : decode c_Model_branch 136 = .ok (.aload_n 0, 1) := by decide +kernel
theorem d_Model_branch_137 : decode c_Model_branch 137 = .ok (.aload_n 0, 1) := by decide +kernel
theorem d_Model_branch_138 : decode c_Model_branch 138 = .ok (.getfield 95, 3) := by decide +kernel
theorem d_Model_branch_141 : decode c_Model_branch 141 = .ok (.iconst 4, 1) := by decide +kernel
theorem d_Model_branch_142 : decode c_Model_branch 142 = .ok (.iadd, 1) := by decide +kernel
theorem d_Model_branch_143 : decode c_Model_branch 143 = .ok (.invokevirtual 196, 3) := by decide +kernel
theorem d_Model_branch_146 : decode c_Model_branch 146 = .ok (.return_, 1) := by decide +kernel
abbrev c_Model_simple : ByteArray := prog_14_method_40_code
def y_Model_simple : MethodName := ⟨"CycleChipModel", "simple", "(III)I"⟩
theorem d_Model_simple_0 : decode c_Model_simple 0 = .ok (.iload_n 2, 1) := by decide +kernel
theorem d_Model_simple_1 : decode c_Model_simple 1 = .ok (.bipush 31, 2) := by decide +kernel
theorem d_Model_simple_3 : decode c_Model_simple 3 = .ok (.iand, 1) := by decide +kernel
theorem d_Model_simple_4 : decode c_Model_simple 4 = .ok (.istore_n 3, 1) := by decide +kernel
theorem d_Model_simple_5 : decode c_Model_simple 5 = .ok (.iload_n 0, 1) := by decide +kernel
theorem d_Model_simple_6 : decode c_Model_simple 6 = .ok (.ifCond .ne 9, 3) := by decide +kernel
theorem d_Model_simple_9 : decode c_Model_simple 9 = .ok (.iload_n 1, 1) := by decide +kernel
theorem d_Model_simple_10 : decode c_Model_simple 10 = .ok (.iload_n 2, 1) := by decide +kernel
theorem d_Model_simple_11 : decode c_Model_simple 11 = .ok (.iadd, 1) := by decide +kernel
theorem d_Model_simple_12 : decode c_Model_simple 12 = .ok (.goto 90, 3) := by decide +kernel
theorem d_Model_simple_15 : decode c_Model_simple 15 = .ok (.iload_n 0, 1) := by decide +kernel
theorem d_Model_simple_16 : decode c_Model_simple 16 = .ok (.iconst 1, 1) := by decide +kernel
theorem d_Model_simple_17 : decode c_Model_simple 17 = .ok (.if_icmp .ne 9, 3) := by decide +kernel
theorem d_Model_simple_20 : decode c_Model_simple 20 = .ok (.iload_n 1, 1) := by decide +kernel
theorem d_Model_simple_21 : decode c_Model_simple 21 = .ok (.iload_n 3, 1) := by decide +kernel
theorem d_Model_simple_22 : decode c_Model_simple 22 = .ok (.ishl, 1) := by decide +kernel
theorem d_Model_simple_23 : decode c_Model_simple 23 = .ok (.goto 79, 3) := by decide +kernel
theorem d_Model_simple_26 : decode c_Model_simple 26 = .ok (.iload_n 0, 1) := by decide +kernel
theorem d_Model_simple_27 : decode c_Model_simple 27 = .ok (.iconst 2, 1) := by decide +kernel
theorem d_Model_simple_28 : decode c_Model_simple 28 = .ok (.if_icmp .ne 16, 3) := by decide +kernel
theorem d_Model_simple_31 : decode c_Model_simple 31 = .ok (.iload_n 1, 1) := by decide +kernel
theorem d_Model_simple_32 : decode c_Model_simple 32 = .ok (.iload_n 2, 1) := by decide +kernel
theorem d_Model_simple_33 : decode c_Model_simple 33 = .ok (.if_icmp .ge 7, 3) := by decide +kernel
theorem d_Model_simple_36 : decode c_Model_simple 36 = .ok (.iconst 1, 1) := by decide +kernel
theorem d_Model_simple_37 : decode c_Model_simple 37 = .ok (.goto 65, 3) := by decide +kernel
theorem d_Model_simple_40 : decode c_Model_simple 40 = .ok (.iconst 0, 1) := by decide +kernel
theorem d_Model_simple_41 : decode c_Model_simple 41 = .ok (.goto 61, 3) := by decide +kernel
theorem d_Model_simple_44 : decode c_Model_simple 44 = .ok (.iload_n 0, 1) := by decide +kernel
theorem d_Model_simple_45 : decode c_Model_simple 45 = .ok (.iconst 3, 1) := by decide +kernel
theorem d_Model_simple_46 : decode c_Model_simple 46 = .ok (.if_icmp .ne 19, 3) := by decide +kernel
theorem d_Model_simple_49 : decode c_Model_simple 49 = .ok (.iload_n 1, 1) := by decide +kernel
theorem d_Model_simple_50 : decode c_Model_simple 50 = .ok (.iload_n 2, 1) := by decide +kernel
theorem d_Model_simple_51 : decode c_Model_simple 51 = .ok (.invokestatic 253, 3) := by decide +kernel
theorem d_Model_simple_54 : decode c_Model_simple 54 = .ok (.ifCond .eq 7, 3) := by decide +kernel
theorem d_Model_simple_57 : decode c_Model_simple 57 = .ok (.iconst 1, 1) := by decide +kernel
theorem d_Model_simple_58 : decode c_Model_simple 58 = .ok (.goto 44, 3) := by decide +kernel
theorem d_Model_simple_61 : decode c_Model_simple 61 = .ok (.iconst 0, 1) := by decide +kernel
theorem d_Model_simple_62 : decode c_Model_simple 62 = .ok (.goto 40, 3) := by decide +kernel
theorem d_Model_simple_65 : decode c_Model_simple 65 = .ok (.iload_n 0, 1) := by decide +kernel
theorem d_Model_simple_66 : decode c_Model_simple 66 = .ok (.iconst 4, 1) := by decide +kernel
theorem d_Model_simple_67 : decode c_Model_simple 67 = .ok (.if_icmp .ne 9, 3) := by decide +kernel
theorem d_Model_simple_70 : decode c_Model_simple 70 = .ok (.iload_n 1, 1) := by decide +kernel
theorem d_Model_simple_71 : decode c_Model_simple 71 = .ok (.iload_n 2, 1) := by decide +kernel
theorem d_Model_simple_72 : decode c_Model_simple 72 = .ok (.ixor, 1) := by decide +kernel
theorem d_Model_simple_73 : decode c_Model_simple 73 = .ok (.goto 29, 3) := by decide +kernel
theorem d_Model_simple_76 : decode c_Model_simple 76 = .ok (.iload_n 0, 1) := by decide +kernel
theorem d_Model_simple_77 : decode c_Model_simple 77 = .ok (.iconst 5, 1) := by decide +kernel
theorem d_Model_simple_78 : decode c_Model_simple 78 = .ok (.if_icmp .ne 9, 3) := by decide +kernel
theorem d_Model_simple_81 : decode c_Model_simple 81 = .ok (.iload_n 1, 1) := by decide +kernel
theorem d_Model_simple_82 : decode c_Model_simple 82 = .ok (.iload_n 3, 1) := by decide +kernel
theorem d_Model_simple_83 : decode c_Model_simple 83 = .ok (.iushr, 1) := by decide +kernel
theorem d_Model_simple_84 : decode c_Model_simple 84 = .ok (.goto 18, 3) := by decide +kernel
theorem d_Model_simple_87 : decode c_Model_simple 87 = .ok (.iload_n 0, 1) := by decide +kernel
theorem d_Model_simple_88 : decode c_Model_simple 88 = .ok (.bipush 6, 2) := by decide +kernel
theorem d_Model_simple_90 : decode c_Model_simple 90 = .ok (.if_icmp .ne 9, 3) := by decide +kernel
theorem d_Model_simple_93 : decode c_Model_simple 93 = .ok (.iload_n 1, 1) := by decide +kernel
theorem d_Model_simple_94 : decode c_Model_simple 94 = .ok (.iload_n 2, 1) := by decide +kernel
theorem d_Model_simple_95 : decode c_Model_simple 95 = .ok (.ior, 1) := by decide +kernel
theorem d_Model_simple_96 : decode c_Model_simple 96 = .ok (.goto 6, 3) := by decide +kernel
theorem d_Model_simple_99 : decode c_Model_simple 99 = .ok (.iload_n 1, 1) := by decide +kernel
theorem d_Model_simple_100 : decode c_Model_simple 100 = .ok (.iload_n 2, 1) := by decide +kernel
theorem d_Model_simple_101 : decode c_Model_simple 101 = .ok (.iand, 1) := by decide +kernel
theorem d_Model_simple_102 : decode c_Model_simple 102 = .ok (.ireturn, 1) := by decide +kernel
abbrev c_Model_both : ByteArray := prog_14_method_41_code
def y_Model_both : MethodName := ⟨"CycleChipModel", "both", "(IIII)V"⟩
theorem d_Model_both_0 : decode c_Model_both 0 = .ok (.iload_n 1, 1) := by decide +kernel
theorem d_Model_both_1 : decode c_Model_both 1 = .ok (.bipush 25, 2) := by decide +kernel
theorem d_Model_both_3 : decode c_Model_both 3 = .ok (.iushr, 1) := by decide +kernel
theorem d_Model_both_4 : decode c_Model_both 4 = .ok (.istore 5, 2) := by decide +kernel
theorem d_Model_both_6 : decode c_Model_both 6 = .ok (.iload_n 1, 1) := by decide +kernel
theorem d_Model_both_7 : decode c_Model_both 7 = .ok (.bipush 7, 2) := by decide +kernel
theorem d_Model_both_9 : decode c_Model_both 9 = .ok (.ishr, 1) := by decide +kernel
theorem d_Model_both_10 : decode c_Model_both 10 = .ok (.bipush 31, 2) := by decide +kernel
theorem d_Model_both_12 : decode c_Model_both 12 = .ok (.iand, 1) := by decide +kernel
theorem d_Model_both_13 : decode c_Model_both 13 = .ok (.istore 6, 2) := by decide +kernel
theorem d_Model_both_15 : decode c_Model_both 15 = .ok (.iload 5, 2) := by decide +kernel
theorem d_Model_both_17 : decode c_Model_both 17 = .ok (.ifCond .ne 23, 3) := by decide +kernel
theorem d_Model_both_20 : decode c_Model_both 20 = .ok (.iload_n 2, 1) := by decide +kernel
theorem d_Model_both_21 : decode c_Model_both 21 = .ok (.iload_n 3, 1) := by decide +kernel
theorem d_Model_both_22 : decode c_Model_both 22 = .ok (.iload 4, 2) := by decide +kernel
theorem d_Model_both_24 : decode c_Model_both 24 = .ok (.invokestatic 257, 3) := by decide +kernel
theorem d_Model_both_27 : decode c_Model_both 27 = .ok (.istore 7, 2) := by decide +kernel
theorem d_Model_both_29 : decode c_Model_both 29 = .ok (.aload_n 0, 1) := by decide +kernel
theorem d_Model_both_30 : decode c_Model_both 30 = .ok (.iload 6, 2) := by decide +kernel
theorem d_Model_both_32 : decode c_Model_both 32 = .ok (.iload 7, 2) := by decide +kernel
theorem d_Model_both_34 : decode c_Model_both 34 = .ok (.invokevirtual 226, 3) := by decide +kernel
theorem d_Model_both_37 : decode c_Model_both 37 = .ok (.goto 139, 3) := by decide +kernel
theorem d_Model_both_40 : decode c_Model_both 40 = .ok (.iload 5, 2) := by decide +kernel
theorem d_Model_both_42 : decode c_Model_both 42 = .ok (.bipush 32, 2) := by decide +kernel
theorem d_Model_both_44 : decode c_Model_both 44 = .ok (.if_icmp .ne 20, 3) := by decide +kernel
theorem d_Model_both_47 : decode c_Model_both 47 = .ok (.iload_n 2, 1) := by decide +kernel
theorem d_Model_both_48 : decode c_Model_both 48 = .ok (.ifCond .ne 16, 3) := by decide +kernel
theorem d_Model_both_51 : decode c_Model_both 51 = .ok (.aload_n 0, 1) := by decide +kernel
theorem d_Model_both_52 : decode c_Model_both 52 = .ok (.iload 6, 2) := by decide +kernel
theorem d_Model_both_54 : decode c_Model_both 54 = .ok (.iload_n 3, 1) := by decide +kernel
theorem d_Model_both_55 : decode c_Model_both 55 = .ok (.iload 4, 2) := by decide +kernel
theorem d_Model_both_57 : decode c_Model_both 57 = .ok (.isub, 1) := by decide +kernel
theorem d_Model_both_58 : decode c_Model_both 58 = .ok (.invokevirtual 226, 3) := by decide +kernel
theorem d_Model_both_61 : decode c_Model_both 61 = .ok (.goto 115, 3) := by decide +kernel
theorem d_Model_both_64 : decode c_Model_both 64 = .ok (.iload 5, 2) := by decide +kernel
theorem d_Model_both_66 : decode c_Model_both 66 = .ok (.bipush 32, 2) := by decide +kernel
theorem d_Model_both_68 : decode c_Model_both 68 = .ok (.if_icmp .ne 24, 3) := by decide +kernel
theorem d_Model_both_71 : decode c_Model_both 71 = .ok (.iload_n 2, 1) := by decide +kernel
theorem d_Model_both_72 : decode c_Model_both 72 = .ok (.iconst 5, 1) := by decide +kernel
theorem d_Model_both_73 : decode c_Model_both 73 = .ok (.if_icmp .ne 19, 3) := by decide +kernel
theorem d_Model_both_76 : decode c_Model_both 76 = .ok (.aload_n 0, 1) := by decide +kernel
theorem d_Model_both_77 : decode c_Model_both 77 = .ok (.iload 6, 2) := by decide +kernel
theorem d_Model_both_79 : decode c_Model_both 79 = .ok (.iload_n 3, 1) := by decide +kernel
theorem d_Model_both_80 : decode c_Model_both 80 = .ok (.iload 4, 2) := by decide +kernel
theorem d_Model_both_82 : decode c_Model_both 82 = .ok (.bipush 31, 2) := by decide +kernel
theorem d_Model_both_84 : decode c_Model_both 84 = .ok (.iand, 1) := by decide +kernel
theorem d_Model_both_85 : decode c_Model_both 85 = .ok (.ishr, 1) := by decide +kernel
theorem d_Model_both_86 : decode c_Model_both 86 = .ok (.invokevirtual 226, 3) := by decide +kernel
theorem d_Model_both_89 : decode c_Model_both 89 = .ok (.goto 87, 3) := by decide +kernel
theorem d_Model_both_92 : decode c_Model_both 92 = .ok (.iload 5, 2) := by decide +kernel
theorem d_Model_both_94 : decode c_Model_both 94 = .ok (.iconst 1, 1) := by decide +kernel
theorem d_Model_both_95 : decode c_Model_both 95 = .ok (.if_icmp .ne 38, 3) := by decide +kernel
theorem d_Model_both_98 : decode c_Model_both 98 = .ok (.iload_n 2, 1) := by decide +kernel
theorem d_Model_both_99 : decode c_Model_both 99 = .ok (.iconst 4, 1) := by decide +kernel
theorem d_Model_both_100 : decode c_Model_both 100 = .ok (.if_icmp .ge 33, 3) := by decide +kernel
theorem d_Model_both_103 : decode c_Model_both 103 = .ok (.iload_n 2, 1) := by decide +kernel
theorem d_Model_both_104 : decode c_Model_both 104 = .ok (.iload_n 3, 1) := by decide +kernel
theorem d_Model_both_105 : decode c_Model_both 105 = .ok (.iload 4, 2) := by decide +kernel
theorem d_Model_both_107 : decode c_Model_both 107 = .ok (.invokestatic 261, 3) := by decide +kernel
theorem d_Model_both_110 : decode c_Model_both 110 = .ok (.istore 7, 2) := by decide +kernel
theorem d_Model_both_112 : decode c_Model_both 112 = .ok (.aload_n 0, 1) := by decide +kernel
theorem d_Model_both_113 : decode c_Model_both 113 = .ok (.iload 6, 2) := by decide +kernel
theorem d_Model_both_115 : decode c_Model_both 115 = .ok (.iload 7, 2) := by decide +kernel
theorem d_Model_both_117 : decode c_Model_both 117 = .ok (.invokevirtual 226, 3) := by decide +kernel
theorem d_Model_both_120 : decode c_Model_both 120 = .ok (.aload_n 0, 1) := by decide +kernel
theorem d_Model_both_121 : decode c_Model_both 121 = .ok (.aload_n 0, 1) := by decide +kernel
theorem d_Model_both_122 : decode c_Model_both 122 = .ok (.getfield 108, 3) := by decide +kernel
theorem d_Model_both_125 : decode c_Model_both 125 = .ok (.iconst 1, 1) := by decide +kernel
theorem d_Model_both_126 : decode c_Model_both 126 = .ok (.iadd, 1) := by decide +kernel
theorem d_Model_both_127 : decode c_Model_both 127 = .ok (.putfield 32, 3) := by decide +kernel
theorem d_Model_both_130 : decode c_Model_both 130 = .ok (.goto 46, 3) := by decide +kernel
theorem d_Model_both_133 : decode c_Model_both 133 = .ok (.iload 5, 2) := by decide +kernel
theorem d_Model_both_135 : decode c_Model_both 135 = .ok (.iconst 1, 1) := by decide +kernel
theorem d_Model_both_136 : decode c_Model_both 136 = .ok (.if_icmp .ne 34, 3) := by decide +kernel
theorem d_Model_both_139 : decode c_Model_both 139 = .ok (.iload_n 2, 1) := by decide +kernel
theorem d_Model_both_140 : decode c_Model_both 140 = .ok (.iload_n 3, 1) := by decide +kernel
theorem d_Model_both_141 : decode c_Model_both 141 = .ok (.iload 4, 2) := by decide +kernel
theorem d_Model_both_143 : decode c_Model_both 143 = .ok (.invokestatic 264, 3) := by decide +kernel
theorem d_Model_both_146 : decode c_Model_both 146 = .ok (.istore 7, 2) := by decide +kernel
theorem d_Model_both_148 : decode c_Model_both 148 = .ok (.aload_n 0, 1) := by decide +kernel
theorem d_Model_both_149 : decode c_Model_both 149 = .ok (.iload 6, 2) := by decide +kernel
theorem d_Model_both_151 : decode c_Model_both 151 = .ok (.iload 7, 2) := by decide +kernel
theorem d_Model_both_153 : decode c_Model_both 153 = .ok (.invokevirtual 226, 3) := by decide +kernel
theorem d_Model_both_156 : decode c_Model_both 156 = .ok (.aload_n 0, 1) := by decide +kernel
theorem d_Model_both_157 : decode c_Model_both 157 = .ok (.aload_n 0, 1) := by decide +kernel
theorem d_Model_both_158 : decode c_Model_both 158 = .ok (.getfield 108, 3) := by decide +kernel
theorem d_Model_both_161 : decode c_Model_both 161 = .ok (.bipush 7, 2) := by decide +kernel
theorem d_Model_both_163 : decode c_Model_both 163 = .ok (.iadd, 1) := by decide +kernel
theorem d_Model_both_164 : decode c_Model_both 164 = .ok (.putfield 32, 3) := by decide +kernel
theorem d_Model_both_167 : decode c_Model_both 167 = .ok (.goto 9, 3) := by decide +kernel
theorem d_Model_both_170 : decode c_Model_both 170 = .ok (.aload_n 0, 1) := by decide +kernel
theorem d_Model_both_171 : decode c_Model_both 171 = .ok (.iconst 2, 1) := by decide +kernel
theorem d_Model_both_172 : decode c_Model_both 172 = .ok (.iload_n 1, 1) := by decide +kernel
theorem d_Model_both_173 : decode c_Model_both 173 = .ok (.invokevirtual 217, 3) := by decide +kernel
theorem d_Model_both_176 : decode c_Model_both 176 = .ok (.return_, 1) := by decide +kernel
abbrev c_Model_product : ByteArray := prog_14_method_42_code
def y_Model_product : MethodName := ⟨"CycleChipModel", "product", "(III)I"⟩
theorem d_Model_product_0 : decode c_Model_product 0 = .ok (.iload_n 0, 1) := by decide +kernel
theorem d_Model_product_1 : decode c_Model_product 1 = .ok (.iconst 3, 1) := by decide +kernel
theorem d_Model_product_2 : decode c_Model_product 2 = .ok (.if_icmp .ne 12, 3) := by decide +kernel
theorem d_Model_product_5 : decode c_Model_product 5 = .ok (.iload_n 1, 1) := by decide +kernel
theorem d_Model_product_6 : decode c_Model_product 6 = .ok (.i2l, 1) := by decide +kernel
theorem d_Model_product_7 : decode c_Model_product 7 = .ok (.ldc2_w 93, 3) := by decide +kernel
theorem d_Model_product_10 : decode c_Model_product 10 = .ok (.land, 1) := by decide +kernel
theorem d_Model_product_11 : decode c_Model_product 11 = .ok (.goto 5, 3) := by decide +kernel
theorem d_Model_product_14 : decode c_Model_product 14 = .ok (.iload_n 1, 1) := by decide +kernel
theorem d_Model_product_15 : decode c_Model_product 15 = .ok (.i2l, 1) := by decide +kernel
theorem d_Model_product_16 : decode c_Model_product 16 = .ok (.lstore_n 3, 1) := by decide +kernel
theorem d_Model_product_17 : decode c_Model_product 17 = .ok (.iload_n 0, 1) := by decide +kernel
theorem d_Model_product_18 : decode c_Model_product 18 = .ok (.iconst 2, 1) := by decide +kernel
theorem d_Model_product_19 : decode c_Model_product 19 = .ok (.if_icmp .lt 12, 3) := by decide +kernel
theorem d_Model_product_22 : decode c_Model_product 22 = .ok (.iload_n 2, 1) := by decide +kernel
theorem d_Model_product_23 : decode c_Model_product 23 = .ok (.i2l, 1) := by decide +kernel
theorem d_Model_product_24 : decode c_Model_product 24 = .ok (.ldc2_w 93, 3) := by decide +kernel
theorem d_Model_product_27 : decode c_Model_product 27 = .ok (.land, 1) := by decide +kernel
theorem d_Model_product_28 : decode c_Model_product 28 = .ok (.goto 5, 3) := by decide +kernel
theorem d_Model_product_31 : decode c_Model_product 31 = .ok (.iload_n 2, 1) := by decide +kernel
theorem d_Model_product_32 : decode c_Model_product 32 = .ok (.i2l, 1) := by decide +kernel
theorem d_Model_product_33 : decode c_Model_product 33 = .ok (.lstore 5, 2) := by decide +kernel
theorem d_Model_product_35 : decode c_Model_product 35 = .ok (.iload_n 0, 1) := by decide +kernel
theorem d_Model_product_36 : decode c_Model_product 36 = .ok (.ifCond .ne 9, 3) := by decide +kernel
theorem d_Model_product_39 : decode c_Model_product 39 = .ok (.iload_n 1, 1) := by decide +kernel
theorem d_Model_product_40 : decode c_Model_product 40 = .ok (.iload_n 2, 1) := by decide +kernel
theorem d_Model_product_41 : decode c_Model_product 41 = .ok (.imul, 1) := by decide +kernel
theorem d_Model_product_42 : decode c_Model_product 42 = .ok (.goto 11, 3) := by decide +kernel
theorem d_Model_product_45 : decode c_Model_product 45 = .ok (.lload_n 3, 1) := by decide +kernel
theorem d_Model_product_46 : decode c_Model_product 46 = .ok (.lload 5, 2) := by decide +kernel
theorem d_Model_product_48 : decode c_Model_product 48 = .ok (.lmul, 1) := by decide +kernel
theorem d_Model_product_49 : decode c_Model_product 49 = .ok (.bipush 32, 2) := by decide +kernel
theorem d_Model_product_51 : decode c_Model_product 51 = .ok (.lshr, 1) := by decide +kernel
theorem d_Model_product_52 : decode c_Model_product 52 = .ok (.l2i, 1) := by decide +kernel
theorem d_Model_product_53 : decode c_Model_product 53 = .ok (.ireturn, 1) := by decide +kernel
abbrev c_Model_divided : ByteArray := prog_14_method_43_code
def y_Model_divided : MethodName := ⟨"CycleChipModel", "divided", "(III)I"⟩
theorem d_Model_divided_0 : decode c_Model_divided 0 = .ok (.iload_n 0, 1) := by decide +kernel
theorem d_Model_divided_1 : decode c_Model_divided 1 = .ok (.iconst 2, 1) := by decide +kernel
theorem d_Model_divided_2 : decode c_Model_divided 2 = .ok (.irem, 1) := by decide +kernel
theorem d_Model_divided_3 : decode c_Model_divided 3 = .ok (.iconst 1, 1) := by decide +kernel
theorem d_Model_divided_4 : decode c_Model_divided 4 = .ok (.if_icmp .ne 12, 3) := by decide +kernel
theorem d_Model_divided_7 : decode c_Model_divided 7 = .ok (.iload_n 1, 1) := by decide +kernel
theorem d_Model_divided_8 : decode c_Model_divided 8 = .ok (.i2l, 1) := by decide +kernel
theorem d_Model_divided_9 : decode c_Model_divided 9 = .ok (.ldc2_w 93, 3) := by decide +kernel
theorem d_Model_divided_12 : decode c_Model_divided 12 = .ok (.land, 1) := by decide +kernel
theorem d_Model_divided_13 : decode c_Model_divided 13 = .ok (.goto 5, 3) := by decide +kernel
theorem d_Model_divided_16 : decode c_Model_divided 16 = .ok (.iload_n 1, 1) := by decide +kernel
theorem d_Model_divided_17 : decode c_Model_divided 17 = .ok (.i2l, 1) := by decide +kernel
theorem d_Model_divided_18 : decode c_Model_divided 18 = .ok (.lstore_n 3, 1) := by decide +kernel
theorem d_Model_divided_19 : decode c_Model_divided 19 = .ok (.iload_n 0, 1) := by decide +kernel
theorem d_Model_divided_20 : decode c_Model_divided 20 = .ok (.iconst 2, 1) := by decide +kernel
theorem d_Model_divided_21 : decode c_Model_divided 21 = .ok (.irem, 1) := by decide +kernel
theorem d_Model_divided_22 : decode c_Model_divided 22 = .ok (.iconst 1, 1) := by decide +kernel
theorem d_Model_divided_23 : decode c_Model_divided 23 = .ok (.if_icmp .ne 12, 3) := by decide +kernel
theorem d_Model_divided_26 : decode c_Model_divided 26 = .ok (.iload_n 2, 1) := by decide +kernel
theorem d_Model_divided_27 : decode c_Model_divided 27 = .ok (.i2l, 1) := by decide +kernel
theorem d_Model_divided_28 : decode c_Model_divided 28 = .ok (.ldc2_w 93, 3) := by decide +kernel
theorem d_Model_divided_31 : decode c_Model_divided 31 = .ok (.land, 1) := by decide +kernel
theorem d_Model_divided_32 : decode c_Model_divided 32 = .ok (.goto 5, 3) := by decide +kernel
theorem d_Model_divided_35 : decode c_Model_divided 35 = .ok (.iload_n 2, 1) := by decide +kernel
theorem d_Model_divided_36 : decode c_Model_divided 36 = .ok (.i2l, 1) := by decide +kernel
theorem d_Model_divided_37 : decode c_Model_divided 37 = .ok (.lstore 5, 2) := by decide +kernel
theorem d_Model_divided_39 : decode c_Model_divided 39 = .ok (.lload 5, 2) := by decide +kernel
theorem d_Model_divided_41 : decode c_Model_divided 41 = .ok (.lconst 0, 1) := by decide +kernel
theorem d_Model_divided_42 : decode c_Model_divided 42 = .ok (.lcmp, 1) := by decide +kernel
theorem d_Model_divided_43 : decode c_Model_divided 43 = .ok (.ifCond .ne 15, 3) := by decide +kernel
theorem d_Model_divided_46 : decode c_Model_divided 46 = .ok (.iload_n 0, 1) := by decide +kernel
theorem d_Model_divided_47 : decode c_Model_divided 47 = .ok (.bipush 6, 2) := by decide +kernel
theorem d_Model_divided_49 : decode c_Model_divided 49 = .ok (.if_icmp .ge 7, 3) := by decide +kernel
theorem d_Model_divided_52 : decode c_Model_divided 52 = .ok (.iconst (-1), 1) := by decide +kernel
theorem d_Model_divided_53 : decode c_Model_divided 53 = .ok (.goto 4, 3) := by decide +kernel
theorem d_Model_divided_56 : decode c_Model_divided 56 = .ok (.iload_n 1, 1) := by decide +kernel
theorem d_Model_divided_57 : decode c_Model_divided 57 = .ok (.ireturn, 1) := by decide +kernel
theorem d_Model_divided_58 : decode c_Model_divided 58 = .ok (.iload_n 0, 1) := by decide +kernel
theorem d_Model_divided_59 : decode c_Model_divided 59 = .ok (.bipush 6, 2) := by decide +kernel
theorem d_Model_divided_61 : decode c_Model_divided 61 = .ok (.if_icmp .ge 10, 3) := by decide +kernel
theorem d_Model_divided_64 : decode c_Model_divided 64 = .ok (.lload_n 3, 1) := by decide +kernel
theorem d_Model_divided_65 : decode c_Model_divided 65 = .ok (.lload 5, 2) := by decide +kernel
theorem d_Model_divided_67 : decode c_Model_divided 67 = .ok (.ldiv, 1) := by decide +kernel
theorem d_Model_divided_68 : decode c_Model_divided 68 = .ok (.goto 7, 3) := by decide +kernel
theorem d_Model_divided_71 : decode c_Model_divided 71 = .ok (.lload_n 3, 1) := by decide +kernel
theorem d_Model_divided_72 : decode c_Model_divided 72 = .ok (.lload 5, 2) := by decide +kernel
theorem d_Model_divided_74 : decode c_Model_divided 74 = .ok (.lrem, 1) := by decide +kernel
theorem d_Model_divided_75 : decode c_Model_divided 75 = .ok (.l2i, 1) := by decide +kernel
theorem d_Model_divided_76 : decode c_Model_divided 76 = .ok (.ireturn, 1) := by decide +kernel
abbrev c_Model_one : ByteArray := prog_14_method_44_code
def y_Model_one : MethodName := ⟨"CycleChipModel", "one", "(III)V"⟩
theorem d_Model_one_0 : decode c_Model_one 0 = .ok (.iload_n 1, 1) := by decide +kernel
theorem d_Model_one_1 : decode c_Model_one 1 = .ok (.bipush 25, 2) := by decide +kernel
theorem d_Model_one_3 : decode c_Model_one 3 = .ok (.iushr, 1) := by decide +kernel
theorem d_Model_one_4 : decode c_Model_one 4 = .ok (.istore 4, 2) := by decide +kernel
theorem d_Model_one_6 : decode c_Model_one 6 = .ok (.iload_n 1, 1) := by decide +kernel
theorem d_Model_one_7 : decode c_Model_one 7 = .ok (.bipush 20, 2) := by decide +kernel
theorem d_Model_one_9 : decode c_Model_one 9 = .ok (.ishr, 1) := by decide +kernel
theorem d_Model_one_10 : decode c_Model_one 10 = .ok (.istore 5, 2) := by decide +kernel
theorem d_Model_one_12 : decode c_Model_one 12 = .ok (.iload_n 1, 1) := by decide +kernel
theorem d_Model_one_13 : decode c_Model_one 13 = .ok (.bipush 7, 2) := by decide +kernel
theorem d_Model_one_15 : decode c_Model_one 15 = .ok (.ishr, 1) := by decide +kernel
theorem d_Model_one_16 : decode c_Model_one 16 = .ok (.bipush 31, 2) := by decide +kernel
theorem d_Model_one_18 : decode c_Model_one 18 = .ok (.iand, 1) := by decide +kernel
theorem d_Model_one_19 : decode c_Model_one 19 = .ok (.istore 6, 2) := by decide +kernel
theorem d_Model_one_21 : decode c_Model_one 21 = .ok (.iload_n 2, 1) := by decide +kernel
theorem d_Model_one_22 : decode c_Model_one 22 = .ok (.iconst 5, 1) := by decide +kernel
theorem d_Model_one_23 : decode c_Model_one 23 = .ok (.if_icmp .ne 26, 3) := by decide +kernel
theorem d_Model_one_26 : decode c_Model_one 26 = .ok (.iload 4, 2) := by decide +kernel
theorem d_Model_one_28 : decode c_Model_one 28 = .ok (.bipush 32, 2) := by decide +kernel
theorem d_Model_one_30 : decode c_Model_one 30 = .ok (.if_icmp .ne 19, 3) := by decide +kernel
theorem d_Model_one_33 : decode c_Model_one 33 = .ok (.aload_n 0, 1) := by decide +kernel
theorem d_Model_one_34 : decode c_Model_one 34 = .ok (.iload 6, 2) := by decide +kernel
theorem d_Model_one_36 : decode c_Model_one 36 = .ok (.iload_n 3, 1) := by decide +kernel
theorem d_Model_one_37 : decode c_Model_one 37 = .ok (.iload 5, 2) := by decide +kernel
theorem d_Model_one_39 : decode c_Model_one 39 = .ok (.bipush 31, 2) := by decide +kernel
theorem d_Model_one_41 : decode c_Model_one 41 = .ok (.iand, 1) := by decide +kernel
theorem d_Model_one_42 : decode c_Model_one 42 = .ok (.ishr, 1) := by decide +kernel
theorem d_Model_one_43 : decode c_Model_one 43 = .ok (.invokevirtual 226, 3) := by decide +kernel
theorem d_Model_one_46 : decode c_Model_one 46 = .ok (.goto 44, 3) := by decide +kernel
theorem d_Model_one_49 : decode c_Model_one 49 = .ok (.iload_n 2, 1) := by decide +kernel
theorem d_Model_one_50 : decode c_Model_one 50 = .ok (.iconst 1, 1) := by decide +kernel
theorem d_Model_one_51 : decode c_Model_one 51 = .ok (.if_icmp .eq 8, 3) := by decide +kernel
theorem d_Model_one_54 : decode c_Model_one 54 = .ok (.iload_n 2, 1) := by decide +kernel
theorem d_Model_one_55 : decode c_Model_one 55 = .ok (.iconst 5, 1) := by decide +kernel
theorem d_Model_one_56 : decode c_Model_one 56 = .ok (.if_icmp .ne 17, 3) := by decide +kernel
theorem d_Model_one_59 : decode c_Model_one 59 = .ok (.iload 4, 2) := by decide +kernel
theorem d_Model_one_61 : decode c_Model_one 61 = .ok (.ifCond .eq 12, 3) := by decide +kernel
theorem d_Model_one_64 : decode c_Model_one 64 = .ok (.aload_n 0, 1) := by decide +kernel
theorem d_Model_one_65 : decode c_Model_one 65 = .ok (.iconst 2, 1) := by decide +kernel
theorem d_Model_one_66 : decode c_Model_one 66 = .ok (.iload_n 1, 1) := by decide +kernel
theorem d_Model_one_67 : decode c_Model_one 67 = .ok (.invokevirtual 217, 3) := by decide +kernel
theorem d_Model_one_70 : decode c_Model_one 70 = .ok (.goto 20, 3) := by decide +kernel
theorem d_Model_one_73 : decode c_Model_one 73 = .ok (.iload_n 2, 1) := by decide +kernel
theorem d_Model_one_74 : decode c_Model_one 74 = .ok (.iload_n 3, 1) := by decide +kernel
theorem d_Model_one_75 : decode c_Model_one 75 = .ok (.iload 5, 2) := by decide +kernel
theorem d_Model_one_77 : decode c_Model_one 77 = .ok (.invokestatic 257, 3) := by decide +kernel
theorem d_Model_one_80 : decode c_Model_one 80 = .ok (.istore 7, 2) := by decide +kernel
theorem d_Model_one_82 : decode c_Model_one 82 = .ok (.aload_n 0, 1) := by decide +kernel
theorem d_Model_one_83 : decode c_Model_one 83 = .ok (.iload 6, 2) := by decide +kernel
theorem d_Model_one_85 : decode c_Model_one 85 = .ok (.iload 7, 2) := by decide +kernel
theorem d_Model_one_87 : decode c_Model_one 87 = .ok (.invokevirtual 226, 3) := by decide +kernel
theorem d_Model_one_90 : decode c_Model_one 90 = .ok (.return_, 1) := by decide +kernel
abbrev c_Model_access : ByteArray := prog_14_method_45_code
def y_Model_access : MethodName := ⟨"CycleChipModel", "access", "(ZIII)V"⟩
theorem d_Model_access_0 : decode c_Model_access 0 = .ok (.iload_n 2, 1) := by decide +kernel
theorem d_Model_access_1 : decode c_Model_access 1 = .ok (.iconst 0, 1) := by decide +kernel
theorem d_Model_access_2 : decode c_Model_access 2 = .ok (.sipush 511, 3) := by decide +kernel
theorem d_Model_access_5 : decode c_Model_access 5 = .ok (.invokestatic 89, 3) := by decide +kernel
theorem d_Model_access_8 : decode c_Model_access 8 = .ok (.istore 5, 2) := by decide +kernel
theorem d_Model_access_10 : decode c_Model_access 10 = .ok (.iload_n 2, 1) := by decide +kernel
theorem d_Model_access_11 : decode c_Model_access 11 = .ok (.sipush 4096, 3) := by decide +kernel
theorem d_Model_access_14 : decode c_Model_access 14 = .ok (.sipush 4159, 3) := by decide +kernel
theorem d_Model_access_17 : decode c_Model_access 17 = .ok (.invokestatic 89, 3) := by decide +kernel
theorem d_Model_access_20 : decode c_Model_access 20 = .ok (.istore 6, 2) := by decide +kernel
theorem d_Model_access_22 : decode c_Model_access 22 = .ok (.iload_n 2, 1) := by decide +kernel
theorem d_Model_access_23 : decode c_Model_access 23 = .ok (.iconst 4, 1) := by decide +kernel
theorem d_Model_access_24 : decode c_Model_access 24 = .ok (.irem, 1) := by decide +kernel
theorem d_Model_access_25 : decode c_Model_access 25 = .ok (.ifCond .eq 21, 3) := by decide +kernel
theorem d_Model_access_28 : decode c_Model_access 28 = .ok (.aload_n 0, 1) := by decide +kernel
theorem d_Model_access_29 : decode c_Model_access 29 = .ok (.iload_n 1, 1) := by decide +kernel
theorem d_Model_access_30 : decode c_Model_access 30 = .ok (.ifCond .eq 8, 3) := by decide +kernel
theorem d_Model_access_33 : decode c_Model_access 33 = .ok (.bipush 6, 2) := by decide +kernel
theorem d_Model_access_35 : decode c_Model_access 35 = .ok (.goto 4, 3) := by decide +kernel
theorem d_Model_access_38 : decode c_Model_access 38 = .ok (.iconst 4, 1) := by decide +kernel
theorem d_Model_access_39 : decode c_Model_access 39 = .ok (.iload_n 2, 1) := by decide +kernel
theorem d_Model_access_40 : decode c_Model_access 40 = .ok (.invokevirtual 217, 3) := by decide +kernel
theorem d_Model_access_43 : decode c_Model_access 43 = .ok (.goto 147, 3) := by decide +kernel
theorem d_Model_access_46 : decode c_Model_access 46 = .ok (.iload 5, 2) := by decide +kernel
theorem d_Model_access_48 : decode c_Model_access 48 = .ok (.ifCond .ne 26, 3) := by decide +kernel
theorem d_Model_access_51 : decode c_Model_access 51 = .ok (.iload 6, 2) := by decide +kernel
theorem d_Model_access_53 : decode c_Model_access 53 = .ok (.ifCond .ne 21, 3) := by decide +kernel
theorem d_Model_access_56 : decode c_Model_access 56 = .ok (.aload_n 0, 1) := by decide +kernel
theorem d_Model_access_57 : decode c_Model_access 57 = .ok (.iload_n 1, 1) := by decide +kernel
theorem d_Model_access_58 : decode c_Model_access 58 = .ok (.ifCond .eq 8, 3) := by decide +kernel
theorem d_Model_access_61 : decode c_Model_access 61 = .ok (.bipush 7, 2) := by decide +kernel
theorem d_Model_access_63 : decode c_Model_access 63 = .ok (.goto 4, 3) := by decide +kernel
theorem d_Model_access_66 : decode c_Model_access 66 = .ok (.iconst 5, 1) := by decide +kernel
theorem d_Model_access_67 : decode c_Model_access 67 = .ok (.iload_n 2, 1) := by decide +kernel
theorem d_Model_access_68 : decode c_Model_access 68 = .ok (.invokevirtual 217, 3) := by decide +kernel
theorem d_Model_access_71 : decode c_Model_access 71 = .ok (.goto 119, 3) := by decide +kernel
theorem d_Model_access_74 : decode c_Model_access 74 = .ok (.iload 6, 2) := by decide +kernel
theorem d_Model_access_76 : decode c_Model_access 76 = .ok (.ifCond .eq 47, 3) := by decide +kernel
theorem d_Model_access_79 : decode c_Model_access 79 = .ok (.aload_n 0, 1) := by decide +kernel
theorem d_Model_access_80 : decode c_Model_access 80 = .ok (.getfield 144, 3) := by decide +kernel
theorem d_Model_access_83 : decode c_Model_access 83 = .ok (.ifCond .le 4, 3) := by decide +kernel
theorem d_Model_access_86 : decode c_Model_access 86 = .ok (.return_, 1) := by decide +kernel
theorem d_Model_access_87 : decode c_Model_access 87 = .ok (.aload_n 0, 1) := by decide +kernel
theorem d_Model_access_88 : decode c_Model_access 88 = .ok (.iconst 3, 1) := by decide +kernel
theorem d_Model_access_89 : decode c_Model_access 89 = .ok (.iconst 0, 1) := by decide +kernel
theorem d_Model_access_90 : decode c_Model_access 90 = .ok (.invokevirtual 220, 3) := by decide +kernel
theorem d_Model_access_93 : decode c_Model_access 93 = .ok (.aload_n 0, 1) := by decide +kernel
theorem d_Model_access_94 : decode c_Model_access 94 = .ok (.iload_n 2, 1) := by decide +kernel
theorem d_Model_access_95 : decode c_Model_access 95 = .ok (.iconst 4, 1) := by decide +kernel
theorem d_Model_access_96 : decode c_Model_access 96 = .ok (.idiv, 1) := by decide +kernel
theorem d_Model_access_97 : decode c_Model_access 97 = .ok (.sipush 1024, 3) := by decide +kernel
theorem d_Model_access_100 : decode c_Model_access 100 = .ok (.isub, 1) := by decide +kernel
theorem d_Model_access_101 : decode c_Model_access 101 = .ok (.putfield 267, 3) := by decide +kernel
theorem d_Model_access_104 : decode c_Model_access 104 = .ok (.aload_n 0, 1) := by decide +kernel
theorem d_Model_access_105 : decode c_Model_access 105 = .ok (.iload_n 1, 1) := by decide +kernel
theorem d_Model_access_106 : decode c_Model_access 106 = .ok (.putfield 270, 3) := by decide +kernel
theorem d_Model_access_109 : decode c_Model_access 109 = .ok (.aload_n 0, 1) := by decide +kernel
theorem d_Model_access_110 : decode c_Model_access 110 = .ok (.iload 4, 2) := by decide +kernel
theorem d_Model_access_112 : decode c_Model_access 112 = .ok (.putfield 273, 3) := by decide +kernel
theorem d_Model_access_115 : decode c_Model_access 115 = .ok (.aload_n 0, 1) := by decide +kernel
theorem d_Model_access_116 : decode c_Model_access 116 = .ok (.iload_n 3, 1) := by decide +kernel
theorem d_Model_access_117 : decode c_Model_access 117 = .ok (.putfield 276, 3) := by decide +kernel
theorem d_Model_access_120 : decode c_Model_access 120 = .ok (.goto 70, 3) := by decide +kernel
theorem d_Model_access_123 : decode c_Model_access 123 = .ok (.iload_n 1, 1) := by decide +kernel
theorem d_Model_access_124 : decode c_Model_access 124 = .ok (.ifCond .eq 15, 3) := by decide +kernel
theorem d_Model_access_127 : decode c_Model_access 127 = .ok (.aload_n 0, 1) := by decide +kernel
theorem d_Model_access_128 : decode c_Model_access 128 = .ok (.iload_n 2, 1) := by decide +kernel
theorem d_Model_access_129 : decode c_Model_access 129 = .ok (.iconst 4, 1) := by decide +kernel
theorem d_Model_access_130 : decode c_Model_access 130 = .ok (.idiv, 1) := by decide +kernel
theorem d_Model_access_131 : decode c_Model_access 131 = .ok (.iload 4, 2) := by decide +kernel
theorem d_Model_access_133 : decode c_Model_access 133 = .ok (.invokevirtual 279, 3) := by decide +kernel
theorem d_Model_access_136 : decode c_Model_access 136 = .ok (.goto 54, 3) := by decide +kernel
theorem d_Model_access_139 : decode c_Model_access 139 = .ok (.aload_n 0, 1) := by decide +kernel
theorem d_Model_access_140 : decode c_Model_access 140 = .ok (.getfield 19, 3) := by decide +kernel
theorem d_Model_access_143 : decode c_Model_access 143 = .ok (.sipush 128, 3) := by decide +kernel
theorem d_Model_access_146 : decode c_Model_access 146 = .ok (.iload_n 2, 1) := by decide +kernel
theorem d_Model_access_147 : decode c_Model_access 147 = .ok (.iconst 4, 1) := by decide +kernel
theorem d_Model_access_148 : decode c_Model_access 148 = .ok (.idiv, 1) := by decide +kernel
theorem d_Model_access_149 : decode c_Model_access 149 = .ok (.iadd, 1) := by decide +kernel
theorem d_Model_access_150 : decode c_Model_access 150 = .ok (.baload, 1) := by decide +kernel
theorem d_Model_access_151 : decode c_Model_access 151 = .ok (.ifCond .eq 23, 3) := by decide +kernel
theorem d_Model_access_154 : decode c_Model_access 154 = .ok (.aload_n 0, 1) := by decide +kernel
theorem d_Model_access_155 : decode c_Model_access 155 = .ok (.iload_n 3, 1) := by decide +kernel
theorem d_Model_access_156 : decode c_Model_access 156 = .ok (.aload_n 0, 1) := by decide +kernel
theorem d_Model_access_157 : decode c_Model_access 157 = .ok (.getfield 23, 3) := by decide +kernel
theorem d_Model_access_160 : decode c_Model_access 160 = .ok (.sipush 128, 3) := by decide +kernel
theorem d_Model_access_163 : decode c_Model_access 163 = .ok (.iload_n 2, 1) := by decide +kernel
theorem d_Model_access_164 : decode c_Model_access 164 = .ok (.iconst 4, 1) := by decide +kernel
theorem d_Model_access_165 : decode c_Model_access 165 = .ok (.idiv, 1) := by decide +kernel
theorem d_Model_access_166 : decode c_Model_access 166 = .ok (.iadd, 1) := by decide +kernel
theorem d_Model_access_167 : decode c_Model_access 167 = .ok (.iaload, 1) := by decide +kernel
theorem d_Model_access_168 : decode c_Model_access 168 = .ok (.invokevirtual 226, 3) := by decide +kernel
theorem d_Model_access_171 : decode c_Model_access 171 = .ok (.goto 19, 3) := by decide +kernel
theorem d_Model_access_174 : decode c_Model_access 174 = .ok (.aload_n 0, 1) := by decide +kernel
theorem d_Model_access_175 : decode c_Model_access 175 = .ok (.getfield 144, 3) := by decide +kernel
theorem d_Model_access_178 : decode c_Model_access 178 = .ok (.ifCond .ne 12, 3) := by decide +kernel
theorem d_Model_access_181 : decode c_Model_access 181 = .ok (.aload_n 0, 1) := by decide +kernel
theorem d_Model_access_182 : decode c_Model_access 182 = .ok (.iconst 2, 1) := by decide +kernel
theorem d_Model_access_183 : decode c_Model_access 183 = .ok (.iload_n 2, 1) := by decide +kernel
theorem d_Model_access_184 : decode c_Model_access 184 = .ok (.bipush 16, 2) := by decide +kernel
theorem d_Model_access_186 : decode c_Model_access 186 = .ok (.idiv, 1) := by decide +kernel
theorem d_Model_access_187 : decode c_Model_access 187 = .ok (.invokevirtual 220, 3) := by decide +kernel
theorem d_Model_access_190 : decode c_Model_access 190 = .ok (.return_, 1) := by decide +kernel
abbrev c_Model_save : ByteArray := prog_14_method_46_code
def y_Model_save : MethodName := ⟨"CycleChipModel", "save", "(II)V"⟩
theorem d_Model_save_0 : decode c_Model_save 0 = .ok (.aload_n 0, 1) := by decide +kernel
theorem d_Model_save_1 : decode c_Model_save 1 = .ok (.getfield 144, 3) := by decide +kernel
theorem d_Model_save_4 : decode c_Model_save 4 = .ok (.iconst 2, 1) := by decide +kernel
theorem d_Model_save_5 : decode c_Model_save 5 = .ok (.if_icmp .ne 4, 3) := by decide +kernel
theorem d_Model_save_8 : decode c_Model_save 8 = .ok (.return_, 1) := by decide +kernel
theorem d_Model_save_9 : decode c_Model_save 9 = .ok (.aload_n 0, 1) := by decide +kernel
theorem d_Model_save_10 : decode c_Model_save 10 = .ok (.getfield 40, 3) := by decide +kernel
theorem d_Model_save_13 : decode c_Model_save 13 = .ok (.aload_n 0, 1) := by decide +kernel
theorem d_Model_save_14 : decode c_Model_save 14 = .ok (.getfield 144, 3) := by decide +kernel
theorem d_Model_save_17 : decode c_Model_save 17 = .ok (.iload_n 1, 1) := by decide +kernel
theorem d_Model_save_18 : decode c_Model_save 18 = .ok (.iastore, 1) := by decide +kernel
theorem d_Model_save_19 : decode c_Model_save 19 = .ok (.aload_n 0, 1) := by decide +kernel
theorem d_Model_save_20 : decode c_Model_save 20 = .ok (.getfield 43, 3) := by decide +kernel
theorem d_Model_save_23 : decode c_Model_save 23 = .ok (.aload_n 0, 1) := by decide +kernel
theorem d_Model_save_24 : decode c_Model_save 24 = .ok (.getfield 144, 3) := by decide +kernel
theorem d_Model_save_27 : decode c_Model_save 27 = .ok (.iload_n 2, 1) := by decide +kernel
theorem d_Model_save_28 : decode c_Model_save 28 = .ok (.iastore, 1) := by decide +kernel
theorem d_Model_save_29 : decode c_Model_save 29 = .ok (.aload_n 0, 1) := by decide +kernel
theorem d_Model_save_30 : decode c_Model_save 30 = .ok (.dup, 1) := by decide +kernel
theorem d_Model_save_31 : decode c_Model_save 31 = .ok (.getfield 144, 3) := by decide +kernel
theorem d_Model_save_34 : decode c_Model_save 34 = .ok (.iconst 1, 1) := by decide +kernel
theorem d_Model_save_35 : decode c_Model_save 35 = .ok (.iadd, 1) := by decide +kernel
theorem d_Model_save_36 : decode c_Model_save 36 = .ok (.putfield 144, 3) := by decide +kernel
theorem d_Model_save_39 : decode c_Model_save 39 = .ok (.aload_n 0, 1) := by decide +kernel
theorem d_Model_save_40 : decode c_Model_save 40 = .ok (.getfield 19, 3) := by decide +kernel
theorem d_Model_save_43 : decode c_Model_save 43 = .ok (.sipush 128, 3) := by decide +kernel
theorem d_Model_save_46 : decode c_Model_save 46 = .ok (.iload_n 1, 1) := by decide +kernel
theorem d_Model_save_47 : decode c_Model_save 47 = .ok (.iadd, 1) := by decide +kernel
theorem d_Model_save_48 : decode c_Model_save 48 = .ok (.baload, 1) := by decide +kernel
theorem d_Model_save_49 : decode c_Model_save 49 = .ok (.ifCond .eq 14, 3) := by decide +kernel
theorem d_Model_save_52 : decode c_Model_save 52 = .ok (.aload_n 0, 1) := by decide +kernel
theorem d_Model_save_53 : decode c_Model_save 53 = .ok (.getfield 23, 3) := by decide +kernel
theorem d_Model_save_56 : decode c_Model_save 56 = .ok (.sipush 128, 3) := by decide +kernel
theorem d_Model_save_59 : decode c_Model_save 59 = .ok (.iload_n 1, 1) := by decide +kernel
theorem d_Model_save_60 : decode c_Model_save 60 = .ok (.iadd, 1) := by decide +kernel
theorem d_Model_save_61 : decode c_Model_save 61 = .ok (.iload_n 2, 1) := by decide +kernel
theorem d_Model_save_62 : decode c_Model_save 62 = .ok (.iastore, 1) := by decide +kernel
theorem d_Model_save_63 : decode c_Model_save 63 = .ok (.aload_n 0, 1) := by decide +kernel
theorem d_Model_save_64 : decode c_Model_save 64 = .ok (.aload_n 0, 1) := by decide +kernel
theorem d_Model_save_65 : decode c_Model_save 65 = .ok (.getfield 95, 3) := by decide +kernel
theorem d_Model_save_68 : decode c_Model_save 68 = .ok (.iconst 4, 1) := by decide +kernel
theorem d_Model_save_69 : decode c_Model_save 69 = .ok (.iadd, 1) := by decide +kernel
theorem d_Model_save_70 : decode c_Model_save 70 = .ok (.invokevirtual 196, 3) := by decide +kernel
theorem d_Model_save_73 : decode c_Model_save 73 = .ok (.return_, 1) := by decide +kernel
abbrev c_Model_fence : ByteArray := prog_14_method_47_code
def y_Model_fence : MethodName := ⟨"CycleChipModel", "fence", "(I)V"⟩
theorem d_Model_fence_0 : decode c_Model_fence 0 = .ok (.aload_n 0, 1) := by decide +kernel
theorem d_Model_fence_1 : decode c_Model_fence 1 = .ok (.getfield 144, 3) := by decide +kernel
theorem d_Model_fence_4 : decode c_Model_fence 4 = .ok (.ifCond .le 4, 3) := by decide +kernel
theorem d_Model_fence_7 : decode c_Model_fence 7 = .ok (.return_, 1) := by decide +kernel
theorem d_Model_fence_8 : decode c_Model_fence 8 = .ok (.iconst 0, 1) := by decide +kernel
theorem d_Model_fence_9 : decode c_Model_fence 9 = .ok (.istore_n 2, 1) := by decide +kernel
theorem d_Model_fence_10 : decode c_Model_fence 10 = .ok (.iload_n 2, 1) := by decide +kernel
theorem d_Model_fence_11 : decode c_Model_fence 11 = .ok (.sipush 128, 3) := by decide +kernel
theorem d_Model_fence_14 : decode c_Model_fence 14 = .ok (.if_icmp .ge 21, 3) := by decide +kernel
theorem d_Model_fence_17 : decode c_Model_fence 17 = .ok (.iload_n 1, 1) := by decide +kernel
theorem d_Model_fence_18 : decode c_Model_fence 18 = .ok (.iconst 1, 1) := by decide +kernel
theorem d_Model_fence_19 : decode c_Model_fence 19 = .ok (.if_icmp .ne 16, 3) := by decide +kernel
theorem d_Model_fence_22 : decode c_Model_fence 22 = .ok (.aload_n 0, 1) := by decide +kernel
theorem d_Model_fence_23 : decode c_Model_fence 23 = .ok (.getfield 19, 3) := by decide +kernel
theorem d_Model_fence_26 : decode c_Model_fence 26 = .ok (.iload_n 2, 1) := by decide +kernel
theorem d_Model_fence_27 : decode c_Model_fence 27 = .ok (.iconst 0, 1) := by decide +kernel
theorem d_Model_fence_28 : decode c_Model_fence 28 = .ok (.bastore, 1) := by decide +kernel
theorem d_Model_fence_29 : decode c_Model_fence 29 = .ok (.iinc 2 1, 3) := by decide +kernel
theorem d_Model_fence_32 : decode c_Model_fence 32 = .ok (.goto (-22), 3) := by decide +kernel
theorem d_Model_fence_35 : decode c_Model_fence 35 = .ok (.aload_n 0, 1) := by decide +kernel
theorem d_Model_fence_36 : decode c_Model_fence 36 = .ok (.aload_n 0, 1) := by decide +kernel
theorem d_Model_fence_37 : decode c_Model_fence 37 = .ok (.getfield 95, 3) := by decide +kernel
theorem d_Model_fence_40 : decode c_Model_fence 40 = .ok (.iconst 4, 1) := by decide +kernel
theorem d_Model_fence_41 : decode c_Model_fence 41 = .ok (.iadd, 1) := by decide +kernel
theorem d_Model_fence_42 : decode c_Model_fence 42 = .ok (.invokevirtual 196, 3) := by decide +kernel
theorem d_Model_fence_45 : decode c_Model_fence 45 = .ok (.return_, 1) := by decide +kernel
abbrev c_Model_system : ByteArray := prog_14_method_48_code
def y_Model_system : MethodName := ⟨"CycleChipModel", "system", "(III)V"⟩
theorem d_Model_system_0 : decode c_Model_system 0 = .ok (.iload_n 1, 1) := by decide +kernel
theorem d_Model_system_1 : decode c_Model_system 1 = .ok (.bipush 115, 2) := by decide +kernel
theorem d_Model_system_3 : decode c_Model_system 3 = .ok (.if_icmp .ne 13, 3) := by decide +kernel
theorem d_Model_system_6 : decode c_Model_system 6 = .ok (.aload_n 0, 1) := by decide +kernel
theorem d_Model_system_7 : decode c_Model_system 7 = .ok (.bipush 11, 2) := by decide +kernel
theorem d_Model_system_9 : decode c_Model_system 9 = .ok (.iconst 0, 1) := by decide +kernel
theorem d_Model_system_10 : decode c_Model_system 10 = .ok (.invokevirtual 217, 3) := by decide +kernel
theorem d_Model_system_13 : decode c_Model_system 13 = .ok (.goto 140, 3) := by decide +kernel
theorem d_Model_system_16 : decode c_Model_system 16 = .ok (.iload_n 1, 1) := by decide +kernel
theorem d_Model_system_17 : decode c_Model_system 17 = .ok (.ldc_w 282, 3) := by decide +kernel
theorem d_Model_system_20 : decode c_Model_system 20 = .ok (.if_icmp .ne 12, 3) := by decide +kernel
theorem d_Model_system_23 : decode c_Model_system 23 = .ok (.aload_n 0, 1) := by decide +kernel
theorem d_Model_system_24 : decode c_Model_system 24 = .ok (.iconst 3, 1) := by decide +kernel
theorem d_Model_system_25 : decode c_Model_system 25 = .ok (.iconst 0, 1) := by decide +kernel
theorem d_Model_system_26 : decode c_Model_system 26 = .ok (.invokevirtual 217, 3) := by decide +kernel
theorem d_Model_system_29 : decode c_Model_system 29 = .ok (.goto 124, 3) := by decide +kernel
theorem d_Model_system_32 : decode c_Model_system 32 = .ok (.iload_n 1, 1) := by decide +kernel
theorem d_Model_system_33 : decode c_Model_system 33 = .ok (.ldc_w 283, 3) := by decide +kernel
theorem d_Model_system_36 : decode c_Model_system 36 = .ok (.if_icmp .ne 55, 3) := by decide +kernel
theorem d_Model_system_39 : decode c_Model_system 39 = .ok (.aload_n 0, 1) := by decide +kernel
theorem d_Model_system_40 : decode c_Model_system 40 = .ok (.getfield 29, 3) := by decide +kernel
theorem d_Model_system_43 : decode c_Model_system 43 = .ok (.iconst 0, 1) := by decide +kernel
theorem d_Model_system_44 : decode c_Model_system 44 = .ok (.sipush 128, 3) := by decide +kernel
theorem d_Model_system_47 : decode c_Model_system 47 = .ok (.aload_n 0, 1) := by decide +kernel
theorem d_Model_system_48 : decode c_Model_system 48 = .ok (.getfield 29, 3) := by decide +kernel
theorem d_Model_system_51 : decode c_Model_system 51 = .ok (.iconst 0, 1) := by decide +kernel
theorem d_Model_system_52 : decode c_Model_system 52 = .ok (.iaload, 1) := by decide +kernel
theorem d_Model_system_53 : decode c_Model_system 53 = .ok (.sipush 128, 3) := by decide +kernel
theorem d_Model_system_56 : decode c_Model_system 56 = .ok (.iand, 1) := by decide +kernel
theorem d_Model_system_57 : decode c_Model_system 57 = .ok (.ifCond .eq 8, 3) := by decide +kernel
theorem d_Model_system_60 : decode c_Model_system 60 = .ok (.bipush 8, 2) := by decide +kernel
theorem d_Model_system_62 : decode c_Model_system 62 = .ok (.goto 4, 3) := by decide +kernel
theorem d_Model_system_65 : decode c_Model_system 65 = .ok (.iconst 0, 1) := by decide +kernel
theorem d_Model_system_66 : decode c_Model_system 66 = .ok (.iadd, 1) := by decide +kernel
theorem d_Model_system_67 : decode c_Model_system 67 = .ok (.iastore, 1) := by decide +kernel
theorem d_Model_system_68 : decode c_Model_system 68 = .ok (.aload_n 0, 1) := by decide +kernel
theorem d_Model_system_69 : decode c_Model_system 69 = .ok (.aload_n 0, 1) := by decide +kernel
theorem d_Model_system_70 : decode c_Model_system 70 = .ok (.getfield 29, 3) := by decide +kernel
theorem d_Model_system_73 : decode c_Model_system 73 = .ok (.iconst 4, 1) := by decide +kernel
theorem d_Model_system_74 : decode c_Model_system 74 = .ok (.iaload, 1) := by decide +kernel
theorem d_Model_system_75 : decode c_Model_system 75 = .ok (.invokevirtual 196, 3) := by decide +kernel
theorem d_Model_system_78 : decode c_Model_system 78 = .ok (.aload_n 0, 1) := by decide +kernel
theorem d_Model_system_79 : decode c_Model_system 79 = .ok (.aload_n 0, 1) := by decide +kernel
theorem d_Model_system_80 : decode c_Model_system 80 = .ok (.getfield 108, 3) := by decide +kernel
theorem d_Model_system_83 : decode c_Model_system 83 = .ok (.iconst 1, 1) := by decide +kernel
theorem d_Model_system_84 : decode c_Model_system 84 = .ok (.iadd, 1) := by decide +kernel
theorem d_Model_system_85 : decode c_Model_system 85 = .ok (.putfield 32, 3) := by decide +kernel
theorem d_Model_system_88 : decode c_Model_system 88 = .ok (.goto 65, 3) := by decide +kernel
theorem d_Model_system_91 : decode c_Model_system 91 = .ok (.iload_n 1, 1) := by decide +kernel
theorem d_Model_system_92 : decode c_Model_system 92 = .ok (.ldc_w 284, 3) := by decide +kernel
theorem d_Model_system_95 : decode c_Model_system 95 = .ok (.if_icmp .ne 21, 3) := by decide +kernel
theorem d_Model_system_98 : decode c_Model_system 98 = .ok (.aload_n 0, 1) := by decide +kernel
theorem d_Model_system_99 : decode c_Model_system 99 = .ok (.iconst 1, 1) := by decide +kernel
theorem d_Model_system_100 : decode c_Model_system 100 = .ok (.putfield 213, 3) := by decide +kernel
theorem d_Model_system_103 : decode c_Model_system 103 = .ok (.aload_n 0, 1) := by decide +kernel
theorem d_Model_system_104 : decode c_Model_system 104 = .ok (.aload_n 0, 1) := by decide +kernel
theorem d_Model_system_105 : decode c_Model_system 105 = .ok (.getfield 95, 3) := by decide +kernel
theorem d_Model_system_108 : decode c_Model_system 108 = .ok (.iconst 4, 1) := by decide +kernel
theorem d_Model_system_109 : decode c_Model_system 109 = .ok (.iadd, 1) := by decide +kernel
theorem d_Model_system_110 : decode c_Model_system 110 = .ok (.invokevirtual 196, 3) := by decide +kernel
theorem d_Model_system_113 : decode c_Model_system 113 = .ok (.goto 40, 3) := by decide +kernel
theorem d_Model_system_116 : decode c_Model_system 116 = .ok (.iload_n 2, 1) := by decide +kernel
theorem d_Model_system_117 : decode c_Model_system 117 = .ok (.iconst 4, 1) := by decide +kernel
theorem d_Model_system_118 : decode c_Model_system 118 = .ok (.irem, 1) := by decide +kernel
theorem d_Model_system_119 : decode c_Model_system 119 = .ok (.ifCond .ne 12, 3) := by decide +kernel
theorem d_Model_system_122 : decode c_Model_system 122 = .ok (.aload_n 0, 1) := by decide +kernel
theorem d_Model_system_123 : decode c_Model_system 123 = .ok (.iconst 2, 1) := by decide +kernel
theorem d_Model_system_124 : decode c_Model_system 124 = .ok (.iload_n 1, 1) := by decide +kernel
theorem d_Model_system_125 : decode c_Model_system 125 = .ok (.invokevirtual 217, 3) := by decide +kernel
theorem d_Model_system_128 : decode c_Model_system 128 = .ok (.goto 25, 3) := by decide +kernel
theorem d_Model_system_131 : decode c_Model_system 131 = .ok (.aload_n 0, 1) := by decide +kernel
theorem d_Model_system_132 : decode c_Model_system 132 = .ok (.iload_n 1, 1) := by decide +kernel
theorem d_Model_system_133 : decode c_Model_system 133 = .ok (.iload_n 2, 1) := by decide +kernel
theorem d_Model_system_134 : decode c_Model_system 134 = .ok (.iload_n 2, 1) := by decide +kernel
theorem d_Model_system_135 : decode c_Model_system 135 = .ok (.iconst 4, 1) := by decide +kernel
theorem d_Model_system_136 : decode c_Model_system 136 = .ok (.if_icmp .ge 7, 3) := by decide +kernel
theorem d_Model_system_139 : decode c_Model_system 139 = .ok (.iload_n 3, 1) := by decide +kernel
theorem d_Model_system_140 : decode c_Model_system 140 = .ok (.goto 10, 3) := by decide +kernel
theorem d_Model_system_143 : decode c_Model_system 143 = .ok (.iload_n 1, 1) := by decide +kernel
theorem d_Model_system_144 : decode c_Model_system 144 = .ok (.bipush 15, 2) := by decide +kernel
theorem d_Model_system_146 : decode c_Model_system 146 = .ok (.ishr, 1) := by decide +kernel
theorem d_Model_system_147 : decode c_Model_system 147 = .ok (.bipush 31, 2) := by decide +kernel
theorem d_Model_system_149 : decode c_Model_system 149 = .ok (.iand, 1) := by decide +kernel
theorem d_Model_system_150 : decode c_Model_system 150 = .ok (.invokevirtual 285, 3) := by decide +kernel
theorem d_Model_system_153 : decode c_Model_system 153 = .ok (.return_, 1) := by decide +kernel
abbrev c_Model_swap : ByteArray := prog_14_method_49_code
def y_Model_swap : MethodName := ⟨"CycleChipModel", "swap", "(III)V"⟩
theorem d_Model_swap_0 : decode c_Model_swap 0 = .ok (.iload_n 1, 1) := by decide +kernel
theorem d_Model_swap_1 : decode c_Model_swap 1 = .ok (.bipush 20, 2) := by decide +kernel
theorem d_Model_swap_3 : decode c_Model_swap 3 = .ok (.iushr, 1) := by decide +kernel
theorem d_Model_swap_4 : decode c_Model_swap 4 = .ok (.invokestatic 98, 3) := by decide +kernel
theorem d_Model_swap_7 : decode c_Model_swap 7 = .ok (.istore 4, 2) := by decide +kernel
theorem d_Model_swap_9 : decode c_Model_swap 9 = .ok (.iload_n 2, 1) := by decide +kernel
theorem d_Model_swap_10 : decode c_Model_swap 10 = .ok (.iconst 4, 1) := by decide +kernel
theorem d_Model_swap_11 : decode c_Model_swap 11 = .ok (.irem, 1) := by decide +kernel
theorem d_Model_swap_12 : decode c_Model_swap 12 = .ok (.iconst 1, 1) := by decide +kernel
theorem d_Model_swap_13 : decode c_Model_swap 13 = .ok (.if_icmp .eq 13, 3) := by decide +kernel
theorem d_Model_swap_16 : decode c_Model_swap 16 = .ok (.iload_n 1, 1) := by decide +kernel
theorem d_Model_swap_17 : decode c_Model_swap 17 = .ok (.bipush 15, 2) := by decide +kernel
theorem d_Model_swap_19 : decode c_Model_swap 19 = .ok (.ishr, 1) := by decide +kernel
theorem d_Model_swap_20 : decode c_Model_swap 20 = .ok (.bipush 31, 2) := by decide +kernel
theorem d_Model_swap_22 : decode c_Model_swap 22 = .ok (.iand, 1) := by decide +kernel
theorem d_Model_swap_23 : decode c_Model_swap 23 = .ok (.ifCond .eq 7, 3) := by decide +kernel
theorem d_Model_swap_26 : decode c_Model_swap 26 = .ok (.iconst 1, 1) := by decide +kernel
theorem d_Model_swap_27 : decode c_Model_swap 27 = .ok (.goto 4, 3) := by decide +kernel
theorem d_Model_swap_30 : decode c_Model_swap 30 = .ok (.iconst 0, 1) := by decide +kernel
theorem d_Model_swap_31 : decode c_Model_swap 31 = .ok (.istore 5, 2) := by decide +kernel
theorem d_Model_swap_33 : decode c_Model_swap 33 = .ok (.iload 4, 2) := by decide +kernel
theorem d_Model_swap_35 : decode c_Model_swap 35 = .ok (.ifCond .lt 15, 3) := by decide +kernel
theorem d_Model_swap_38 : decode c_Model_swap 38 = .ok (.iload 4, 2) := by decide +kernel
theorem d_Model_swap_40 : decode c_Model_swap 40 = .ok (.bipush 8, 2) := by decide +kernel
theorem d_Model_swap_42 : decode c_Model_swap 42 = .ok (.if_icmp .ne 15, 3) := by decide +kernel
theorem d_Model_swap_45 : decode c_Model_swap 45 = .ok (.iload 5, 2) := by decide +kernel
theorem d_Model_swap_47 : decode c_Model_swap 47 = .ok (.ifCond .eq 10, 3) := by decide +kernel
theorem d_Model_swap_50 : decode c_Model_swap 50 = .ok (.aload_n 0, 1) := by decide +kernel
theorem d_Model_swap_51 : decode c_Model_swap 51 = .ok (.iconst 2, 1) := by decide +kernel
theorem d_Model_swap_52 : decode c_Model_swap 52 = .ok (.iload_n 1, 1) := by decide +kernel
theorem d_Model_swap_53 : decode c_Model_swap 53 = .ok (.invokevirtual 217, 3) := by decide +kernel
theorem d_Model_swap_56 : decode c_Model_swap 56 = .ok (.return_, 1) := by decide +kernel
theorem d_Model_swap_57 : decode c_Model_swap 57 = .ok (.aload_n 0, 1) := by decide +kernel
theorem d_Model_swap_58 : decode c_Model_swap 58 = .ok (.iload 4, 2) := by decide +kernel
theorem d_Model_swap_60 : decode c_Model_swap 60 = .ok (.invokevirtual 102, 3) := by decide +kernel
theorem d_Model_swap_63 : decode c_Model_swap 63 = .ok (.istore 6, 2) := by decide +kernel
theorem d_Model_swap_65 : decode c_Model_swap 65 = .ok (.iload 5, 2) := by decide +kernel
theorem d_Model_swap_67 : decode c_Model_swap 67 = .ok (.ifCond .eq 53, 3) := by decide +kernel
theorem d_Model_swap_70 : decode c_Model_swap 70 = .ok (.iload 4, 2) := by decide +kernel
theorem d_Model_swap_72 : decode c_Model_swap 72 = .ok (.bipush 7, 2) := by decide +kernel
theorem d_Model_swap_74 : decode c_Model_swap 74 = .ok (.if_icmp .ge 46, 3) := by decide +kernel
theorem d_Model_swap_77 : decode c_Model_swap 77 = .ok (.aload_n 0, 1) := by decide +kernel
theorem d_Model_swap_78 : decode c_Model_swap 78 = .ok (.getfield 29, 3) := by decide +kernel
theorem d_Model_swap_81 : decode c_Model_swap 81 = .ok (.iload 4, 2) := by decide +kernel
theorem d_Model_swap_83 : decode c_Model_swap 83 = .ok (.iload 4, 2) := by decide +kernel
theorem d_Model_swap_85 : decode c_Model_swap 85 = .ok (.iload_n 2, 1) := by decide +kernel
theorem d_Model_swap_86 : decode c_Model_swap 86 = .ok (.iconst 4, 1) := by decide +kernel
theorem d_Model_swap_87 : decode c_Model_swap 87 = .ok (.irem, 1) := by decide +kernel
theorem d_Model_swap_88 : decode c_Model_swap 88 = .ok (.iconst 1, 1) := by decide +kernel
theorem d_Model_swap_89 : decode c_Model_swap 89 = .ok (.if_icmp .ne 7, 3) := by decide +kernel
theorem d_Model_swap_92 : decode c_Model_swap 92 = .ok (.iload_n 3, 1) := by decide +kernel
theorem d_Model_swap_93 : decode c_Model_swap 93 = .ok (.goto 23, 3) := by decide +kernel
theorem d_Model_swap_96 : decode c_Model_swap 96 = .ok (.iload_n 2, 1) := by decide +kernel
theorem d_Model_swap_97 : decode c_Model_swap 97 = .ok (.iconst 4, 1) := by decide +kernel
theorem d_Model_swap_98 : decode c_Model_swap 98 = .ok (.irem, 1) := by decide +kernel
theorem d_Model_swap_99 : decode c_Model_swap 99 = .ok (.iconst 2, 1) := by decide +kernel
theorem d_Model_swap_100 : decode c_Model_swap 100 = .ok (.if_icmp .ne 10, 3) := by decide +kernel
theorem d_Model_swap_103 : decode c_Model_swap 103 = .ok (.iload 6, 2) := by decide +kernel
theorem d_Model_swap_105 : decode c_Model_swap 105 = .ok (.iload_n 3, 1) := by decide +kernel
theorem d_Model_swap_106 : decode c_Model_swap 106 = .ok (.ior, 1) := by decide +kernel
theorem d_Model_swap_107 : decode c_Model_swap 107 = .ok (.goto 9, 3) := by decide +kernel
theorem d_Model_swap_110 : decode c_Model_swap 110 = .ok (.iload 6, 2) := by decide +kernel
theorem d_Model_swap_112 : decode c_Model_swap 112 = .ok (.iload_n 3, 1) := by decide +kernel
theorem d_Model_swap_113 : decode c_Model_swap 113 = .ok (.iconst (-1), 1) := by decide +kernel
theorem d_Model_swap_114 : decode c_Model_swap 114 = .ok (.ixor, 1) := by decide +kernel
theorem d_Model_swap_115 : decode c_Model_swap 115 = .ok (.iand, 1) := by decide +kernel
theorem d_Model_swap_116 : decode c_Model_swap 116 = .ok (.invokestatic 288, 3) := by decide +kernel
theorem d_Model_swap_119 : decode c_Model_swap 119 = .ok (.iastore, 1) := by decide +kernel
theorem d_Model_swap_120 : decode c_Model_swap 120 = .ok (.aload_n 0, 1) := by decide +kernel
theorem d_Model_swap_121 : decode c_Model_swap 121 = .ok (.iload_n 1, 1) := by decide +kernel
theorem d_Model_swap_122 : decode c_Model_swap 122 = .ok (.bipush 7, 2) := by decide +kernel
theorem d_Model_swap_124 : decode c_Model_swap 124 = .ok (.ishr, 1) := by decide +kernel
theorem d_Model_swap_125 : decode c_Model_swap 125 = .ok (.bipush 31, 2) := by decide +kernel
theorem d_Model_swap_127 : decode c_Model_swap 127 = .ok (.iand, 1) := by decide +kernel
theorem d_Model_swap_128 : decode c_Model_swap 128 = .ok (.iload 6, 2) := by decide +kernel
theorem d_Model_swap_130 : decode c_Model_swap 130 = .ok (.invokevirtual 226, 3) := by decide +kernel
theorem d_Model_swap_133 : decode c_Model_swap 133 = .ok (.return_, 1) := by decide +kernel
abbrev c_Model_which : ByteArray := prog_14_method_50_code
def y_Model_which : MethodName := ⟨"CycleChipModel", "which", "(I)I"⟩
theorem d_Model_which_0 : decode c_Model_which 0 = .ok (.iload_n 0, 1) := by decide +kernel
theorem d_Model_which_1 : decode c_Model_which 1 = .ok (.sipush 768, 3) := by decide +kernel
theorem d_Model_which_4 : decode c_Model_which 4 = .ok (.if_icmp .ne 7, 3) := by decide +kernel
theorem d_Model_which_7 : decode c_Model_which 7 = .ok (.iconst 0, 1) := by decide +kernel
theorem d_Model_which_8 : decode c_Model_which 8 = .ok (.goto 59, 3) := by decide +kernel
theorem d_Model_which_11 : decode c_Model_which 11 = .ok (.iload_n 0, 1) := by decide +kernel
theorem d_Model_which_12 : decode c_Model_which 12 = .ok (.sipush 772, 3) := by decide +kernel
theorem d_Model_which_15 : decode c_Model_which 15 = .ok (.if_icmp .ne 7, 3) := by decide +kernel
theorem d_Model_which_18 : decode c_Model_which 18 = .ok (.iconst 1, 1) := by decide +kernel
theorem d_Model_which_19 : decode c_Model_which 19 = .ok (.goto 48, 3) := by decide +kernel
theorem d_Model_which_22 : decode c_Model_which 22 = .ok (.iload_n 0, 1) := by decide +kernel
theorem d_Model_which_23 : decode c_Model_which 23 = .ok (.sipush 773, 3) := by decide +kernel
theorem d_Model_which_26 : decode c_Model_which 26 = .ok (.if_icmp .ne 7, 3) := by decide +kernel
theorem d_Model_which_29 : decode c_Model_which 29 = .ok (.iconst 2, 1) := by decide +kernel
theorem d_Model_which_30 : decode c_Model_which 30 = .ok (.goto 37, 3) := by decide +kernel
theorem d_Model_which_33 : decode c_Model_which 33 = .ok (.iload_n 0, 1) := by decide +kernel
theorem d_Model_which_34 : decode c_Model_which 34 = .ok (.sipush 832, 3) := by decide +kernel
theorem d_Model_which_37 : decode c_Model_which 37 = .ok (.sipush 836, 3) := by decide +kernel
theorem d_Model_which_40 : decode c_Model_which 40 = .ok (.invokestatic 89, 3) := by decide +kernel
theorem d_Model_which_43 : decode c_Model_which 43 = .ok (.ifCond .eq 11, 3) := by decide +kernel
theorem d_Model_which_46 : decode c_Model_which 46 = .ok (.iload_n 0, 1) := by decide +kernel
theorem d_Model_which_47 : decode c_Model_which 47 = .ok (.sipush 829, 3) := by decide +kernel
theorem d_Model_which_50 : decode c_Model_which 50 = .ok (.isub, 1) := by decide +kernel
theorem d_Model_which_51 : decode c_Model_which 51 = .ok (.goto 16, 3) := by decide +kernel
theorem d_Model_which_54 : decode c_Model_which 54 = .ok (.iload_n 0, 1) := by decide +kernel
theorem d_Model_which_55 : decode c_Model_which 55 = .ok (.sipush 3072, 3) := by decide +kernel
theorem d_Model_which_58 : decode c_Model_which 58 = .ok (.if_icmp .ne 8, 3) := by decide +kernel
theorem d_Model_which_61 : decode c_Model_which 61 = .ok (.bipush 8, 2) := by decide +kernel
theorem d_Model_which_63 : decode c_Model_which 63 = .ok (.goto 4, 3) := by decide +kernel
theorem d_Model_which_66 : decode c_Model_which 66 = .ok (.iconst (-1), 1) := by decide +kernel
theorem d_Model_which_67 : decode c_Model_which 67 = .ok (.ireturn, 1) := by decide +kernel
abbrev c_Model_masked : ByteArray := prog_14_method_51_code
def y_Model_masked : MethodName := ⟨"CycleChipModel", "masked", "(II)I"⟩
theorem d_Model_masked_0 : decode c_Model_masked 0 = .ok (.iload_n 0, 1) := by decide +kernel
theorem d_Model_masked_1 : decode c_Model_masked 1 = .ok (.ifCond .ne 11, 3) := by decide +kernel
theorem d_Model_masked_4 : decode c_Model_masked 4 = .ok (.iload_n 1, 1) := by decide +kernel
theorem d_Model_masked_5 : decode c_Model_masked 5 = .ok (.sipush 136, 3) := by decide +kernel
theorem d_Model_masked_8 : decode c_Model_masked 8 = .ok (.iand, 1) := by decide +kernel
theorem d_Model_masked_9 : decode c_Model_masked 9 = .ok (.goto 41, 3) := by decide +kernel
theorem d_Model_masked_12 : decode c_Model_masked 12 = .ok (.iload_n 0, 1) := by decide +kernel
theorem d_Model_masked_13 : decode c_Model_masked 13 = .ok (.iconst 1, 1) := by decide +kernel
theorem d_Model_masked_14 : decode c_Model_masked 14 = .ok (.if_icmp .ne 11, 3) := by decide +kernel
theorem d_Model_masked_17 : decode c_Model_masked 17 = .ok (.iload_n 1, 1) := by decide +kernel
theorem d_Model_masked_18 : decode c_Model_masked 18 = .ok (.sipush 2176, 3) := by decide +kernel
theorem d_Model_masked_21 : decode c_Model_masked 21 = .ok (.iand, 1) := by decide +kernel
theorem d_Model_masked_22 : decode c_Model_masked 22 = .ok (.goto 28, 3) := by decide +kernel
theorem d_Model_masked_25 : decode c_Model_masked 25 = .ok (.iload_n 0, 1) := by decide +kernel
theorem d_Model_masked_26 : decode c_Model_masked 26 = .ok (.iconst 2, 1) := by decide +kernel
theorem d_Model_masked_27 : decode c_Model_masked 27 = .ok (.if_icmp .ne 10, 3) := by decide +kernel
theorem d_Model_masked_30 : decode c_Model_masked 30 = .ok (.iload_n 1, 1) := by decide +kernel
theorem d_Model_masked_31 : decode c_Model_masked 31 = .ok (.bipush (-3), 2) := by decide +kernel
theorem d_Model_masked_33 : decode c_Model_masked 33 = .ok (.iand, 1) := by decide +kernel
theorem d_Model_masked_34 : decode c_Model_masked 34 = .ok (.goto 16, 3) := by decide +kernel
theorem d_Model_masked_37 : decode c_Model_masked 37 = .ok (.iload_n 0, 1) := by decide +kernel
theorem d_Model_masked_38 : decode c_Model_masked 38 = .ok (.iconst 4, 1) := by decide +kernel
theorem d_Model_masked_39 : decode c_Model_masked 39 = .ok (.if_icmp .ne 10, 3) := by decide +kernel
theorem d_Model_masked_42 : decode c_Model_masked 42 = .ok (.iload_n 1, 1) := by decide +kernel
theorem d_Model_masked_43 : decode c_Model_masked 43 = .ok (.bipush (-4), 2) := by decide +kernel
theorem d_Model_masked_45 : decode c_Model_masked 45 = .ok (.iand, 1) := by decide +kernel
theorem d_Model_masked_46 : decode c_Model_masked 46 = .ok (.goto 4, 3) := by decide +kernel
theorem d_Model_masked_49 : decode c_Model_masked 49 = .ok (.iload_n 1, 1) := by decide +kernel
theorem d_Model_masked_50 : decode c_Model_masked 50 = .ok (.ireturn, 1) := by decide +kernel
abbrev c_Model_controlValue : ByteArray := prog_14_method_52_code
def y_Model_controlValue : MethodName := ⟨"CycleChipModel", "controlValue", "(I)I"⟩
theorem d_Model_controlValue_0 : decode c_Model_controlValue 0 = .ok (.iload_n 1, 1) := by decide +kernel
theorem d_Model_controlValue_1 : decode c_Model_controlValue 1 = .ok (.ifCond .ge 7, 3) := by decide +kernel
theorem d_Model_controlValue_4 : decode c_Model_controlValue 4 = .ok (.iconst 0, 1) := by decide +kernel
theorem d_Model_controlValue_5 : decode c_Model_controlValue 5 = .ok (.goto 35, 3) := by decide +kernel
theorem d_Model_controlValue_8 : decode c_Model_controlValue 8 = .ok (.iload_n 1, 1) := by decide +kernel
theorem d_Model_controlValue_9 : decode c_Model_controlValue 9 = .ok (.bipush 8, 2) := by decide +kernel
theorem d_Model_controlValue_11 : decode c_Model_controlValue 11 = .ok (.if_icmp .ne 10, 3) := by decide +kernel
theorem d_Model_controlValue_14 : decode c_Model_controlValue 14 = .ok (.aload_n 0, 1) := by decide +kernel
theorem d_Model_controlValue_15 : decode c_Model_controlValue 15 = .ok (.getfield 108, 3) := by decide +kernel
theorem d_Model_controlValue_18 : decode c_Model_controlValue 18 = .ok (.goto 22, 3) := by decide +kernel
theorem d_Model_controlValue_21 : decode c_Model_controlValue 21 = .ok (.iload_n 1, 1) := by decide +kernel
theorem d_Model_controlValue_22 : decode c_Model_controlValue 22 = .ok (.bipush 7, 2) := by decide +kernel
theorem d_Model_controlValue_24 : decode c_Model_controlValue 24 = .ok (.if_icmp .ne 10, 3) := by decide +kernel
theorem d_Model_controlValue_27 : decode c_Model_controlValue 27 = .ok (.aload_n 0, 1) := by decide +kernel
theorem d_Model_controlValue_28 : decode c_Model_controlValue 28 = .ok (.invokevirtual 210, 3) := by decide +kernel
theorem d_Model_controlValue_31 : decode c_Model_controlValue 31 = .ok (.goto 9, 3) := by decide +kernel
theorem d_Model_controlValue_34 : decode c_Model_controlValue 34 = .ok (.aload_n 0, 1) := by decide +kernel
theorem d_Model_controlValue_35 : decode c_Model_controlValue 35 = .ok (.getfield 29, 3) := by decide +kernel
theorem d_Model_controlValue_38 : decode c_Model_controlValue 38 = .ok (.iload_n 1, 1) := by decide +kernel
theorem d_Model_controlValue_39 : decode c_Model_controlValue 39 = .ok (.iaload, 1) := by decide +kernel
theorem d_Model_controlValue_40 : decode c_Model_controlValue 40 = .ok (.ireturn, 1) := by decide +kernel
abbrev c_Model_priority : ByteArray := prog_14_method_53_code
def y_Model_priority : MethodName := ⟨"CycleChipModel", "priority", "(I)I"⟩
theorem d_Model_priority_0 : decode c_Model_priority 0 = .ok (.aload_n 0, 1) := by decide +kernel
theorem d_Model_priority_1 : decode c_Model_priority 1 = .ok (.getfield 292, 3) := by decide +kernel
theorem d_Model_priority_4 : decode c_Model_priority 4 = .ok (.iconst 4, 1) := by decide +kernel
theorem d_Model_priority_5 : decode c_Model_priority 5 = .ok (.iload_n 1, 1) := by decide +kernel
theorem d_Model_priority_6 : decode c_Model_priority 6 = .ok (.imul, 1) := by decide +kernel
theorem d_Model_priority_7 : decode c_Model_priority 7 = .ok (.ishr, 1) := by decide +kernel
theorem d_Model_priority_8 : decode c_Model_priority 8 = .ok (.bipush 7, 2) := by decide +kernel
theorem d_Model_priority_10 : decode c_Model_priority 10 = .ok (.iand, 1) := by decide +kernel
theorem d_Model_priority_11 : decode c_Model_priority 11 = .ok (.ireturn, 1) := by decide +kernel
abbrev c_Model_best : ByteArray := prog_14_method_54_code
def y_Model_best : MethodName := ⟨"CycleChipModel", "best", "()I"⟩
theorem d_Model_best_0 : decode c_Model_best 0 = .ok (.iconst 0, 1) := by decide +kernel
theorem d_Model_best_1 : decode c_Model_best 1 = .ok (.istore_n 1, 1) := by decide +kernel
theorem d_Model_best_2 : decode c_Model_best 2 = .ok (.bipush 7, 2) := by decide +kernel
theorem d_Model_best_4 : decode c_Model_best 4 = .ok (.istore_n 2, 1) := by decide +kernel
theorem d_Model_best_5 : decode c_Model_best 5 = .ok (.iload_n 2, 1) := by decide +kernel
theorem d_Model_best_6 : decode c_Model_best 6 = .ok (.iconst 1, 1) := by decide +kernel
theorem d_Model_best_7 : decode c_Model_best 7 = .ok (.if_icmp .lt 71, 3) := by decide +kernel
theorem d_Model_best_10 : decode c_Model_best 10 = .ok (.aload_n 0, 1) := by decide +kernel
theorem d_Model_best_11 : decode c_Model_best 11 = .ok (.iload_n 2, 1) := by decide +kernel
theorem d_Model_best_12 : decode c_Model_best 12 = .ok (.invokevirtual 295, 3) := by decide +kernel
theorem d_Model_best_15 : decode c_Model_best 15 = .ok (.istore_n 3, 1) := by decide +kernel
theorem d_Model_best_16 : decode c_Model_best 16 = .ok (.aload_n 0, 1) := by decide +kernel
theorem d_Model_best_17 : decode c_Model_best 17 = .ok (.getfield 64, 3) := by decide +kernel
theorem d_Model_best_20 : decode c_Model_best 20 = .ok (.iload_n 2, 1) := by decide +kernel
theorem d_Model_best_21 : decode c_Model_best 21 = .ok (.baload, 1) := by decide +kernel
theorem d_Model_best_22 : decode c_Model_best 22 = .ok (.ifCond .eq 27, 3) := by decide +kernel
theorem d_Model_best_25 : decode c_Model_best 25 = .ok (.aload_n 0, 1) := by decide +kernel
theorem d_Model_best_26 : decode c_Model_best 26 = .ok (.getfield 298, 3) := by decide +kernel
theorem d_Model_best_29 : decode c_Model_best 29 = .ok (.iload_n 2, 1) := by decide +kernel
theorem d_Model_best_30 : decode c_Model_best 30 = .ok (.ishr, 1) := by decide +kernel
theorem d_Model_best_31 : decode c_Model_best 31 = .ok (.iconst 1, 1) := by decide +kernel
theorem d_Model_best_32 : decode c_Model_best 32 = .ok (.iand, 1) := by decide +kernel
theorem d_Model_best_33 : decode c_Model_best 33 = .ok (.iconst 1, 1) := by decide +kernel
theorem d_Model_best_34 : decode c_Model_best 34 = .ok (.if_icmp .ne 15, 3) := by decide +kernel
theorem d_Model_best_37 : decode c_Model_best 37 = .ok (.iload_n 3, 1) := by decide +kernel
theorem d_Model_best_38 : decode c_Model_best 38 = .ok (.aload_n 0, 1) := by decide +kernel
theorem d_Model_best_39 : decode c_Model_best 39 = .ok (.getfield 301, 3) := by decide +kernel
theorem d_Model_best_42 : decode c_Model_best 42 = .ok (.if_icmp .le 7, 3) := by decide +kernel
theorem d_Model_best_45 : decode c_Model_best 45 = .ok (.iconst 1, 1) := by decide +kernel
theorem d_Model_best_46 : decode c_Model_best 46 = .ok (.goto 4, 3) := by decide +kernel
theorem d_Model_best_49 : decode c_Model_best 49 = .ok (.iconst 0, 1) := by decide +kernel
theorem d_Model_best_50 : decode c_Model_best 50 = .ok (.istore 4, 2) := by decide +kernel
theorem d_Model_best_52 : decode c_Model_best 52 = .ok (.iload 4, 2) := by decide +kernel
theorem d_Model_best_54 : decode c_Model_best 54 = .ok (.ifCond .eq 18, 3) := by decide +kernel
theorem d_Model_best_57 : decode c_Model_best 57 = .ok (.iload_n 1, 1) := by decide +kernel
theorem d_Model_best_58 : decode c_Model_best 58 = .ok (.ifCond .eq 12, 3) := by decide +kernel
theorem d_Model_best_61 : decode c_Model_best 61 = .ok (.iload_n 3, 1) := by decide +kernel
theorem d_Model_best_62 : decode c_Model_best 62 = .ok (.aload_n 0, 1) := by decide +kernel
theorem d_Model_best_63 : decode c_Model_best 63 = .ok (.iload_n 1, 1) := by decide +kernel
theorem d_Model_best_64 : decode c_Model_best 64 = .ok (.invokevirtual 295, 3) := by decide +kernel
theorem d_Model_best_67 : decode c_Model_best 67 = .ok (.if_icmp .lt 5, 3) := by decide +kernel
theorem d_Model_best_70 : decode c_Model_best 70 = .ok (.iload_n 2, 1) := by decide +kernel
theorem d_Model_best_71 : decode c_Model_best 71 = .ok (.istore_n 1, 1) := by decide +kernel
theorem d_Model_best_72 : decode c_Model_best 72 = .ok (.iinc 2 (-1), 3) := by decide +kernel
theorem d_Model_best_75 : decode c_Model_best 75 = .ok (.goto (-70), 3) := by decide +kernel
theorem d_Model_best_78 : decode c_Model_best 78 = .ok (.iload_n 1, 1) := by decide +kernel
theorem d_Model_best_79 : decode c_Model_best 79 = .ok (.ireturn, 1) := by decide +kernel
abbrev c_Model_device : ByteArray := prog_14_method_55_code
def y_Model_device : MethodName := ⟨"CycleChipModel", "device", "()V"⟩
theorem d_Model_device_0 : decode c_Model_device 0 = .ok (.aload_n 0, 1) := by decide +kernel
theorem d_Model_device_1 : decode c_Model_device 1 = .ok (.getfield 270, 3) := by decide +kernel
theorem d_Model_device_4 : decode c_Model_device 4 = .ok (.ifCond .eq 20, 3) := by decide +kernel
theorem d_Model_device_7 : decode c_Model_device 7 = .ok (.aload_n 0, 1) := by decide +kernel
theorem d_Model_device_8 : decode c_Model_device 8 = .ok (.invokevirtual 304, 3) := by decide +kernel
theorem d_Model_device_11 : decode c_Model_device 11 = .ok (.aload_n 0, 1) := by decide +kernel
theorem d_Model_device_12 : decode c_Model_device 12 = .ok (.aload_n 0, 1) := by decide +kernel
theorem d_Model_device_13 : decode c_Model_device 13 = .ok (.getfield 95, 3) := by decide +kernel
theorem d_Model_device_16 : decode c_Model_device 16 = .ok (.iconst 4, 1) := by decide +kernel
theorem d_Model_device_17 : decode c_Model_device 17 = .ok (.iadd, 1) := by decide +kernel
theorem d_Model_device_18 : decode c_Model_device 18 = .ok (.invokevirtual 196, 3) := by decide +kernel
theorem d_Model_device_21 : decode c_Model_device 21 = .ok (.goto 17, 3) := by decide +kernel
theorem d_Model_device_24 : decode c_Model_device 24 = .ok (.aload_n 0, 1) := by decide +kernel
theorem d_Model_device_25 : decode c_Model_device 25 = .ok (.invokevirtual 307, 3) := by decide +kernel
theorem d_Model_device_28 : decode c_Model_device 28 = .ok (.istore_n 1, 1) := by decide +kernel
theorem d_Model_device_29 : decode c_Model_device 29 = .ok (.aload_n 0, 1) := by decide +kernel
theorem d_Model_device_30 : decode c_Model_device 30 = .ok (.aload_n 0, 1) := by decide +kernel
theorem d_Model_device_31 : decode c_Model_device 31 = .ok (.getfield 276, 3) := by decide +kernel
theorem d_Model_device_34 : decode c_Model_device 34 = .ok (.iload_n 1, 1) := by decide +kernel
theorem d_Model_device_35 : decode c_Model_device 35 = .ok (.invokevirtual 226, 3) := by decide +kernel
theorem d_Model_device_38 : decode c_Model_device 38 = .ok (.return_, 1) := by decide +kernel
abbrev c_Model_loaded : ByteArray := prog_14_method_56_code
def y_Model_loaded : MethodName := ⟨"CycleChipModel", "loaded", "()I"⟩
theorem d_Model_loaded_0 : decode c_Model_loaded 0 = .ok (.aload_n 0, 1) := by decide +kernel
theorem d_Model_loaded_1 : decode c_Model_loaded 1 = .ok (.getfield 267, 3) := by decide +kernel
theorem d_Model_loaded_4 : decode c_Model_loaded 4 = .ok (.tableswitch 206 0 15 #[80, 86, 95, 101, 110, 115, 120, 125, 131, 206, 206, 206, 136, 141, 196, 201], 80) := by decide +kernel
theorem d_Model_loaded_84 : decode c_Model_loaded 84 = .ok (.aload_n 0, 1) := by decide +kernel
theorem d_Model_loaded_85 : decode c_Model_loaded 85 = .ok (.getfield 129, 3) := by decide +kernel
theorem d_Model_loaded_88 : decode c_Model_loaded 88 = .ok (.l2i, 1) := by decide +kernel
theorem d_Model_loaded_89 : decode c_Model_loaded 89 = .ok (.ireturn, 1) := by decide +kernel
theorem d_Model_loaded_90 : decode c_Model_loaded 90 = .ok (.aload_n 0, 1) := by decide +kernel
theorem d_Model_loaded_91 : decode c_Model_loaded 91 = .ok (.getfield 129, 3) := by decide +kernel
theorem d_Model_loaded_94 : decode c_Model_loaded 94 = .ok (.bipush 32, 2) := by decide +kernel
theorem d_Model_loaded_96 : decode c_Model_loaded 96 = .ok (.lshr, 1) := by decide +kernel
theorem d_Model_loaded_97 : decode c_Model_loaded 97 = .ok (.l2i, 1) := by decide +kernel
theorem d_Model_loaded_98 : decode c_Model_loaded 98 = .ok (.ireturn, 1) := by decide +kernel
theorem d_Model_loaded_99 : decode c_Model_loaded 99 = .ok (.aload_n 0, 1) := by decide +kernel
theorem d_Model_loaded_100 : decode c_Model_loaded 100 = .ok (.getfield 57, 3) := by decide +kernel
theorem d_Model_loaded_103 : decode c_Model_loaded 103 = .ok (.l2i, 1) := by decide +kernel
theorem d_Model_loaded_104 : decode c_Model_loaded 104 = .ok (.ireturn, 1) := by decide +kernel
theorem d_Model_loaded_105 : decode c_Model_loaded 105 = .ok (.aload_n 0, 1) := by decide +kernel
theorem d_Model_loaded_106 : decode c_Model_loaded 106 = .ok (.getfield 57, 3) := by decide +kernel
theorem d_Model_loaded_109 : decode c_Model_loaded 109 = .ok (.bipush 32, 2) := by decide +kernel
theorem d_Model_loaded_111 : decode c_Model_loaded 111 = .ok (.lshr, 1) := by decide +kernel
theorem d_Model_loaded_112 : decode c_Model_loaded 112 = .ok (.l2i, 1) := by decide +kernel
theorem d_Model_loaded_113 : decode c_Model_loaded 113 = .ok (.ireturn, 1) := by decide +kernel
theorem d_Model_loaded_114 : decode c_Model_loaded 114 = .ok (.aload_n 0, 1) := by decide +kernel
theorem d_Model_loaded_115 : decode c_Model_loaded 115 = .ok (.getfield 298, 3) := by decide +kernel
theorem d_Model_loaded_118 : decode c_Model_loaded 118 = .ok (.ireturn, 1) := by decide +kernel
theorem d_Model_loaded_119 : decode c_Model_loaded 119 = .ok (.aload_n 0, 1) := by decide +kernel
theorem d_Model_loaded_120 : decode c_Model_loaded 120 = .ok (.getfield 301, 3) := by decide +kernel
theorem d_Model_loaded_123 : decode c_Model_loaded 123 = .ok (.ireturn, 1) := by decide +kernel
theorem d_Model_loaded_124 : decode c_Model_loaded 124 = .ok (.aload_n 0, 1) := by decide +kernel
theorem d_Model_loaded_125 : decode c_Model_loaded 125 = .ok (.invokevirtual 310, 3) := by decide +kernel
theorem d_Model_loaded_128 : decode c_Model_loaded 128 = .ok (.ireturn, 1) := by decide +kernel
theorem d_Model_loaded_129 : decode c_Model_loaded 129 = .ok (.aload_n 0, 1) := by decide +kernel
theorem d_Model_loaded_130 : decode c_Model_loaded 130 = .ok (.iconst 0, 1) := by decide +kernel
theorem d_Model_loaded_131 : decode c_Model_loaded 131 = .ok (.invokevirtual 150, 3) := by decide +kernel
theorem d_Model_loaded_134 : decode c_Model_loaded 134 = .ok (.ireturn, 1) := by decide +kernel
theorem d_Model_loaded_135 : decode c_Model_loaded 135 = .ok (.aload_n 0, 1) := by decide +kernel
theorem d_Model_loaded_136 : decode c_Model_loaded 136 = .ok (.getfield 292, 3) := by decide +kernel
theorem d_Model_loaded_139 : decode c_Model_loaded 139 = .ok (.ireturn, 1) := by decide +kernel
theorem d_Model_loaded_140 : decode c_Model_loaded 140 = .ok (.aload_n 0, 1) := by decide +kernel
theorem d_Model_loaded_141 : decode c_Model_loaded 141 = .ok (.invokevirtual 313, 3) := by decide +kernel
theorem d_Model_loaded_144 : decode c_Model_loaded 144 = .ok (.ireturn, 1) := by decide +kernel
theorem d_Model_loaded_145 : decode c_Model_loaded 145 = .ok (.aload_n 0, 1) := by decide +kernel
theorem d_Model_loaded_146 : decode c_Model_loaded 146 = .ok (.getfield 141, 3) := by decide +kernel
theorem d_Model_loaded_149 : decode c_Model_loaded 149 = .ok (.ifCond .le 7, 3) := by decide +kernel
theorem d_Model_loaded_152 : decode c_Model_loaded 152 = .ok (.iconst 1, 1) := by decide +kernel
theorem d_Model_loaded_153 : decode c_Model_loaded 153 = .ok (.goto 4, 3) := by decide +kernel
theorem d_Model_loaded_156 : decode c_Model_loaded 156 = .ok (.iconst 0, 1) := by decide +kernel
theorem d_Model_loaded_157 : decode c_Model_loaded 157 = .ok (.aload_n 0, 1) := by decide +kernel
theorem d_Model_loaded_158 : decode c_Model_loaded 158 = .ok (.getfield 138, 3) := by decide +kernel
theorem d_Model_loaded_161 : decode c_Model_loaded 161 = .ok (.bipush 8, 2) := by decide +kernel
theorem d_Model_loaded_163 : decode c_Model_loaded 163 = .ok (.if_icmp .ne 7, 3) := by decide +kernel
theorem d_Model_loaded_166 : decode c_Model_loaded 166 = .ok (.iconst 2, 1) := by decide +kernel
theorem d_Model_loaded_167 : decode c_Model_loaded 167 = .ok (.goto 4, 3) := by decide +kernel
theorem d_Model_loaded_170 : decode c_Model_loaded 170 = .ok (.iconst 0, 1) := by decide +kernel
theorem d_Model_loaded_171 : decode c_Model_loaded 171 = .ok (.iadd, 1) := by decide +kernel
theorem d_Model_loaded_172 : decode c_Model_loaded 172 = .ok (.aload_n 0, 1) := by decide +kernel
theorem d_Model_loaded_173 : decode c_Model_loaded 173 = .ok (.getfield 158, 3) := by decide +kernel
theorem d_Model_loaded_176 : decode c_Model_loaded 176 = .ok (.ifCond .eq 7, 3) := by decide +kernel
theorem d_Model_loaded_179 : decode c_Model_loaded 179 = .ok (.iconst 4, 1) := by decide +kernel
theorem d_Model_loaded_180 : decode c_Model_loaded 180 = .ok (.goto 4, 3) := by decide +kernel
theorem d_Model_loaded_183 : decode c_Model_loaded 183 = .ok (.iconst 0, 1) := by decide +kernel
theorem d_Model_loaded_184 : decode c_Model_loaded 184 = .ok (.iadd, 1) := by decide +kernel
theorem d_Model_loaded_185 : decode c_Model_loaded 185 = .ok (.aload_n 0, 1) := by decide +kernel
theorem d_Model_loaded_186 : decode c_Model_loaded 186 = .ok (.getfield 161, 3) := by decide +kernel
theorem d_Model_loaded_189 : decode c_Model_loaded 189 = .ok (.ifCond .eq 8, 3) := by decide +kernel
theorem d_Model_loaded_192 : decode c_Model_loaded 192 = .ok (.bipush 8, 2) := by decide +kernel
theorem d_Model_loaded_194 : decode c_Model_loaded 194 = .ok (.goto 4, 3) := by decide +kernel
theorem d_Model_loaded_197 : decode c_Model_loaded 197 = .ok (.iconst 0, 1) := by decide +kernel
theorem d_Model_loaded_198 : decode c_Model_loaded 198 = .ok (.iadd, 1) := by decide +kernel
theorem d_Model_loaded_199 : decode c_Model_loaded 199 = .ok (.ireturn, 1) := by decide +kernel
theorem d_Model_loaded_200 : decode c_Model_loaded 200 = .ok (.aload_n 0, 1) := by decide +kernel
theorem d_Model_loaded_201 : decode c_Model_loaded 201 = .ok (.getfield 76, 3) := by decide +kernel
theorem d_Model_loaded_204 : decode c_Model_loaded 204 = .ok (.ireturn, 1) := by decide +kernel
theorem d_Model_loaded_205 : decode c_Model_loaded 205 = .ok (.aload_n 0, 1) := by decide +kernel
theorem d_Model_loaded_206 : decode c_Model_loaded 206 = .ok (.getfield 172, 3) := by decide +kernel
theorem d_Model_loaded_209 : decode c_Model_loaded 209 = .ok (.ireturn, 1) := by decide +kernel
theorem d_Model_loaded_210 : decode c_Model_loaded 210 = .ok (.iconst 0, 1) := by decide +kernel
theorem d_Model_loaded_211 : decode c_Model_loaded 211 = .ok (.ireturn, 1) := by decide +kernel
abbrev c_Model_claim : ByteArray := prog_14_method_57_code
def y_Model_claim : MethodName := ⟨"CycleChipModel", "claim", "()I"⟩
theorem d_Model_claim_0 : decode c_Model_claim 0 = .ok (.aload_n 0, 1) := by decide +kernel
theorem d_Model_claim_1 : decode c_Model_claim 1 = .ok (.invokevirtual 206, 3) := by decide +kernel
theorem d_Model_claim_4 : decode c_Model_claim 4 = .ok (.istore_n 1, 1) := by decide +kernel
theorem d_Model_claim_5 : decode c_Model_claim 5 = .ok (.iload_n 1, 1) := by decide +kernel
theorem d_Model_claim_6 : decode c_Model_claim 6 = .ok (.ifCond .le 17, 3) := by decide +kernel
theorem d_Model_claim_9 : decode c_Model_claim 9 = .ok (.aload_n 0, 1) := by decide +kernel
theorem d_Model_claim_10 : decode c_Model_claim 10 = .ok (.getfield 64, 3) := by decide +kernel
theorem d_Model_claim_13 : decode c_Model_claim 13 = .ok (.iload_n 1, 1) := by decide +kernel
theorem d_Model_claim_14 : decode c_Model_claim 14 = .ok (.iconst 0, 1) := by decide +kernel
theorem d_Model_claim_15 : decode c_Model_claim 15 = .ok (.bastore, 1) := by decide +kernel
theorem d_Model_claim_16 : decode c_Model_claim 16 = .ok (.aload_n 0, 1) := by decide +kernel
theorem d_Model_claim_17 : decode c_Model_claim 17 = .ok (.getfield 67, 3) := by decide +kernel
theorem d_Model_claim_20 : decode c_Model_claim 20 = .ok (.iload_n 1, 1) := by decide +kernel
theorem d_Model_claim_21 : decode c_Model_claim 21 = .ok (.iconst 1, 1) := by decide +kernel
theorem d_Model_claim_22 : decode c_Model_claim 22 = .ok (.bastore, 1) := by decide +kernel
theorem d_Model_claim_23 : decode c_Model_claim 23 = .ok (.iload_n 1, 1) := by decide +kernel
theorem d_Model_claim_24 : decode c_Model_claim 24 = .ok (.ireturn, 1) := by decide +kernel
abbrev c_Model_takeByte : ByteArray := prog_14_method_58_code
def y_Model_takeByte : MethodName := ⟨"CycleChipModel", "takeByte", "()I"⟩
theorem d_Model_takeByte_0 : decode c_Model_takeByte 0 = .ok (.aload_n 0, 1) := by decide +kernel
theorem d_Model_takeByte_1 : decode c_Model_takeByte 1 = .ok (.getfield 141, 3) := by decide +kernel
theorem d_Model_takeByte_4 : decode c_Model_takeByte 4 = .ok (.ifCond .ne 5, 3) := by decide +kernel
theorem d_Model_takeByte_7 : decode c_Model_takeByte 7 = .ok (.iconst (-1), 1) := by decide +kernel
theorem d_Model_takeByte_8 : decode c_Model_takeByte 8 = .ok (.ireturn, 1) := by decide +kernel
theorem d_Model_takeByte_9 : decode c_Model_takeByte 9 = .ok (.aload_n 0, 1) := by decide +kernel
theorem d_Model_takeByte_10 : decode c_Model_takeByte 10 = .ok (.getfield 70, 3) := by decide +kernel
theorem d_Model_takeByte_13 : decode c_Model_takeByte 13 = .ok (.iconst 0, 1) := by decide +kernel
theorem d_Model_takeByte_14 : decode c_Model_takeByte 14 = .ok (.iaload, 1) := by decide +kernel
theorem d_Model_takeByte_15 : decode c_Model_takeByte 15 = .ok (.istore_n 1, 1) := by decide +kernel
theorem d_Model_takeByte_16 : decode c_Model_takeByte 16 = .ok (.aload_n 0, 1) := by decide +kernel
theorem d_Model_takeByte_17 : decode c_Model_takeByte 17 = .ok (.dup, 1) := by decide +kernel
theorem d_Model_takeByte_18 : decode c_Model_takeByte 18 = .ok (.getfield 141, 3) := by decide +kernel
theorem d_Model_takeByte_21 : decode c_Model_takeByte 21 = .ok (.iconst 1, 1) := by decide +kernel
theorem d_Model_takeByte_22 : decode c_Model_takeByte 22 = .ok (.isub, 1) := by decide +kernel
theorem d_Model_takeByte_23 : decode c_Model_takeByte 23 = .ok (.putfield 141, 3) := by decide +kernel
theorem d_Model_takeByte_26 : decode c_Model_takeByte 26 = .ok (.iconst 0, 1) := by decide +kernel
theorem d_Model_takeByte_27 : decode c_Model_takeByte 27 = .ok (.istore_n 2, 1) := by decide +kernel
theorem d_Model_takeByte_28 : decode c_Model_takeByte 28 = .ok (.iload_n 2, 1) := by decide +kernel
theorem d_Model_takeByte_29 : decode c_Model_takeByte 29 = .ok (.aload_n 0, 1) := by decide +kernel
theorem d_Model_takeByte_30 : decode c_Model_takeByte 30 = .ok (.getfield 141, 3) := by decide +kernel
theorem d_Model_takeByte_33 : decode c_Model_takeByte 33 = .ok (.if_icmp .ge 23, 3) := by decide +kernel
theorem d_Model_takeByte_36 : decode c_Model_takeByte 36 = .ok (.aload_n 0, 1) := by decide +kernel
theorem d_Model_takeByte_37 : decode c_Model_takeByte 37 = .ok (.getfield 70, 3) := by decide +kernel
theorem d_Model_takeByte_40 : decode c_Model_takeByte 40 = .ok (.iload_n 2, 1) := by decide +kernel
theorem d_Model_takeByte_41 : decode c_Model_takeByte 41 = .ok (.aload_n 0, 1) := by decide +kernel
theorem d_Model_takeByte_42 : decode c_Model_takeByte 42 = .ok (.getfield 70, 3) := by decide +kernel
theorem d_Model_takeByte_45 : decode c_Model_takeByte 45 = .ok (.iload_n 2, 1) := by decide +kernel
theorem d_Model_takeByte_46 : decode c_Model_takeByte 46 = .ok (.iconst 1, 1) := by decide +kernel
theorem d_Model_takeByte_47 : decode c_Model_takeByte 47 = .ok (.iadd, 1) := by decide +kernel
theorem d_Model_takeByte_48 : decode c_Model_takeByte 48 = .ok (.iaload, 1) := by decide +kernel
theorem d_Model_takeByte_49 : decode c_Model_takeByte 49 = .ok (.iastore, 1) := by decide +kernel
theorem d_Model_takeByte_50 : decode c_Model_takeByte 50 = .ok (.iinc 2 1, 3) := by decide +kernel
theorem d_Model_takeByte_53 : decode c_Model_takeByte 53 = .ok (.goto (-25), 3) := by decide +kernel
theorem d_Model_takeByte_56 : decode c_Model_takeByte 56 = .ok (.iload_n 1, 1) := by decide +kernel
theorem d_Model_takeByte_57 : decode c_Model_takeByte 57 = .ok (.ireturn, 1) := by decide +kernel
abbrev c_Model_joinWords : ByteArray := prog_14_method_59_code
def y_Model_joinWords : MethodName := ⟨"CycleChipModel", "joinWords", "(IJ)J"⟩
theorem d_Model_joinWords_0 : decode c_Model_joinWords 0 = .ok (.iload_n 0, 1) := by decide +kernel
theorem d_Model_joinWords_1 : decode c_Model_joinWords 1 = .ok (.i2l, 1) := by decide +kernel
theorem d_Model_joinWords_2 : decode c_Model_joinWords 2 = .ok (.bipush 32, 2) := by decide +kernel
theorem d_Model_joinWords_4 : decode c_Model_joinWords 4 = .ok (.lshl, 1) := by decide +kernel
theorem d_Model_joinWords_5 : decode c_Model_joinWords 5 = .ok (.lload_n 1, 1) := by decide +kernel
theorem d_Model_joinWords_6 : decode c_Model_joinWords 6 = .ok (.ldc2_w 93, 3) := by decide +kernel
theorem d_Model_joinWords_9 : decode c_Model_joinWords 9 = .ok (.land, 1) := by decide +kernel
theorem d_Model_joinWords_10 : decode c_Model_joinWords 10 = .ok (.lor, 1) := by decide +kernel
theorem d_Model_joinWords_11 : decode c_Model_joinWords 11 = .ok (.lreturn, 1) := by decide +kernel
abbrev c_Model_putDevice : ByteArray := prog_14_method_60_code
def y_Model_putDevice : MethodName := ⟨"CycleChipModel", "putDevice", "()V"⟩
theorem d_Model_putDevice_0 : decode c_Model_putDevice 0 = .ok (.aload_n 0, 1) := by decide +kernel
theorem d_Model_putDevice_1 : decode c_Model_putDevice 1 = .ok (.getfield 273, 3) := by decide +kernel
theorem d_Model_putDevice_4 : decode c_Model_putDevice 4 = .ok (.istore_n 1, 1) := by decide +kernel
theorem d_Model_putDevice_5 : decode c_Model_putDevice 5 = .ok (.aload_n 0, 1) := by decide +kernel
theorem d_Model_putDevice_6 : decode c_Model_putDevice 6 = .ok (.getfield 267, 3) := by decide +kernel
theorem d_Model_putDevice_9 : decode c_Model_putDevice 9 = .ok (.tableswitch 282 0 15 #[79, 99, 114, 134, 149, 161, 172, 282, 192, 282, 282, 282, 204, 240, 248, 272], 79) := by decide +kernel
theorem d_Model_putDevice_88 : decode c_Model_putDevice 88 = .ok (.aload_n 0, 1) := by decide +kernel
theorem d_Model_putDevice_89 : decode c_Model_putDevice 89 = .ok (.aload_n 0, 1) := by decide +kernel
theorem d_Model_putDevice_90 : decode c_Model_putDevice 90 = .ok (.getfield 129, 3) := by decide +kernel
theorem d_Model_putDevice_93 : decode c_Model_putDevice 93 = .ok (.bipush 32, 2) := by decide +kernel
theorem d_Model_putDevice_95 : decode c_Model_putDevice 95 = .ok (.lshr, 1) := by decide +kernel
theorem d_Model_putDevice_96 : decode c_Model_putDevice 96 = .ok (.l2i, 1) := by decide +kernel
theorem d_Model_putDevice_97 : decode c_Model_putDevice 97 = .ok (.iload_n 1, 1) := by decide +kernel
theorem d_Model_putDevice_98 : decode c_Model_putDevice 98 = .ok (.i2l, 1) := by decide +kernel
theorem d_Model_putDevice_99 : decode c_Model_putDevice 99 = .ok (.invokestatic 316, 3) := by decide +kernel
theorem d_Model_putDevice_102 : decode c_Model_putDevice 102 = .ok (.putfield 129, 3) := by decide +kernel
theorem d_Model_putDevice_105 : decode c_Model_putDevice 105 = .ok (.goto 186, 3) := by decide +kernel
theorem d_Model_putDevice_108 : decode c_Model_putDevice 108 = .ok (.aload_n 0, 1) := by decide +kernel
theorem d_Model_putDevice_109 : decode c_Model_putDevice 109 = .ok (.iload_n 1, 1) := by decide +kernel
theorem d_Model_putDevice_110 : decode c_Model_putDevice 110 = .ok (.aload_n 0, 1) := by decide +kernel
theorem d_Model_putDevice_111 : decode c_Model_putDevice 111 = .ok (.getfield 129, 3) := by decide +kernel
theorem d_Model_putDevice_114 : decode c_Model_putDevice 114 = .ok (.invokestatic 316, 3) := by decide +kernel
theorem d_Model_putDevice_117 : decode c_Model_putDevice 117 = .ok (.putfield 129, 3) := by decide +kernel
theorem d_Model_putDevice_120 : decode c_Model_putDevice 120 = .ok (.goto 171, 3) := by decide +kernel
theorem d_Model_putDevice_123 : decode c_Model_putDevice 123 = .ok (.aload_n 0, 1) := by decide +kernel
theorem d_Model_putDevice_124 : decode c_Model_putDevice 124 = .ok (.aload_n 0, 1) := by decide +kernel
theorem d_Model_putDevice_125 : decode c_Model_putDevice 125 = .ok (.getfield 57, 3) := by decide +kernel
theorem d_Model_putDevice_128 : decode c_Model_putDevice 128 = .ok (.bipush 32, 2) := by decide +kernel
theorem d_Model_putDevice_130 : decode c_Model_putDevice 130 = .ok (.lshr, 1) := by decide +kernel
theorem d_Model_putDevice_131 : decode c_Model_putDevice 131 = .ok (.l2i, 1) := by decide +kernel
theorem d_Model_putDevice_132 : decode c_Model_putDevice 132 = .ok (.iload_n 1, 1) := by decide +kernel
theorem d_Model_putDevice_133 : decode c_Model_putDevice 133 = .ok (.i2l, 1) := by decide +kernel
theorem d_Model_putDevice_134 : decode c_Model_putDevice 134 = .ok (.invokestatic 316, 3) := by decide +kernel
theorem d_Model_putDevice_137 : decode c_Model_putDevice 137 = .ok (.putfield 57, 3) := by decide +kernel
theorem d_Model_putDevice_140 : decode c_Model_putDevice 140 = .ok (.goto 151, 3) := by decide +kernel
theorem d_Model_putDevice_143 : decode c_Model_putDevice 143 = .ok (.aload_n 0, 1) := by decide +kernel
theorem d_Model_putDevice_144 : decode c_Model_putDevice 144 = .ok (.iload_n 1, 1) := by decide +kernel
theorem d_Model_putDevice_145 : decode c_Model_putDevice 145 = .ok (.aload_n 0, 1) := by decide +kernel
theorem d_Model_putDevice_146 : decode c_Model_putDevice 146 = .ok (.getfield 57, 3) := by decide +kernel
theorem d_Model_putDevice_149 : decode c_Model_putDevice 149 = .ok (.invokestatic 316, 3) := by decide +kernel
theorem d_Model_putDevice_152 : decode c_Model_putDevice 152 = .ok (.putfield 57, 3) := by decide +kernel
theorem d_Model_putDevice_155 : decode c_Model_putDevice 155 = .ok (.goto 136, 3) := by decide +kernel
theorem d_Model_putDevice_158 : decode c_Model_putDevice 158 = .ok (.aload_n 0, 1) := by decide +kernel
theorem d_Model_putDevice_159 : decode c_Model_putDevice 159 = .ok (.iload_n 1, 1) := by decide +kernel
theorem d_Model_putDevice_160 : decode c_Model_putDevice 160 = .ok (.sipush 254, 3) := by decide +kernel
theorem d_Model_putDevice_163 : decode c_Model_putDevice 163 = .ok (.iand, 1) := by decide +kernel
theorem d_Model_putDevice_164 : decode c_Model_putDevice 164 = .ok (.putfield 298, 3) := by decide +kernel
theorem d_Model_putDevice_167 : decode c_Model_putDevice 167 = .ok (.goto 124, 3) := by decide +kernel
theorem d_Model_putDevice_170 : decode c_Model_putDevice 170 = .ok (.aload_n 0, 1) := by decide +kernel
theorem d_Model_putDevice_171 : decode c_Model_putDevice 171 = .ok (.iload_n 1, 1) := by decide +kernel
theorem d_Model_putDevice_172 : decode c_Model_putDevice 172 = .ok (.bipush 7, 2) := by decide +kernel
theorem d_Model_putDevice_174 : decode c_Model_putDevice 174 = .ok (.iand, 1) := by decide +kernel
theorem d_Model_putDevice_175 : decode c_Model_putDevice 175 = .ok (.putfield 301, 3) := by decide +kernel
theorem d_Model_putDevice_178 : decode c_Model_putDevice 178 = .ok (.goto 113, 3) := by decide +kernel
theorem d_Model_putDevice_181 : decode c_Model_putDevice 181 = .ok (.iload_n 1, 1) := by decide +kernel
theorem d_Model_putDevice_182 : decode c_Model_putDevice 182 = .ok (.iconst 1, 1) := by decide +kernel
theorem d_Model_putDevice_183 : decode c_Model_putDevice 183 = .ok (.bipush 7, 2) := by decide +kernel
theorem d_Model_putDevice_185 : decode c_Model_putDevice 185 = .ok (.invokestatic 89, 3) := by decide +kernel
theorem d_Model_putDevice_188 : decode c_Model_putDevice 188 = .ok (.ifCond .eq 103, 3) := by decide +kernel
theorem d_Model_putDevice_191 : decode c_Model_putDevice 191 = .ok (.aload_n 0, 1) := by decide +kernel
theorem d_Model_putDevice_192 : decode c_Model_putDevice 192 = .ok (.getfield 67, 3) := by decide +kernel
theorem d_Model_putDevice_195 : decode c_Model_putDevice 195 = .ok (.iload_n 1, 1) := by decide +kernel
theorem d_Model_putDevice_196 : decode c_Model_putDevice 196 = .ok (.iconst 0, 1) := by decide +kernel
theorem d_Model_putDevice_197 : decode c_Model_putDevice 197 = .ok (.bastore, 1) := by decide +kernel
theorem d_Model_putDevice_198 : decode c_Model_putDevice 198 = .ok (.goto 93, 3) := by decide +kernel
theorem d_Model_putDevice_201 : decode c_Model_putDevice 201 = .ok (.aload_n 0, 1) := by decide +kernel
theorem d_Model_putDevice_202 : decode c_Model_putDevice 202 = .ok (.iload_n 1, 1) := by decide +kernel
theorem d_Model_putDevice_203 : decode c_Model_putDevice 203 = .ok (.ldc_w 320, 3) := by decide +kernel
theorem d_Model_putDevice_206 : decode c_Model_putDevice 206 = .ok (.iand, 1) := by decide +kernel
theorem d_Model_putDevice_207 : decode c_Model_putDevice 207 = .ok (.putfield 292, 3) := by decide +kernel
theorem d_Model_putDevice_210 : decode c_Model_putDevice 210 = .ok (.goto 81, 3) := by decide +kernel
theorem d_Model_putDevice_213 : decode c_Model_putDevice 213 = .ok (.aload_n 0, 1) := by decide +kernel
theorem d_Model_putDevice_214 : decode c_Model_putDevice 214 = .ok (.getfield 138, 3) := by decide +kernel
theorem d_Model_putDevice_217 : decode c_Model_putDevice 217 = .ok (.bipush 8, 2) := by decide +kernel
theorem d_Model_putDevice_219 : decode c_Model_putDevice 219 = .ok (.if_icmp .ge 72, 3) := by decide +kernel
theorem d_Model_putDevice_222 : decode c_Model_putDevice 222 = .ok (.aload_n 0, 1) := by decide +kernel
theorem d_Model_putDevice_223 : decode c_Model_putDevice 223 = .ok (.getfield 73, 3) := by decide +kernel
theorem d_Model_putDevice_226 : decode c_Model_putDevice 226 = .ok (.aload_n 0, 1) := by decide +kernel
theorem d_Model_putDevice_227 : decode c_Model_putDevice 227 = .ok (.getfield 138, 3) := by decide +kernel
theorem d_Model_putDevice_230 : decode c_Model_putDevice 230 = .ok (.iload_n 1, 1) := by decide +kernel
theorem d_Model_putDevice_231 : decode c_Model_putDevice 231 = .ok (.sipush 255, 3) := by decide +kernel
theorem d_Model_putDevice_234 : decode c_Model_putDevice 234 = .ok (.iand, 1) := by decide +kernel
theorem d_Model_putDevice_235 : decode c_Model_putDevice 235 = .ok (.iastore, 1) := by decide +kernel
theorem d_Model_putDevice_236 : decode c_Model_putDevice 236 = .ok (.aload_n 0, 1) := by decide +kernel
theorem d_Model_putDevice_237 : decode c_Model_putDevice 237 = .ok (.dup, 1) := by decide +kernel
theorem d_Model_putDevice_238 : decode c_Model_putDevice 238 = .ok (.getfield 138, 3) := by decide +kernel
theorem d_Model_putDevice_241 : decode c_Model_putDevice 241 = .ok (.iconst 1, 1) := by decide +kernel
theorem d_Model_putDevice_242 : decode c_Model_putDevice 242 = .ok (.iadd, 1) := by decide +kernel
theorem d_Model_putDevice_243 : decode c_Model_putDevice 243 = .ok (.putfield 138, 3) := by decide +kernel
theorem d_Model_putDevice_246 : decode c_Model_putDevice 246 = .ok (.goto 45, 3) := by decide +kernel
theorem d_Model_putDevice_249 : decode c_Model_putDevice 249 = .ok (.aload_n 0, 1) := by decide +kernel
theorem d_Model_putDevice_250 : decode c_Model_putDevice 250 = .ok (.iconst 0, 1) := by decide +kernel
theorem d_Model_putDevice_251 : decode c_Model_putDevice 251 = .ok (.putfield 158, 3) := by decide +kernel
theorem d_Model_putDevice_254 : decode c_Model_putDevice 254 = .ok (.goto 37, 3) := by decide +kernel
theorem d_Model_putDevice_257 : decode c_Model_putDevice 257 = .ok (.aload_n 0, 1) := by decide +kernel
theorem d_Model_putDevice_258 : decode c_Model_putDevice 258 = .ok (.iload_n 1, 1) := by decide +kernel
theorem d_Model_putDevice_259 : decode c_Model_putDevice 259 = .ok (.sipush 255, 3) := by decide +kernel
theorem d_Model_putDevice_262 : decode c_Model_putDevice 262 = .ok (.iand, 1) := by decide +kernel
theorem d_Model_putDevice_263 : decode c_Model_putDevice 263 = .ok (.ifCond .ne 7, 3) := by decide +kernel
theorem d_Model_putDevice_266 : decode c_Model_putDevice 266 = .ok (.iconst 1, 1) := by decide +kernel
theorem d_Model_putDevice_267 : decode c_Model_putDevice 267 = .ok (.goto 8, 3) := by decide +kernel
theorem d_Model_putDevice_270 : decode c_Model_putDevice 270 = .ok (.iload_n 1, 1) := by decide +kernel
theorem d_Model_putDevice_271 : decode c_Model_putDevice 271 = .ok (.sipush 255, 3) := by decide +kernel
theorem d_Model_putDevice_274 : decode c_Model_putDevice 274 = .ok (.iand, 1) := by decide +kernel
theorem d_Model_putDevice_275 : decode c_Model_putDevice 275 = .ok (.putfield 76, 3) := by decide +kernel
theorem d_Model_putDevice_278 : decode c_Model_putDevice 278 = .ok (.goto 13, 3) := by decide +kernel
theorem d_Model_putDevice_281 : decode c_Model_putDevice 281 = .ok (.aload_n 0, 1) := by decide +kernel
theorem d_Model_putDevice_282 : decode c_Model_putDevice 282 = .ok (.iload_n 1, 1) := by decide +kernel
theorem d_Model_putDevice_283 : decode c_Model_putDevice 283 = .ok (.iconst 3, 1) := by decide +kernel
theorem d_Model_putDevice_284 : decode c_Model_putDevice 284 = .ok (.iand, 1) := by decide +kernel
theorem d_Model_putDevice_285 : decode c_Model_putDevice 285 = .ok (.putfield 172, 3) := by decide +kernel
theorem d_Model_putDevice_288 : decode c_Model_putDevice 288 = .ok (.goto 3, 3) := by decide +kernel
theorem d_Model_putDevice_291 : decode c_Model_putDevice 291 = .ok (.return_, 1) := by decide +kernel
