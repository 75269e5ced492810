abbrev c_Core_init : ByteArray := prog_6_method_1_code
def y_Core_init : MethodName := ⟨"CycleChip$Core", "<init>", "(LCycleChip$Devices;LCycleChip$Bus;LCycleChip$Cache;LCycleChip$Cache;LCycleChip$StoreBuffer;)V"⟩
theorem d_Core_init_0 : decode c_Core_init 0 = .ok (.aload_n 0, 1) := by decide +kernel
theorem d_Core_init_1 : decode c_Core_init 1 = .ok (.invokespecial 5, 3) := by decide +kernel
theorem d_Core_init_4 : decode c_Core_init 4 = .ok (.aload_n 0, 1) := by decide +kernel
theorem d_Core_init_5 : decode c_Core_init 5 = .ok (.bipush 32, 2) := by decide +kernel
theorem d_Core_init_7 : decode c_Core_init 7 = .ok (.newarray .int, 2) := by decide +kernel
theorem d_Core_init_9 : decode c_Core_init 9 = .ok (.putfield 11, 3) := by decide +kernel
theorem d_Core_init_12 : decode c_Core_init 12 = .ok (.aload_n 0, 1) := by decide +kernel
theorem d_Core_init_13 : decode c_Core_init 13 = .ok (.new 15, 3) := by decide +kernel
theorem d_Core_init_16 : decode c_Core_init 16 = .ok (.dup, 1) := by decide +kernel
theorem d_Core_init_17 : decode c_Core_init 17 = .ok (.invokespecial 17, 3) := by decide +kernel
theorem d_Core_init_20 : decode c_Core_init 20 = .ok (.putfield 18, 3) := by decide +kernel
theorem d_Core_init_23 : decode c_Core_init 23 = .ok (.aload_n 0, 1) := by decide +kernel
theorem d_Core_init_24 : decode c_Core_init 24 = .ok (.new 22, 3) := by decide +kernel
theorem d_Core_init_27 : decode c_Core_init 27 = .ok (.dup, 1) := by decide +kernel
theorem d_Core_init_28 : decode c_Core_init 28 = .ok (.invokespecial 24, 3) := by decide +kernel
theorem d_Core_init_31 : decode c_Core_init 31 = .ok (.putfield 25, 3) := by decide +kernel
theorem d_Core_init_34 : decode c_Core_init 34 = .ok (.aload_n 0, 1) := by decide +kernel
theorem d_Core_init_35 : decode c_Core_init 35 = .ok (.aload_n 1, 1) := by decide +kernel
theorem d_Core_init_36 : decode c_Core_init 36 = .ok (.putfield 29, 3) := by decide +kernel
theorem d_Core_init_39 : decode c_Core_init 39 = .ok (.aload_n 0, 1) := by decide +kernel
theorem d_Core_init_40 : decode c_Core_init 40 = .ok (.aload_n 2, 1) := by decide +kernel
theorem d_Core_init_41 : decode c_Core_init 41 = .ok (.putfield 33, 3) := by decide +kernel
theorem d_Core_init_44 : decode c_Core_init 44 = .ok (.aload_n 0, 1) := by decide +kernel
theorem d_Core_init_45 : decode c_Core_init 45 = .ok (.aload_n 3, 1) := by decide +kernel
theorem d_Core_init_46 : decode c_Core_init 46 = .ok (.putfield 37, 3) := by decide +kernel
theorem d_Core_init_49 : decode c_Core_init 49 = .ok (.aload_n 0, 1) := by decide +kernel
theorem d_Core_init_50 : decode c_Core_init 50 = .ok (.aload 4, 2) := by decide +kernel
theorem d_Core_init_52 : decode c_Core_init 52 = .ok (.putfield 41, 3) := by decide +kernel
theorem d_Core_init_55 : decode c_Core_init 55 = .ok (.aload_n 0, 1) := by decide +kernel
theorem d_Core_init_56 : decode c_Core_init 56 = .ok (.aload 5, 2) := by decide +kernel
theorem d_Core_init_58 : decode c_Core_init 58 = .ok (.putfield 44, 3) := by decide +kernel
theorem d_Core_init_61 : decode c_Core_init 61 = .ok (.return_, 1) := by decide +kernel
abbrev c_Core_setRegister : ByteArray := prog_6_method_2_code
def y_Core_setRegister : MethodName := ⟨"CycleChip$Core", "setRegister", "(II)V"⟩
theorem d_Core_setRegister_0 : decode c_Core_setRegister 0 = .ok (.iload_n 1, 1) := by decide +kernel
theorem d_Core_setRegister_1 : decode c_Core_setRegister 1 = .ok (.ifCond .eq 10, 3) := by decide +kernel
theorem d_Core_setRegister_4 : decode c_Core_setRegister 4 = .ok (.aload_n 0, 1) := by decide +kernel
theorem d_Core_setRegister_5 : decode c_Core_setRegister 5 = .ok (.getfield 11, 3) := by decide +kernel
theorem d_Core_setRegister_8 : decode c_Core_setRegister 8 = .ok (.iload_n 1, 1) := by decide +kernel
theorem d_Core_setRegister_9 : decode c_Core_setRegister 9 = .ok (.iload_n 2, 1) := by decide +kernel
theorem d_Core_setRegister_10 : decode c_Core_setRegister 10 = .ok (.iastore, 1) := by decide +kernel
theorem d_Core_setRegister_11 : decode c_Core_setRegister 11 = .ok (.return_, 1) := by decide +kernel
abbrev c_Core_comesToInstruction : ByteArray := prog_6_method_3_code
def y_Core_comesToInstruction : MethodName := ⟨"CycleChip$Core", "comesToInstruction", "()Z"⟩
theorem d_Core_comesToInstruction_0 : decode c_Core_comesToInstruction 0 = .ok (.aload_n 0, 1) := by decide +kernel
theorem d_Core_comesToInstruction_1 : decode c_Core_comesToInstruction 1 = .ok (.getfield 33, 3) := by decide +kernel
theorem d_Core_comesToInstruction_4 : decode c_Core_comesToInstruction 4 = .ok (.invokevirtual 48, 3) := by decide +kernel
theorem d_Core_comesToInstruction_7 : decode c_Core_comesToInstruction 7 = .ok (.ifCond .eq 5, 3) := by decide +kernel
theorem d_Core_comesToInstruction_10 : decode c_Core_comesToInstruction 10 = .ok (.iconst 0, 1) := by decide +kernel
theorem d_Core_comesToInstruction_11 : decode c_Core_comesToInstruction 11 = .ok (.ireturn, 1) := by decide +kernel
theorem d_Core_comesToInstruction_12 : decode c_Core_comesToInstruction 12 = .ok (.aload_n 0, 1) := by decide +kernel
theorem d_Core_comesToInstruction_13 : decode c_Core_comesToInstruction 13 = .ok (.getfield 54, 3) := by decide +kernel
theorem d_Core_comesToInstruction_16 : decode c_Core_comesToInstruction 16 = .ok (.ifCond .le 15, 3) := by decide +kernel
theorem d_Core_comesToInstruction_19 : decode c_Core_comesToInstruction 19 = .ok (.aload_n 0, 1) := by decide +kernel
theorem d_Core_comesToInstruction_20 : decode c_Core_comesToInstruction 20 = .ok (.dup, 1) := by decide +kernel
theorem d_Core_comesToInstruction_21 : decode c_Core_comesToInstruction 21 = .ok (.getfield 54, 3) := by decide +kernel
theorem d_Core_comesToInstruction_24 : decode c_Core_comesToInstruction 24 = .ok (.iconst 1, 1) := by decide +kernel
theorem d_Core_comesToInstruction_25 : decode c_Core_comesToInstruction 25 = .ok (.isub, 1) := by decide +kernel
theorem d_Core_comesToInstruction_26 : decode c_Core_comesToInstruction 26 = .ok (.putfield 54, 3) := by decide +kernel
theorem d_Core_comesToInstruction_29 : decode c_Core_comesToInstruction 29 = .ok (.iconst 0, 1) := by decide +kernel
theorem d_Core_comesToInstruction_30 : decode c_Core_comesToInstruction 30 = .ok (.ireturn, 1) := by decide +kernel
theorem d_Core_comesToInstruction_31 : decode c_Core_comesToInstruction 31 = .ok (.aload_n 0, 1) := by decide +kernel
theorem d_Core_comesToInstruction_32 : decode c_Core_comesToInstruction 32 = .ok (.getfield 58, 3) := by decide +kernel
theorem d_Core_comesToInstruction_35 : decode c_Core_comesToInstruction 35 = .ok (.ifCond .eq 22, 3) := by decide +kernel
theorem d_Core_comesToInstruction_38 : decode c_Core_comesToInstruction 38 = .ok (.aload_n 0, 1) := by decide +kernel
theorem d_Core_comesToInstruction_39 : decode c_Core_comesToInstruction 39 = .ok (.getfield 18, 3) := by decide +kernel
theorem d_Core_comesToInstruction_42 : decode c_Core_comesToInstruction 42 = .ok (.aload_n 0, 1) := by decide +kernel
theorem d_Core_comesToInstruction_43 : decode c_Core_comesToInstruction 43 = .ok (.getfield 29, 3) := by decide +kernel
theorem d_Core_comesToInstruction_46 : decode c_Core_comesToInstruction 46 = .ok (.invokevirtual 62, 3) := by decide +kernel
theorem d_Core_comesToInstruction_49 : decode c_Core_comesToInstruction 49 = .ok (.invokevirtual 68, 3) := by decide +kernel
theorem d_Core_comesToInstruction_52 : decode c_Core_comesToInstruction 52 = .ok (.ifCond .ne 5, 3) := by decide +kernel
theorem d_Core_comesToInstruction_55 : decode c_Core_comesToInstruction 55 = .ok (.iconst 0, 1) := by decide +kernel
theorem d_Core_comesToInstruction_56 : decode c_Core_comesToInstruction 56 = .ok (.ireturn, 1) := by decide +kernel
theorem d_Core_comesToInstruction_57 : decode c_Core_comesToInstruction 57 = .ok (.aload_n 0, 1) := by decide +kernel
theorem d_Core_comesToInstruction_58 : decode c_Core_comesToInstruction 58 = .ok (.iconst 0, 1) := by decide +kernel
theorem d_Core_comesToInstruction_59 : decode c_Core_comesToInstruction 59 = .ok (.putfield 58, 3) := by decide +kernel
theorem d_Core_comesToInstruction_62 : decode c_Core_comesToInstruction 62 = .ok (.aload_n 0, 1) := by decide +kernel
theorem d_Core_comesToInstruction_63 : decode c_Core_comesToInstruction 63 = .ok (.getfield 18, 3) := by decide +kernel
theorem d_Core_comesToInstruction_66 : decode c_Core_comesToInstruction 66 = .ok (.invokevirtual 72, 3) := by decide +kernel
theorem d_Core_comesToInstruction_69 : decode c_Core_comesToInstruction 69 = .ok (.ifCond .eq 20, 3) := by decide +kernel
theorem d_Core_comesToInstruction_72 : decode c_Core_comesToInstruction 72 = .ok (.aload_n 0, 1) := by decide +kernel
theorem d_Core_comesToInstruction_73 : decode c_Core_comesToInstruction 73 = .ok (.getfield 18, 3) := by decide +kernel
theorem d_Core_comesToInstruction_76 : decode c_Core_comesToInstruction 76 = .ok (.aload_n 0, 1) := by decide +kernel
theorem d_Core_comesToInstruction_77 : decode c_Core_comesToInstruction 77 = .ok (.getfield 29, 3) := by decide +kernel
theorem d_Core_comesToInstruction_80 : decode c_Core_comesToInstruction 80 = .ok (.invokevirtual 62, 3) := by decide +kernel
theorem d_Core_comesToInstruction_83 : decode c_Core_comesToInstruction 83 = .ok (.invokevirtual 68, 3) := by decide +kernel
theorem d_Core_comesToInstruction_86 : decode c_Core_comesToInstruction 86 = .ok (.goto 4, 3) := by decide +kernel
theorem d_Core_comesToInstruction_89 : decode c_Core_comesToInstruction 89 = .ok (.iconst 0, 1) := by decide +kernel
theorem d_Core_comesToInstruction_90 : decode c_Core_comesToInstruction 90 = .ok (.istore_n 1, 1) := by decide +kernel
theorem d_Core_comesToInstruction_91 : decode c_Core_comesToInstruction 91 = .ok (.iload_n 1, 1) := by decide +kernel
theorem d_Core_comesToInstruction_92 : decode c_Core_comesToInstruction 92 = .ok (.ifCond .eq 24, 3) := by decide +kernel
theorem d_Core_comesToInstruction_95 : decode c_Core_comesToInstruction 95 = .ok (.aload_n 0, 1) := by decide +kernel
theorem d_Core_comesToInstruction_96 : decode c_Core_comesToInstruction 96 = .ok (.iload_n 1, 1) := by decide +kernel
theorem d_Core_comesToInstruction_97 : decode c_Core_comesToInstruction 97 = .ok (.sipush 2048, 3) := by decide +kernel
theorem d_Core_comesToInstruction_100 : decode c_Core_comesToInstruction 100 = .ok (.iand, 1) := by decide +kernel
theorem d_Core_comesToInstruction_101 : decode c_Core_comesToInstruction 101 = .ok (.ifCond .eq 8, 3) := by decide +kernel
theorem d_Core_comesToInstruction_104 : decode c_Core_comesToInstruction 104 = .ok (.bipush 11, 2) := by decide +kernel
theorem d_Core_comesToInstruction_106 : decode c_Core_comesToInstruction 106 = .ok (.goto 5, 3) := by decide +kernel
theorem d_Core_comesToInstruction_109 : decode c_Core_comesToInstruction 109 = .ok (.bipush 7, 2) := by decide +kernel
theorem d_Core_comesToInstruction_111 : decode c_Core_comesToInstruction 111 = .ok (.invokevirtual 75, 3) := by decide +kernel
theorem d_Core_comesToInstruction_114 : decode c_Core_comesToInstruction 114 = .ok (.iconst 0, 1) := by decide +kernel
theorem d_Core_comesToInstruction_115 : decode c_Core_comesToInstruction 115 = .ok (.ireturn, 1) := by decide +kernel
theorem d_Core_comesToInstruction_116 : decode c_Core_comesToInstruction 116 = .ok (.aload_n 0, 1) := by decide +kernel
theorem d_Core_comesToInstruction_117 : decode c_Core_comesToInstruction 117 = .ok (.getfield 79, 3) := by decide +kernel
theorem d_Core_comesToInstruction_120 : decode c_Core_comesToInstruction 120 = .ok (.invokestatic 82, 3) := by decide +kernel
theorem d_Core_comesToInstruction_123 : decode c_Core_comesToInstruction 123 = .ok (.ifCond .ne 14, 3) := by decide +kernel
theorem d_Core_comesToInstruction_126 : decode c_Core_comesToInstruction 126 = .ok (.aload_n 0, 1) := by decide +kernel
theorem d_Core_comesToInstruction_127 : decode c_Core_comesToInstruction 127 = .ok (.iconst 1, 1) := by decide +kernel
theorem d_Core_comesToInstruction_128 : decode c_Core_comesToInstruction 128 = .ok (.aload_n 0, 1) := by decide +kernel
theorem d_Core_comesToInstruction_129 : decode c_Core_comesToInstruction 129 = .ok (.getfield 79, 3) := by decide +kernel
theorem d_Core_comesToInstruction_132 : decode c_Core_comesToInstruction 132 = .ok (.invokevirtual 86, 3) := by decide +kernel
theorem d_Core_comesToInstruction_135 : decode c_Core_comesToInstruction 135 = .ok (.iconst 0, 1) := by decide +kernel
theorem d_Core_comesToInstruction_136 : decode c_Core_comesToInstruction 136 = .ok (.ireturn, 1) := by decide +kernel
theorem d_Core_comesToInstruction_137 : decode c_Core_comesToInstruction 137 = .ok (.aload_n 0, 1) := by decide +kernel
theorem d_Core_comesToInstruction_138 : decode c_Core_comesToInstruction 138 = .ok (.getfield 37, 3) := by decide +kernel
theorem d_Core_comesToInstruction_141 : decode c_Core_comesToInstruction 141 = .ok (.aload_n 0, 1) := by decide +kernel
theorem d_Core_comesToInstruction_142 : decode c_Core_comesToInstruction 142 = .ok (.getfield 79, 3) := by decide +kernel
theorem d_Core_comesToInstruction_145 : decode c_Core_comesToInstruction 145 = .ok (.iconst 2, 1) := by decide +kernel
theorem d_Core_comesToInstruction_146 : decode c_Core_comesToInstruction 146 = .ok (.ishr, 1) := by decide +kernel
theorem d_Core_comesToInstruction_147 : decode c_Core_comesToInstruction 147 = .ok (.invokevirtual 90, 3) := by decide +kernel
theorem d_Core_comesToInstruction_150 : decode c_Core_comesToInstruction 150 = .ok (.ifCond .ne 19, 3) := by decide +kernel
theorem d_Core_comesToInstruction_153 : decode c_Core_comesToInstruction 153 = .ok (.aload_n 0, 1) := by decide +kernel
theorem d_Core_comesToInstruction_154 : decode c_Core_comesToInstruction 154 = .ok (.getfield 33, 3) := by decide +kernel
theorem d_Core_comesToInstruction_157 : decode c_Core_comesToInstruction 157 = .ok (.iconst 1, 1) := by decide +kernel
theorem d_Core_comesToInstruction_158 : decode c_Core_comesToInstruction 158 = .ok (.aload_n 0, 1) := by decide +kernel
theorem d_Core_comesToInstruction_159 : decode c_Core_comesToInstruction 159 = .ok (.getfield 79, 3) := by decide +kernel
theorem d_Core_comesToInstruction_162 : decode c_Core_comesToInstruction 162 = .ok (.iconst 4, 1) := by decide +kernel
theorem d_Core_comesToInstruction_163 : decode c_Core_comesToInstruction 163 = .ok (.ishr, 1) := by decide +kernel
theorem d_Core_comesToInstruction_164 : decode c_Core_comesToInstruction 164 = .ok (.invokevirtual 95, 3) := by decide +kernel
theorem d_Core_comesToInstruction_167 : decode c_Core_comesToInstruction 167 = .ok (.iconst 0, 1) := by decide +kernel
theorem d_Core_comesToInstruction_168 : decode c_Core_comesToInstruction 168 = .ok (.ireturn, 1) := by decide +kernel
theorem d_Core_comesToInstruction_169 : decode c_Core_comesToInstruction 169 = .ok (.iconst 1, 1) := by decide +kernel
theorem d_Core_comesToInstruction_170 : decode c_Core_comesToInstruction 170 = .ok (.ireturn, 1) := by decide +kernel
abbrev c_Core_finishDevice : ByteArray := prog_6_method_4_code
def y_Core_finishDevice : MethodName := ⟨"CycleChip$Core", "finishDevice", "()V"⟩
theorem d_Core_finishDevice_0 : decode c_Core_finishDevice 0 = .ok (.aload_n 0, 1) := by decide +kernel
theorem d_Core_finishDevice_1 : decode c_Core_finishDevice 1 = .ok (.getfield 98, 3) := by decide +kernel
theorem d_Core_finishDevice_4 : decode c_Core_finishDevice 4 = .ok (.ifCond .eq 21, 3) := by decide +kernel
theorem d_Core_finishDevice_7 : decode c_Core_finishDevice 7 = .ok (.aload_n 0, 1) := by decide +kernel
theorem d_Core_finishDevice_8 : decode c_Core_finishDevice 8 = .ok (.getfield 29, 3) := by decide +kernel
theorem d_Core_finishDevice_11 : decode c_Core_finishDevice 11 = .ok (.aload_n 0, 1) := by decide +kernel
theorem d_Core_finishDevice_12 : decode c_Core_finishDevice 12 = .ok (.getfield 101, 3) := by decide +kernel
theorem d_Core_finishDevice_15 : decode c_Core_finishDevice 15 = .ok (.aload_n 0, 1) := by decide +kernel
theorem d_Core_finishDevice_16 : decode c_Core_finishDevice 16 = .ok (.getfield 104, 3) := by decide +kernel
theorem d_Core_finishDevice_19 : decode c_Core_finishDevice 19 = .ok (.invokevirtual 107, 3) := by decide +kernel
theorem d_Core_finishDevice_22 : decode c_Core_finishDevice 22 = .ok (.goto 22, 3) := by decide +kernel
theorem d_Core_finishDevice_25 : decode c_Core_finishDevice 25 = .ok (.aload_n 0, 1) := by decide +kernel
theorem d_Core_finishDevice_26 : decode c_Core_finishDevice 26 = .ok (.aload_n 0, 1) := by decide +kernel
theorem d_Core_finishDevice_27 : decode c_Core_finishDevice 27 = .ok (.getfield 110, 3) := by decide +kernel
theorem d_Core_finishDevice_30 : decode c_Core_finishDevice 30 = .ok (.aload_n 0, 1) := by decide +kernel
theorem d_Core_finishDevice_31 : decode c_Core_finishDevice 31 = .ok (.getfield 29, 3) := by decide +kernel
theorem d_Core_finishDevice_34 : decode c_Core_finishDevice 34 = .ok (.aload_n 0, 1) := by decide +kernel
theorem d_Core_finishDevice_35 : decode c_Core_finishDevice 35 = .ok (.getfield 101, 3) := by decide +kernel
theorem d_Core_finishDevice_38 : decode c_Core_finishDevice 38 = .ok (.invokevirtual 113, 3) := by decide +kernel
theorem d_Core_finishDevice_41 : decode c_Core_finishDevice 41 = .ok (.invokevirtual 116, 3) := by decide +kernel
theorem d_Core_finishDevice_44 : decode c_Core_finishDevice 44 = .ok (.aload_n 0, 1) := by decide +kernel
theorem d_Core_finishDevice_45 : decode c_Core_finishDevice 45 = .ok (.aload_n 0, 1) := by decide +kernel
theorem d_Core_finishDevice_46 : decode c_Core_finishDevice 46 = .ok (.getfield 79, 3) := by decide +kernel
theorem d_Core_finishDevice_49 : decode c_Core_finishDevice 49 = .ok (.iconst 4, 1) := by decide +kernel
theorem d_Core_finishDevice_50 : decode c_Core_finishDevice 50 = .ok (.iadd, 1) := by decide +kernel
theorem d_Core_finishDevice_51 : decode c_Core_finishDevice 51 = .ok (.invokevirtual 119, 3) := by decide +kernel
theorem d_Core_finishDevice_54 : decode c_Core_finishDevice 54 = .ok (.return_, 1) := by decide +kernel
abbrev c_Core_interrupt : ByteArray := prog_6_method_5_code
def y_Core_interrupt : MethodName := ⟨"CycleChip$Core", "interrupt", "(I)V"⟩
theorem d_Core_interrupt_0 : decode c_Core_interrupt 0 = .ok (.aload_n 0, 1) := by decide +kernel
theorem d_Core_interrupt_1 : decode c_Core_interrupt 1 = .ok (.getfield 18, 3) := by decide +kernel
theorem d_Core_interrupt_4 : decode c_Core_interrupt 4 = .ok (.iload_n 1, 1) := by decide +kernel
theorem d_Core_interrupt_5 : decode c_Core_interrupt 5 = .ok (.ldc 122, 2) := by decide +kernel
theorem d_Core_interrupt_7 : decode c_Core_interrupt 7 = .ok (.iadd, 1) := by decide +kernel
theorem d_Core_interrupt_8 : decode c_Core_interrupt 8 = .ok (.iconst 0, 1) := by decide +kernel
theorem d_Core_interrupt_9 : decode c_Core_interrupt 9 = .ok (.aload_n 0, 1) := by decide +kernel
theorem d_Core_interrupt_10 : decode c_Core_interrupt 10 = .ok (.getfield 79, 3) := by decide +kernel
theorem d_Core_interrupt_13 : decode c_Core_interrupt 13 = .ok (.invokevirtual 123, 3) := by decide +kernel
theorem d_Core_interrupt_16 : decode c_Core_interrupt 16 = .ok (.aload_n 0, 1) := by decide +kernel
theorem d_Core_interrupt_17 : decode c_Core_interrupt 17 = .ok (.aload_n 0, 1) := by decide +kernel
theorem d_Core_interrupt_18 : decode c_Core_interrupt 18 = .ok (.getfield 18, 3) := by decide +kernel
theorem d_Core_interrupt_21 : decode c_Core_interrupt 21 = .ok (.iload_n 1, 1) := by decide +kernel
theorem d_Core_interrupt_22 : decode c_Core_interrupt 22 = .ok (.invokevirtual 127, 3) := by decide +kernel
theorem d_Core_interrupt_25 : decode c_Core_interrupt 25 = .ok (.invokevirtual 130, 3) := by decide +kernel
theorem d_Core_interrupt_28 : decode c_Core_interrupt 28 = .ok (.return_, 1) := by decide +kernel
abbrev c_Core_trap : ByteArray := prog_6_method_6_code
def y_Core_trap : MethodName := ⟨"CycleChip$Core", "trap", "(II)V"⟩
theorem d_Core_trap_0 : decode c_Core_trap 0 = .ok (.aload_n 0, 1) := by decide +kernel
theorem d_Core_trap_1 : decode c_Core_trap 1 = .ok (.getfield 18, 3) := by decide +kernel
theorem d_Core_trap_4 : decode c_Core_trap 4 = .ok (.iload_n 1, 1) := by decide +kernel
theorem d_Core_trap_5 : decode c_Core_trap 5 = .ok (.iload_n 2, 1) := by decide +kernel
theorem d_Core_trap_6 : decode c_Core_trap 6 = .ok (.aload_n 0, 1) := by decide +kernel
theorem d_Core_trap_7 : decode c_Core_trap 7 = .ok (.getfield 79, 3) := by decide +kernel
theorem d_Core_trap_10 : decode c_Core_trap 10 = .ok (.invokevirtual 123, 3) := by decide +kernel
theorem d_Core_trap_13 : decode c_Core_trap 13 = .ok (.aload_n 0, 1) := by decide +kernel
theorem d_Core_trap_14 : decode c_Core_trap 14 = .ok (.aload_n 0, 1) := by decide +kernel
theorem d_Core_trap_15 : decode c_Core_trap 15 = .ok (.getfield 18, 3) := by decide +kernel
theorem d_Core_trap_18 : decode c_Core_trap 18 = .ok (.invokevirtual 133, 3) := by decide +kernel
theorem d_Core_trap_21 : decode c_Core_trap 21 = .ok (.invokevirtual 130, 3) := by decide +kernel
theorem d_Core_trap_24 : decode c_Core_trap 24 = .ok (.return_, 1) := by decide +kernel
abbrev c_Core_goToTrap : ByteArray := prog_6_method_7_code
def y_Core_goToTrap : MethodName := ⟨"CycleChip$Core", "goToTrap", "(I)V"⟩
theorem d_Core_goToTrap_0 : decode c_Core_goToTrap 0 = .ok (.aload_n 0, 1) := by decide +kernel
theorem d_Core_goToTrap_1 : decode c_Core_goToTrap 1 = .ok (.dup, 1) := by decide +kernel
theorem d_Core_goToTrap_2 : decode c_Core_goToTrap 2 = .ok (.getfield 136, 3) := by decide +kernel
theorem d_Core_goToTrap_5 : decode c_Core_goToTrap 5 = .ok (.iconst 1, 1) := by decide +kernel
theorem d_Core_goToTrap_6 : decode c_Core_goToTrap 6 = .ok (.iadd, 1) := by decide +kernel
theorem d_Core_goToTrap_7 : decode c_Core_goToTrap 7 = .ok (.putfield 136, 3) := by decide +kernel
theorem d_Core_goToTrap_10 : decode c_Core_goToTrap 10 = .ok (.aload_n 0, 1) := by decide +kernel
theorem d_Core_goToTrap_11 : decode c_Core_goToTrap 11 = .ok (.iload_n 1, 1) := by decide +kernel
theorem d_Core_goToTrap_12 : decode c_Core_goToTrap 12 = .ok (.putfield 79, 3) := by decide +kernel
theorem d_Core_goToTrap_15 : decode c_Core_goToTrap 15 = .ok (.aload_n 0, 1) := by decide +kernel
theorem d_Core_goToTrap_16 : decode c_Core_goToTrap 16 = .ok (.iconst 1, 1) := by decide +kernel
theorem d_Core_goToTrap_17 : decode c_Core_goToTrap 17 = .ok (.putfield 54, 3) := by decide +kernel
theorem d_Core_goToTrap_20 : decode c_Core_goToTrap 20 = .ok (.return_, 1) := by decide +kernel
abbrev c_Core_act : ByteArray := prog_6_method_8_code
def y_Core_act : MethodName := ⟨"CycleChip$Core", "act", "(I)V"⟩
theorem d_Core_act_0 : decode c_Core_act 0 = .ok (.aload_n 0, 1) := by decide +kernel
theorem d_Core_act_1 : decode c_Core_act 1 = .ok (.getfield 25, 3) := by decide +kernel
theorem d_Core_act_4 : decode c_Core_act 4 = .ok (.aload_n 0, 1) := by decide +kernel
theorem d_Core_act_5 : decode c_Core_act 5 = .ok (.getfield 139, 3) := by decide +kernel
theorem d_Core_act_8 : decode c_Core_act 8 = .ok (.aload_n 0, 1) := by decide +kernel
theorem d_Core_act_9 : decode c_Core_act 9 = .ok (.getfield 79, 3) := by decide +kernel
theorem d_Core_act_12 : decode c_Core_act 12 = .ok (.invokevirtual 142, 3) := by decide +kernel
theorem d_Core_act_15 : decode c_Core_act 15 = .ok (.aload_n 0, 1) := by decide +kernel
theorem d_Core_act_16 : decode c_Core_act 16 = .ok (.iload_n 1, 1) := by decide +kernel
theorem d_Core_act_17 : decode c_Core_act 17 = .ok (.putfield 79, 3) := by decide +kernel
theorem d_Core_act_20 : decode c_Core_act 20 = .ok (.return_, 1) := by decide +kernel
abbrev c_Core_actWith : ByteArray := prog_6_method_9_code
def y_Core_actWith : MethodName := ⟨"CycleChip$Core", "actWith", "(II)V"⟩
theorem d_Core_actWith_0 : decode c_Core_actWith 0 = .ok (.aload_n 0, 1) := by decide +kernel
theorem d_Core_actWith_1 : decode c_Core_actWith 1 = .ok (.iload_n 1, 1) := by decide +kernel
theorem d_Core_actWith_2 : decode c_Core_actWith 2 = .ok (.iload_n 2, 1) := by decide +kernel
theorem d_Core_actWith_3 : decode c_Core_actWith 3 = .ok (.invokevirtual 116, 3) := by decide +kernel
theorem d_Core_actWith_6 : decode c_Core_actWith 6 = .ok (.aload_n 0, 1) := by decide +kernel
theorem d_Core_actWith_7 : decode c_Core_actWith 7 = .ok (.aload_n 0, 1) := by decide +kernel
theorem d_Core_actWith_8 : decode c_Core_actWith 8 = .ok (.getfield 79, 3) := by decide +kernel
theorem d_Core_actWith_11 : decode c_Core_actWith 11 = .ok (.iconst 4, 1) := by decide +kernel
theorem d_Core_actWith_12 : decode c_Core_actWith 12 = .ok (.iadd, 1) := by decide +kernel
theorem d_Core_actWith_13 : decode c_Core_actWith 13 = .ok (.invokevirtual 119, 3) := by decide +kernel
theorem d_Core_actWith_16 : decode c_Core_actWith 16 = .ok (.return_, 1) := by decide +kernel
abbrev c_Core_perform : ByteArray := prog_6_method_10_code
def y_Core_perform : MethodName := ⟨"CycleChip$Core", "perform", "()V"⟩
theorem d_Core_perform_0 : decode c_Core_perform 0 = .ok (.aload_n 0, 1) := by decide +kernel
theorem d_Core_perform_1 : decode c_Core_perform 1 = .ok (.getfield 37, 3) := by decide +kernel
theorem d_Core_perform_4 : decode c_Core_perform 4 = .ok (.aload_n 0, 1) := by decide +kernel
theorem d_Core_perform_5 : decode c_Core_perform 5 = .ok (.getfield 79, 3) := by decide +kernel
theorem d_Core_perform_8 : decode c_Core_perform 8 = .ok (.iconst 2, 1) := by decide +kernel
theorem d_Core_perform_9 : decode c_Core_perform 9 = .ok (.ishr, 1) := by decide +kernel
theorem d_Core_perform_10 : decode c_Core_perform 10 = .ok (.invokevirtual 145, 3) := by decide +kernel
theorem d_Core_perform_13 : decode c_Core_perform 13 = .ok (.istore_n 1, 1) := by decide +kernel
theorem d_Core_perform_14 : decode c_Core_perform 14 = .ok (.iload_n 1, 1) := by decide +kernel
theorem d_Core_perform_15 : decode c_Core_perform 15 = .ok (.bipush 127, 2) := by decide +kernel
theorem d_Core_perform_17 : decode c_Core_perform 17 = .ok (.iand, 1) := by decide +kernel
theorem d_Core_perform_18 : decode c_Core_perform 18 = .ok (.lookupswitch 236 #[(3, 187), (15, 203), (19, 179), (23, 114), (35, 195), (51, 171), (55, 98), (99, 163), (103, 155), (111, 135), (115, 211)], 98) := by decide +kernel
theorem d_Core_perform_116 : decode c_Core_perform 116 = .ok (.aload_n 0, 1) := by decide +kernel
theorem d_Core_perform_117 : decode c_Core_perform 117 = .ok (.iload_n 1, 1) := by decide +kernel
theorem d_Core_perform_118 : decode c_Core_perform 118 = .ok (.invokestatic 148, 3) := by decide +kernel
theorem d_Core_perform_121 : decode c_Core_perform 121 = .ok (.iload_n 1, 1) := by decide +kernel
theorem d_Core_perform_122 : decode c_Core_perform 122 = .ok (.sipush (-4096), 3) := by decide +kernel
theorem d_Core_perform_125 : decode c_Core_perform 125 = .ok (.iand, 1) := by decide +kernel
theorem d_Core_perform_126 : decode c_Core_perform 126 = .ok (.invokevirtual 151, 3) := by decide +kernel
theorem d_Core_perform_129 : decode c_Core_perform 129 = .ok (.goto 131, 3) := by decide +kernel
theorem d_Core_perform_132 : decode c_Core_perform 132 = .ok (.aload_n 0, 1) := by decide +kernel
theorem d_Core_perform_133 : decode c_Core_perform 133 = .ok (.iload_n 1, 1) := by decide +kernel
theorem d_Core_perform_134 : decode c_Core_perform 134 = .ok (.invokestatic 148, 3) := by decide +kernel
theorem d_Core_perform_137 : decode c_Core_perform 137 = .ok (.aload_n 0, 1) := by decide +kernel
theorem d_Core_perform_138 : decode c_Core_perform 138 = .ok (.getfield 79, 3) := by decide +kernel
theorem d_Core_perform_141 : decode c_Core_perform 141 = .ok (.iload_n 1, 1) := by decide +kernel
theorem d_Core_perform_142 : decode c_Core_perform 142 = .ok (.sipush (-4096), 3) := by decide +kernel
theorem d_Core_perform_145 : decode c_Core_perform 145 = .ok (.iand, 1) := by decide +kernel
theorem d_Core_perform_146 : decode c_Core_perform 146 = .ok (.iadd, 1) := by decide +kernel
theorem d_Core_perform_147 : decode c_Core_perform 147 = .ok (.invokevirtual 151, 3) := by decide +kernel
theorem d_Core_perform_150 : decode c_Core_perform 150 = .ok (.goto 110, 3) := by decide +kernel
theorem d_Core_perform_153 : decode c_Core_perform 153 = .ok (.aload_n 0, 1) := by decide +kernel
theorem d_Core_perform_154 : decode c_Core_perform 154 = .ok (.iload_n 1, 1) := by decide +kernel
theorem d_Core_perform_155 : decode c_Core_perform 155 = .ok (.invokestatic 148, 3) := by decide +kernel
theorem d_Core_perform_158 : decode c_Core_perform 158 = .ok (.aload_n 0, 1) := by decide +kernel
theorem d_Core_perform_159 : decode c_Core_perform 159 = .ok (.getfield 79, 3) := by decide +kernel
theorem d_Core_perform_162 : decode c_Core_perform 162 = .ok (.iload_n 1, 1) := by decide +kernel
theorem d_Core_perform_163 : decode c_Core_perform 163 = .ok (.invokestatic 154, 3) := by decide +kernel
theorem d_Core_perform_166 : decode c_Core_perform 166 = .ok (.iadd, 1) := by decide +kernel
theorem d_Core_perform_167 : decode c_Core_perform 167 = .ok (.invokevirtual 157, 3) := by decide +kernel
theorem d_Core_perform_170 : decode c_Core_perform 170 = .ok (.goto 90, 3) := by decide +kernel
theorem d_Core_perform_173 : decode c_Core_perform 173 = .ok (.aload_n 0, 1) := by decide +kernel
theorem d_Core_perform_174 : decode c_Core_perform 174 = .ok (.iload_n 1, 1) := by decide +kernel
theorem d_Core_perform_175 : decode c_Core_perform 175 = .ok (.invokevirtual 160, 3) := by decide +kernel
theorem d_Core_perform_178 : decode c_Core_perform 178 = .ok (.goto 82, 3) := by decide +kernel
theorem d_Core_perform_181 : decode c_Core_perform 181 = .ok (.aload_n 0, 1) := by decide +kernel
theorem d_Core_perform_182 : decode c_Core_perform 182 = .ok (.iload_n 1, 1) := by decide +kernel
theorem d_Core_perform_183 : decode c_Core_perform 183 = .ok (.invokevirtual 163, 3) := by decide +kernel
theorem d_Core_perform_186 : decode c_Core_perform 186 = .ok (.goto 74, 3) := by decide +kernel
theorem d_Core_perform_189 : decode c_Core_perform 189 = .ok (.aload_n 0, 1) := by decide +kernel
theorem d_Core_perform_190 : decode c_Core_perform 190 = .ok (.iload_n 1, 1) := by decide +kernel
theorem d_Core_perform_191 : decode c_Core_perform 191 = .ok (.invokevirtual 166, 3) := by decide +kernel
theorem d_Core_perform_194 : decode c_Core_perform 194 = .ok (.goto 66, 3) := by decide +kernel
theorem d_Core_perform_197 : decode c_Core_perform 197 = .ok (.aload_n 0, 1) := by decide +kernel
theorem d_Core_perform_198 : decode c_Core_perform 198 = .ok (.iload_n 1, 1) := by decide +kernel
theorem d_Core_perform_199 : decode c_Core_perform 199 = .ok (.invokevirtual 169, 3) := by decide +kernel
theorem d_Core_perform_202 : decode c_Core_perform 202 = .ok (.goto 58, 3) := by decide +kernel
theorem d_Core_perform_205 : decode c_Core_perform 205 = .ok (.aload_n 0, 1) := by decide +kernel
theorem d_Core_perform_206 : decode c_Core_perform 206 = .ok (.iload_n 1, 1) := by decide +kernel
theorem d_Core_perform_207 : decode c_Core_perform 207 = .ok (.invokevirtual 172, 3) := by decide +kernel
theorem d_Core_perform_210 : decode c_Core_perform 210 = .ok (.goto 50, 3) := by decide +kernel
theorem d_Core_perform_213 : decode c_Core_perform 213 = .ok (.aload_n 0, 1) := by decide +kernel
theorem d_Core_perform_214 : decode c_Core_perform 214 = .ok (.iload_n 1, 1) := by decide +kernel
theorem d_Core_perform_215 : decode c_Core_perform 215 = .ok (.invokevirtual 174, 3) := by decide +kernel
theorem d_Core_perform_218 : decode c_Core_perform 218 = .ok (.goto 42, 3) := by decide +kernel
theorem d_Core_perform_221 : decode c_Core_perform 221 = .ok (.aload_n 0, 1) := by decide +kernel
theorem d_Core_perform_222 : decode c_Core_perform 222 = .ok (.iload_n 1, 1) := by decide +kernel
theorem d_Core_perform_223 : decode c_Core_perform 223 = .ok (.invokevirtual 176, 3) := by decide +kernel
theorem d_Core_perform_226 : decode c_Core_perform 226 = .ok (.goto 34, 3) := by decide +kernel
theorem d_Core_perform_229 : decode c_Core_perform 229 = .ok (.iload_n 1, 1) := by decide +kernel
theorem d_Core_perform_230 : decode c_Core_perform 230 = .ok (.invokestatic 179, 3) := by decide +kernel
theorem d_Core_perform_233 : decode c_Core_perform 233 = .ok (.iconst 3, 1) := by decide +kernel
theorem d_Core_perform_234 : decode c_Core_perform 234 = .ok (.iand, 1) := by decide +kernel
theorem d_Core_perform_235 : decode c_Core_perform 235 = .ok (.ifCond .eq 11, 3) := by decide +kernel
theorem d_Core_perform_238 : decode c_Core_perform 238 = .ok (.aload_n 0, 1) := by decide +kernel
theorem d_Core_perform_239 : decode c_Core_perform 239 = .ok (.iload_n 1, 1) := by decide +kernel
theorem d_Core_perform_240 : decode c_Core_perform 240 = .ok (.invokevirtual 182, 3) := by decide +kernel
theorem d_Core_perform_243 : decode c_Core_perform 243 = .ok (.goto 17, 3) := by decide +kernel
theorem d_Core_perform_246 : decode c_Core_perform 246 = .ok (.aload_n 0, 1) := by decide +kernel
theorem d_Core_perform_247 : decode c_Core_perform 247 = .ok (.iload_n 1, 1) := by decide +kernel
theorem d_Core_perform_248 : decode c_Core_perform 248 = .ok (.invokevirtual 185, 3) := by decide +kernel
theorem d_Core_perform_251 : decode c_Core_perform 251 = .ok (.goto 9, 3) := by decide +kernel
theorem d_Core_perform_254 : decode c_Core_perform 254 = .ok (.aload_n 0, 1) := by decide +kernel
theorem d_Core_perform_255 : decode c_Core_perform 255 = .ok (.iconst 2, 1) := by decide +kernel
theorem d_Core_perform_256 : decode c_Core_perform 256 = .ok (.iload_n 1, 1) := by decide +kernel
theorem d_Core_perform_257 : decode c_Core_perform 257 = .ok (.invokevirtual 86, 3) := by decide +kernel
theorem d_Core_perform_260 : decode c_Core_perform 260 = .ok (.return_, 1) := by decide +kernel
abbrev c_Core_jump : ByteArray := prog_6_method_11_code
def y_Core_jump : MethodName := ⟨"CycleChip$Core", "jump", "(II)V"⟩
theorem d_Core_jump_0 : decode c_Core_jump 0 = .ok (.iload_n 2, 1) := by decide +kernel
theorem d_Core_jump_1 : decode c_Core_jump 1 = .ok (.iconst 2, 1) := by decide +kernel
theorem d_Core_jump_2 : decode c_Core_jump 2 = .ok (.iand, 1) := by decide +kernel
theorem d_Core_jump_3 : decode c_Core_jump 3 = .ok (.ifCond .eq 12, 3) := by decide +kernel
theorem d_Core_jump_6 : decode c_Core_jump 6 = .ok (.aload_n 0, 1) := by decide +kernel
theorem d_Core_jump_7 : decode c_Core_jump 7 = .ok (.iconst 0, 1) := by decide +kernel
theorem d_Core_jump_8 : decode c_Core_jump 8 = .ok (.iload_n 2, 1) := by decide +kernel
theorem d_Core_jump_9 : decode c_Core_jump 9 = .ok (.invokevirtual 86, 3) := by decide +kernel
theorem d_Core_jump_12 : decode c_Core_jump 12 = .ok (.goto 24, 3) := by decide +kernel
theorem d_Core_jump_15 : decode c_Core_jump 15 = .ok (.aload_n 0, 1) := by decide +kernel
theorem d_Core_jump_16 : decode c_Core_jump 16 = .ok (.iload_n 1, 1) := by decide +kernel
theorem d_Core_jump_17 : decode c_Core_jump 17 = .ok (.aload_n 0, 1) := by decide +kernel
theorem d_Core_jump_18 : decode c_Core_jump 18 = .ok (.getfield 79, 3) := by decide +kernel
theorem d_Core_jump_21 : decode c_Core_jump 21 = .ok (.iconst 4, 1) := by decide +kernel
theorem d_Core_jump_22 : decode c_Core_jump 22 = .ok (.iadd, 1) := by decide +kernel
theorem d_Core_jump_23 : decode c_Core_jump 23 = .ok (.invokevirtual 116, 3) := by decide +kernel
theorem d_Core_jump_26 : decode c_Core_jump 26 = .ok (.aload_n 0, 1) := by decide +kernel
theorem d_Core_jump_27 : decode c_Core_jump 27 = .ok (.iload_n 2, 1) := by decide +kernel
theorem d_Core_jump_28 : decode c_Core_jump 28 = .ok (.invokevirtual 119, 3) := by decide +kernel
theorem d_Core_jump_31 : decode c_Core_jump 31 = .ok (.aload_n 0, 1) := by decide +kernel
theorem d_Core_jump_32 : decode c_Core_jump 32 = .ok (.iconst 1, 1) := by decide +kernel
theorem d_Core_jump_33 : decode c_Core_jump 33 = .ok (.putfield 54, 3) := by decide +kernel
theorem d_Core_jump_36 : decode c_Core_jump 36 = .ok (.return_, 1) := by decide +kernel
abbrev c_Core_jumpToRegister : ByteArray := prog_6_method_12_code
def y_Core_jumpToRegister : MethodName := ⟨"CycleChip$Core", "jumpToRegister", "(I)V"⟩
theorem d_Core_jumpToRegister_0 : decode c_Core_jumpToRegister 0 = .ok (.iload_n 1, 1) := by decide +kernel
theorem d_Core_jumpToRegister_1 : decode c_Core_jumpToRegister 1 = .ok (.invokestatic 179, 3) := by decide +kernel
theorem d_Core_jumpToRegister_4 : decode c_Core_jumpToRegister 4 = .ok (.ifCond .eq 12, 3) := by decide +kernel
theorem d_Core_jumpToRegister_7 : decode c_Core_jumpToRegister 7 = .ok (.aload_n 0, 1) := by decide +kernel
theorem d_Core_jumpToRegister_8 : decode c_Core_jumpToRegister 8 = .ok (.iconst 2, 1) := by decide +kernel
theorem d_Core_jumpToRegister_9 : decode c_Core_jumpToRegister 9 = .ok (.iload_n 1, 1) := by decide +kernel
theorem d_Core_jumpToRegister_10 : decode c_Core_jumpToRegister 10 = .ok (.invokevirtual 86, 3) := by decide +kernel
theorem d_Core_jumpToRegister_13 : decode c_Core_jumpToRegister 13 = .ok (.goto 28, 3) := by decide +kernel
theorem d_Core_jumpToRegister_16 : decode c_Core_jumpToRegister 16 = .ok (.aload_n 0, 1) := by decide +kernel
theorem d_Core_jumpToRegister_17 : decode c_Core_jumpToRegister 17 = .ok (.iload_n 1, 1) := by decide +kernel
theorem d_Core_jumpToRegister_18 : decode c_Core_jumpToRegister 18 = .ok (.invokestatic 148, 3) := by decide +kernel
theorem d_Core_jumpToRegister_21 : decode c_Core_jumpToRegister 21 = .ok (.aload_n 0, 1) := by decide +kernel
theorem d_Core_jumpToRegister_22 : decode c_Core_jumpToRegister 22 = .ok (.getfield 11, 3) := by decide +kernel
theorem d_Core_jumpToRegister_25 : decode c_Core_jumpToRegister 25 = .ok (.iload_n 1, 1) := by decide +kernel
theorem d_Core_jumpToRegister_26 : decode c_Core_jumpToRegister 26 = .ok (.invokestatic 188, 3) := by decide +kernel
theorem d_Core_jumpToRegister_29 : decode c_Core_jumpToRegister 29 = .ok (.iaload, 1) := by decide +kernel
theorem d_Core_jumpToRegister_30 : decode c_Core_jumpToRegister 30 = .ok (.iload_n 1, 1) := by decide +kernel
theorem d_Core_jumpToRegister_31 : decode c_Core_jumpToRegister 31 = .ok (.bipush 20, 2) := by decide +kernel
theorem d_Core_jumpToRegister_33 : decode c_Core_jumpToRegister 33 = .ok (.ishr, 1) := by decide +kernel
theorem d_Core_jumpToRegister_34 : decode c_Core_jumpToRegister 34 = .ok (.iadd, 1) := by decide +kernel
theorem d_Core_jumpToRegister_35 : decode c_Core_jumpToRegister 35 = .ok (.bipush (-2), 2) := by decide +kernel
theorem d_Core_jumpToRegister_37 : decode c_Core_jumpToRegister 37 = .ok (.iand, 1) := by decide +kernel
theorem d_Core_jumpToRegister_38 : decode c_Core_jumpToRegister 38 = .ok (.invokevirtual 157, 3) := by decide +kernel
theorem d_Core_jumpToRegister_41 : decode c_Core_jumpToRegister 41 = .ok (.return_, 1) := by decide +kernel
abbrev c_Core_branch : ByteArray := prog_6_method_13_code
def y_Core_branch : MethodName := ⟨"CycleChip$Core", "branch", "(I)V"⟩
theorem d_Core_branch_0 : decode c_Core_branch 0 = .ok (.iload_n 1, 1) := by decide +kernel
theorem d_Core_branch_1 : decode c_Core_branch 1 = .ok (.invokestatic 179, 3) := by decide +kernel
theorem d_Core_branch_4 : decode c_Core_branch 4 = .ok (.istore_n 2, 1) := by decide +kernel
theorem d_Core_branch_5 : decode c_Core_branch 5 = .ok (.iload_n 2, 1) := by decide +kernel
theorem d_Core_branch_6 : decode c_Core_branch 6 = .ok (.iconst 2, 1) := by decide +kernel
theorem d_Core_branch_7 : decode c_Core_branch 7 = .ok (.if_icmp .eq 8, 3) := by decide +kernel
theorem d_Core_branch_10 : decode c_Core_branch 10 = .ok (.iload_n 2, 1) := by decide +kernel
theorem d_Core_branch_11 : decode c_Core_branch 11 = .ok (.iconst 3, 1) := by decide +kernel
theorem d_Core_branch_12 : decode c_Core_branch 12 = .ok (.if_icmp .ne 12, 3) := by decide +kernel
theorem d_Core_branch_15 : decode c_Core_branch 15 = .ok (.aload_n 0, 1) := by decide +kernel
theorem d_Core_branch_16 : decode c_Core_branch 16 = .ok (.iconst 2, 1) := by decide +kernel
theorem d_Core_branch_17 : decode c_Core_branch 17 = .ok (.iload_n 1, 1) := by decide +kernel
theorem d_Core_branch_18 : decode c_Core_branch 18 = .ok (.invokevirtual 86, 3) := by decide +kernel
theorem d_Core_branch_21 : decode c_Core_branch 21 = .ok (.goto 55, 3) := by decide +kernel
theorem d_Core_branch_24 : decode c_Core_branch 24 = .ok (.iload_n 2, 1) := by decide +kernel
theorem d_Core_branch_25 : decode c_Core_branch 25 = .ok (.aload_n 0, 1) := by decide +kernel
theorem d_Core_branch_26 : decode c_Core_branch 26 = .ok (.getfield 11, 3) := by decide +kernel
theorem d_Core_branch_29 : decode c_Core_branch 29 = .ok (.iload_n 1, 1) := by decide +kernel
theorem d_Core_branch_30 : decode c_Core_branch 30 = .ok (.invokestatic 188, 3) := by decide +kernel
theorem d_Core_branch_33 : decode c_Core_branch 33 = .ok (.iaload, 1) := by decide +kernel
theorem d_Core_branch_34 : decode c_Core_branch 34 = .ok (.aload_n 0, 1) := by decide +kernel
theorem d_Core_branch_35 : decode c_Core_branch 35 = .ok (.getfield 11, 3) := by decide +kernel
theorem d_Core_branch_38 : decode c_Core_branch 38 = .ok (.iload_n 1, 1) := by decide +kernel
theorem d_Core_branch_39 : decode c_Core_branch 39 = .ok (.invokestatic 191, 3) := by decide +kernel
theorem d_Core_branch_42 : decode c_Core_branch 42 = .ok (.iaload, 1) := by decide +kernel
theorem d_Core_branch_43 : decode c_Core_branch 43 = .ok (.invokestatic 194, 3) := by decide +kernel
theorem d_Core_branch_46 : decode c_Core_branch 46 = .ok (.ifCond .eq 20, 3) := by decide +kernel
theorem d_Core_branch_49 : decode c_Core_branch 49 = .ok (.aload_n 0, 1) := by decide +kernel
theorem d_Core_branch_50 : decode c_Core_branch 50 = .ok (.iconst 0, 1) := by decide +kernel
theorem d_Core_branch_51 : decode c_Core_branch 51 = .ok (.aload_n 0, 1) := by decide +kernel
theorem d_Core_branch_52 : decode c_Core_branch 52 = .ok (.getfield 79, 3) := by decide +kernel
theorem d_Core_branch_55 : decode c_Core_branch 55 = .ok (.iload_n 1, 1) := by decide +kernel
theorem d_Core_branch_56 : decode c_Core_branch 56 = .ok (.invokestatic 198, 3) := by decide +kernel
theorem d_Core_branch_59 : decode c_Core_branch 59 = .ok (.iadd, 1) := by decide +kernel
theorem d_Core_branch_60 : decode c_Core_branch 60 = .ok (.invokevirtual 157, 3) := by decide +kernel
theorem d_Core_branch_63 : decode c_Core_branch 63 = .ok (.goto 13, 3) := by decide +kernel
theorem d_Core_branch_66 : decode c_Core_branch 66 = .ok (.aload_n 0, 1) := by decide +kernel
theorem d_Core_branch_67 : decode c_Core_branch 67 = .ok (.aload_n 0, 1) := by decide +kernel
theorem d_Core_branch_68 : decode c_Core_branch 68 = .ok (.getfield 79, 3) := by decide +kernel
theorem d_Core_branch_71 : decode c_Core_branch 71 = .ok (.iconst 4, 1) := by decide +kernel
theorem d_Core_branch_72 : decode c_Core_branch 72 = .ok (.iadd, 1) := by decide +kernel
theorem d_Core_branch_73 : decode c_Core_branch 73 = .ok (.invokevirtual 119, 3) := by decide +kernel
theorem d_Core_branch_76 : decode c_Core_branch 76 = .ok (.return_, 1) := by decide +kernel
abbrev c_Core_calculate : ByteArray := prog_6_method_14_code
def y_Core_calculate : MethodName := ⟨"CycleChip$Core", "calculate", "(I)V"⟩
theorem d_Core_calculate_0 : decode c_Core_calculate 0 = .ok (.iload_n 1, 1) := by decide +kernel
theorem d_Core_calculate_1 : decode c_Core_calculate 1 = .ok (.invokestatic 179, 3) := by decide +kernel
theorem d_Core_calculate_4 : decode c_Core_calculate 4 = .ok (.istore_n 2, 1) := by decide +kernel
theorem d_Core_calculate_5 : decode c_Core_calculate 5 = .ok (.iload_n 1, 1) := by decide +kernel
theorem d_Core_calculate_6 : decode c_Core_calculate 6 = .ok (.bipush 25, 2) := by decide +kernel
theorem d_Core_calculate_8 : decode c_Core_calculate 8 = .ok (.iushr, 1) := by decide +kernel
theorem d_Core_calculate_9 : decode c_Core_calculate 9 = .ok (.istore_n 3, 1) := by decide +kernel
theorem d_Core_calculate_10 : decode c_Core_calculate 10 = .ok (.aload_n 0, 1) := by decide +kernel
theorem d_Core_calculate_11 : decode c_Core_calculate 11 = .ok (.getfield 11, 3) := by decide +kernel
theorem d_Core_calculate_14 : decode c_Core_calculate 14 = .ok (.iload_n 1, 1) := by decide +kernel
theorem d_Core_calculate_15 : decode c_Core_calculate 15 = .ok (.invokestatic 188, 3) := by decide +kernel
theorem d_Core_calculate_18 : decode c_Core_calculate 18 = .ok (.iaload, 1) := by decide +kernel
theorem d_Core_calculate_19 : decode c_Core_calculate 19 = .ok (.istore 4, 2) := by decide +kernel
theorem d_Core_calculate_21 : decode c_Core_calculate 21 = .ok (.aload_n 0, 1) := by decide +kernel
theorem d_Core_calculate_22 : decode c_Core_calculate 22 = .ok (.getfield 11, 3) := by decide +kernel
theorem d_Core_calculate_25 : decode c_Core_calculate 25 = .ok (.iload_n 1, 1) := by decide +kernel
theorem d_Core_calculate_26 : decode c_Core_calculate 26 = .ok (.invokestatic 191, 3) := by decide +kernel
theorem d_Core_calculate_29 : decode c_Core_calculate 29 = .ok (.iaload, 1) := by decide +kernel
theorem d_Core_calculate_30 : decode c_Core_calculate 30 = .ok (.istore 5, 2) := by decide +kernel
theorem d_Core_calculate_32 : decode c_Core_calculate 32 = .ok (.iload_n 3, 1) := by decide +kernel
theorem d_Core_calculate_33 : decode c_Core_calculate 33 = .ok (.ifCond .ne 22, 3) := by decide +kernel
theorem d_Core_calculate_36 : decode c_Core_calculate 36 = .ok (.aload_n 0, 1) := by decide +kernel
theorem d_Core_calculate_37 : decode c_Core_calculate 37 = .ok (.iload_n 1, 1) := by decide +kernel
theorem d_Core_calculate_38 : decode c_Core_calculate 38 = .ok (.invokestatic 148, 3) := by decide +kernel
theorem d_Core_calculate_41 : decode c_Core_calculate 41 = .ok (.iload_n 2, 1) := by decide +kernel
theorem d_Core_calculate_42 : decode c_Core_calculate 42 = .ok (.iload 4, 2) := by decide +kernel
theorem d_Core_calculate_44 : decode c_Core_calculate 44 = .ok (.iload 5, 2) := by decide +kernel
theorem d_Core_calculate_46 : decode c_Core_calculate 46 = .ok (.invokestatic 201, 3) := by decide +kernel
theorem d_Core_calculate_49 : decode c_Core_calculate 49 = .ok (.invokevirtual 151, 3) := by decide +kernel
theorem d_Core_calculate_52 : decode c_Core_calculate 52 = .ok (.goto 117, 3) := by decide +kernel
theorem d_Core_calculate_55 : decode c_Core_calculate 55 = .ok (.iload_n 3, 1) := by decide +kernel
theorem d_Core_calculate_56 : decode c_Core_calculate 56 = .ok (.bipush 32, 2) := by decide +kernel
theorem d_Core_calculate_58 : decode c_Core_calculate 58 = .ok (.if_icmp .ne 23, 3) := by decide +kernel
theorem d_Core_calculate_61 : decode c_Core_calculate 61 = .ok (.iload_n 2, 1) := by decide +kernel
theorem d_Core_calculate_62 : decode c_Core_calculate 62 = .ok (.ifCond .ne 19, 3) := by decide +kernel
theorem d_Core_calculate_65 : decode c_Core_calculate 65 = .ok (.aload_n 0, 1) := by decide +kernel
theorem d_Core_calculate_66 : decode c_Core_calculate 66 = .ok (.iload_n 1, 1) := by decide +kernel
theorem d_Core_calculate_67 : decode c_Core_calculate 67 = .ok (.invokestatic 148, 3) := by decide +kernel
theorem d_Core_calculate_70 : decode c_Core_calculate 70 = .ok (.iload 4, 2) := by decide +kernel
theorem d_Core_calculate_72 : decode c_Core_calculate 72 = .ok (.iload 5, 2) := by decide +kernel
theorem d_Core_calculate_74 : decode c_Core_calculate 74 = .ok (.isub, 1) := by decide +kernel
theorem d_Core_calculate_75 : decode c_Core_calculate 75 = .ok (.invokevirtual 151, 3) := by decide +kernel
theorem d_Core_calculate_78 : decode c_Core_calculate 78 = .ok (.goto 91, 3) := by decide +kernel
theorem d_Core_calculate_81 : decode c_Core_calculate 81 = .ok (.iload_n 3, 1) := by decide +kernel
theorem d_Core_calculate_82 : decode c_Core_calculate 82 = .ok (.bipush 32, 2) := by decide +kernel
theorem d_Core_calculate_84 : decode c_Core_calculate 84 = .ok (.if_icmp .ne 24, 3) := by decide +kernel
theorem d_Core_calculate_87 : decode c_Core_calculate 87 = .ok (.iload_n 2, 1) := by decide +kernel
theorem d_Core_calculate_88 : decode c_Core_calculate 88 = .ok (.iconst 5, 1) := by decide +kernel
theorem d_Core_calculate_89 : decode c_Core_calculate 89 = .ok (.if_icmp .ne 19, 3) := by decide +kernel
theorem d_Core_calculate_92 : decode c_Core_calculate 92 = .ok (.aload_n 0, 1) := by decide +kernel
theorem d_Core_calculate_93 : decode c_Core_calculate 93 = .ok (.iload_n 1, 1) := by decide +kernel
theorem d_Core_calculate_94 : decode c_Core_calculate 94 = .ok (.invokestatic 148, 3) := by decide +kernel
theorem d_Core_calculate_97 : decode c_Core_calculate 97 = .ok (.iload 4, 2) := by decide +kernel
theorem d_Core_calculate_99 : decode c_Core_calculate 99 = .ok (.iload 5, 2) := by decide +kernel
theorem d_Core_calculate_101 : decode c_Core_calculate 101 = .ok (.ishr, 1) := by decide +kernel
theorem d_Core_calculate_102 : decode c_Core_calculate 102 = .ok (.invokevirtual 151, 3) := by decide +kernel
theorem d_Core_calculate_105 : decode c_Core_calculate 105 = .ok (.goto 64, 3) := by decide +kernel
theorem d_Core_calculate_108 : decode c_Core_calculate 108 = .ok (.iload_n 3, 1) := by decide +kernel
theorem d_Core_calculate_109 : decode c_Core_calculate 109 = .ok (.iconst 1, 1) := by decide +kernel
theorem d_Core_calculate_110 : decode c_Core_calculate 110 = .ok (.if_icmp .ne 53, 3) := by decide +kernel
theorem d_Core_calculate_113 : decode c_Core_calculate 113 = .ok (.aload_n 0, 1) := by decide +kernel
theorem d_Core_calculate_114 : decode c_Core_calculate 114 = .ok (.iload_n 1, 1) := by decide +kernel
theorem d_Core_calculate_115 : decode c_Core_calculate 115 = .ok (.invokestatic 148, 3) := by decide +kernel
theorem d_Core_calculate_118 : decode c_Core_calculate 118 = .ok (.iload_n 2, 1) := by decide +kernel
theorem d_Core_calculate_119 : decode c_Core_calculate 119 = .ok (.iconst 4, 1) := by decide +kernel
theorem d_Core_calculate_120 : decode c_Core_calculate 120 = .ok (.if_icmp .ge 14, 3) := by decide +kernel
theorem d_Core_calculate_123 : decode c_Core_calculate 123 = .ok (.iload_n 2, 1) := by decide +kernel
theorem d_Core_calculate_124 : decode c_Core_calculate 124 = .ok (.iload 4, 2) := by decide +kernel
theorem d_Core_calculate_126 : decode c_Core_calculate 126 = .ok (.iload 5, 2) := by decide +kernel
theorem d_Core_calculate_128 : decode c_Core_calculate 128 = .ok (.invokestatic 205, 3) := by decide +kernel
theorem d_Core_calculate_131 : decode c_Core_calculate 131 = .ok (.goto 11, 3) := by decide +kernel
theorem d_Core_calculate_134 : decode c_Core_calculate 134 = .ok (.iload_n 2, 1) := by decide +kernel
theorem d_Core_calculate_135 : decode c_Core_calculate 135 = .ok (.iload 4, 2) := by decide +kernel
theorem d_Core_calculate_137 : decode c_Core_calculate 137 = .ok (.iload 5, 2) := by decide +kernel
theorem d_Core_calculate_139 : decode c_Core_calculate 139 = .ok (.invokestatic 208, 3) := by decide +kernel
theorem d_Core_calculate_142 : decode c_Core_calculate 142 = .ok (.invokevirtual 151, 3) := by decide +kernel
theorem d_Core_calculate_145 : decode c_Core_calculate 145 = .ok (.aload_n 0, 1) := by decide +kernel
theorem d_Core_calculate_146 : decode c_Core_calculate 146 = .ok (.iload_n 2, 1) := by decide +kernel
theorem d_Core_calculate_147 : decode c_Core_calculate 147 = .ok (.iconst 4, 1) := by decide +kernel
theorem d_Core_calculate_148 : decode c_Core_calculate 148 = .ok (.if_icmp .ge 7, 3) := by decide +kernel
theorem d_Core_calculate_151 : decode c_Core_calculate 151 = .ok (.iconst 1, 1) := by decide +kernel
theorem d_Core_calculate_152 : decode c_Core_calculate 152 = .ok (.goto 5, 3) := by decide +kernel
theorem d_Core_calculate_155 : decode c_Core_calculate 155 = .ok (.bipush 7, 2) := by decide +kernel
theorem d_Core_calculate_157 : decode c_Core_calculate 157 = .ok (.putfield 54, 3) := by decide +kernel
theorem d_Core_calculate_160 : decode c_Core_calculate 160 = .ok (.goto 9, 3) := by decide +kernel
theorem d_Core_calculate_163 : decode c_Core_calculate 163 = .ok (.aload_n 0, 1) := by decide +kernel
theorem d_Core_calculate_164 : decode c_Core_calculate 164 = .ok (.iconst 2, 1) := by decide +kernel
theorem d_Core_calculate_165 : decode c_Core_calculate 165 = .ok (.iload_n 1, 1) := by decide +kernel
theorem d_Core_calculate_166 : decode c_Core_calculate 166 = .ok (.invokevirtual 86, 3) := by decide +kernel
theorem d_Core_calculate_169 : decode c_Core_calculate 169 = .ok (.return_, 1) := by decide +kernel
abbrev c_Core_calculateWithConstant : ByteArray := prog_6_method_15_code
def y_Core_calculateWithConstant : MethodName := ⟨"CycleChip$Core", "calculateWithConstant", "(I)V"⟩
theorem d_Core_calculateWithConstant_0 : decode c_Core_calculateWithConstant 0 = .ok (.iload_n 1, 1) := by decide +kernel
theorem d_Core_calculateWithConstant_1 : decode c_Core_calculateWithConstant 1 = .ok (.invokestatic 179, 3) := by decide +kernel
theorem d_Core_calculateWithConstant_4 : decode c_Core_calculateWithConstant 4 = .ok (.istore_n 2, 1) := by decide +kernel
theorem d_Core_calculateWithConstant_5 : decode c_Core_calculateWithConstant 5 = .ok (.iload_n 1, 1) := by decide +kernel
theorem d_Core_calculateWithConstant_6 : decode c_Core_calculateWithConstant 6 = .ok (.bipush 25, 2) := by decide +kernel
theorem d_Core_calculateWithConstant_8 : decode c_Core_calculateWithConstant 8 = .ok (.iushr, 1) := by decide +kernel
theorem d_Core_calculateWithConstant_9 : decode c_Core_calculateWithConstant 9 = .ok (.istore_n 3, 1) := by decide +kernel
theorem d_Core_calculateWithConstant_10 : decode c_Core_calculateWithConstant 10 = .ok (.aload_n 0, 1) := by decide +kernel
theorem d_Core_calculateWithConstant_11 : decode c_Core_calculateWithConstant 11 = .ok (.getfield 11, 3) := by decide +kernel
theorem d_Core_calculateWithConstant_14 : decode c_Core_calculateWithConstant 14 = .ok (.iload_n 1, 1) := by decide +kernel
theorem d_Core_calculateWithConstant_15 : decode c_Core_calculateWithConstant 15 = .ok (.invokestatic 188, 3) := by decide +kernel
theorem d_Core_calculateWithConstant_18 : decode c_Core_calculateWithConstant 18 = .ok (.iaload, 1) := by decide +kernel
theorem d_Core_calculateWithConstant_19 : decode c_Core_calculateWithConstant 19 = .ok (.istore 4, 2) := by decide +kernel
theorem d_Core_calculateWithConstant_21 : decode c_Core_calculateWithConstant 21 = .ok (.iload_n 1, 1) := by decide +kernel
theorem d_Core_calculateWithConstant_22 : decode c_Core_calculateWithConstant 22 = .ok (.bipush 20, 2) := by decide +kernel
theorem d_Core_calculateWithConstant_24 : decode c_Core_calculateWithConstant 24 = .ok (.ishr, 1) := by decide +kernel
theorem d_Core_calculateWithConstant_25 : decode c_Core_calculateWithConstant 25 = .ok (.istore 5, 2) := by decide +kernel
theorem d_Core_calculateWithConstant_27 : decode c_Core_calculateWithConstant 27 = .ok (.iload_n 2, 1) := by decide +kernel
theorem d_Core_calculateWithConstant_28 : decode c_Core_calculateWithConstant 28 = .ok (.iconst 1, 1) := by decide +kernel
theorem d_Core_calculateWithConstant_29 : decode c_Core_calculateWithConstant 29 = .ok (.if_icmp .eq 8, 3) := by decide +kernel
theorem d_Core_calculateWithConstant_32 : decode c_Core_calculateWithConstant 32 = .ok (.iload_n 2, 1) := by decide +kernel
theorem d_Core_calculateWithConstant_33 : decode c_Core_calculateWithConstant 33 = .ok (.iconst 5, 1) := by decide +kernel
theorem d_Core_calculateWithConstant_34 : decode c_Core_calculateWithConstant 34 = .ok (.if_icmp .ne 7, 3) := by decide +kernel
theorem d_Core_calculateWithConstant_37 : decode c_Core_calculateWithConstant 37 = .ok (.iconst 1, 1) := by decide +kernel
theorem d_Core_calculateWithConstant_38 : decode c_Core_calculateWithConstant 38 = .ok (.goto 4, 3) := by decide +kernel
theorem d_Core_calculateWithConstant_41 : decode c_Core_calculateWithConstant 41 = .ok (.iconst 0, 1) := by decide +kernel
theorem d_Core_calculateWithConstant_42 : decode c_Core_calculateWithConstant 42 = .ok (.istore 6, 2) := by decide +kernel
theorem d_Core_calculateWithConstant_44 : decode c_Core_calculateWithConstant 44 = .ok (.iload 6, 2) := by decide +kernel
theorem d_Core_calculateWithConstant_46 : decode c_Core_calculateWithConstant 46 = .ok (.ifCond .eq 7, 3) := by decide +kernel
theorem d_Core_calculateWithConstant_49 : decode c_Core_calculateWithConstant 49 = .ok (.iload_n 3, 1) := by decide +kernel
theorem d_Core_calculateWithConstant_50 : decode c_Core_calculateWithConstant 50 = .ok (.ifCond .ne 22, 3) := by decide +kernel
theorem d_Core_calculateWithConstant_53 : decode c_Core_calculateWithConstant 53 = .ok (.aload_n 0, 1) := by decide +kernel
theorem d_Core_calculateWithConstant_54 : decode c_Core_calculateWithConstant 54 = .ok (.iload_n 1, 1) := by decide +kernel
theorem d_Core_calculateWithConstant_55 : decode c_Core_calculateWithConstant 55 = .ok (.invokestatic 148, 3) := by decide +kernel
theorem d_Core_calculateWithConstant_58 : decode c_Core_calculateWithConstant 58 = .ok (.iload_n 2, 1) := by decide +kernel
theorem d_Core_calculateWithConstant_59 : decode c_Core_calculateWithConstant 59 = .ok (.iload 4, 2) := by decide +kernel
theorem d_Core_calculateWithConstant_61 : decode c_Core_calculateWithConstant 61 = .ok (.iload 5, 2) := by decide +kernel
theorem d_Core_calculateWithConstant_63 : decode c_Core_calculateWithConstant 63 = .ok (.invokestatic 201, 3) := by decide +kernel
theorem d_Core_calculateWithConstant_66 : decode c_Core_calculateWithConstant 66 = .ok (.invokevirtual 151, 3) := by decide +kernel
theorem d_Core_calculateWithConstant_69 : decode c_Core_calculateWithConstant 69 = .ok (.goto 36, 3) := by decide +kernel
theorem d_Core_calculateWithConstant_72 : decode c_Core_calculateWithConstant 72 = .ok (.iload_n 3, 1) := by decide +kernel
theorem d_Core_calculateWithConstant_73 : decode c_Core_calculateWithConstant 73 = .ok (.bipush 32, 2) := by decide +kernel
theorem d_Core_calculateWithConstant_75 : decode c_Core_calculateWithConstant 75 = .ok (.if_icmp .ne 24, 3) := by decide +kernel
theorem d_Core_calculateWithConstant_78 : decode c_Core_calculateWithConstant 78 = .ok (.iload_n 2, 1) := by decide +kernel
theorem d_Core_calculateWithConstant_79 : decode c_Core_calculateWithConstant 79 = .ok (.iconst 5, 1) := by decide +kernel
theorem d_Core_calculateWithConstant_80 : decode c_Core_calculateWithConstant 80 = .ok (.if_icmp .ne 19, 3) := by decide +kernel
theorem d_Core_calculateWithConstant_83 : decode c_Core_calculateWithConstant 83 = .ok (.aload_n 0, 1) := by decide +kernel
theorem d_Core_calculateWithConstant_84 : decode c_Core_calculateWithConstant 84 = .ok (.iload_n 1, 1) := by decide +kernel
theorem d_Core_calculateWithConstant_85 : decode c_Core_calculateWithConstant 85 = .ok (.invokestatic 148, 3) := by decide +kernel
theorem d_Core_calculateWithConstant_88 : decode c_Core_calculateWithConstant 88 = .ok (.iload 4, 2) := by decide +kernel
theorem d_Core_calculateWithConstant_90 : decode c_Core_calculateWithConstant 90 = .ok (.iload 5, 2) := by decide +kernel
theorem d_Core_calculateWithConstant_92 : decode c_Core_calculateWithConstant 92 = .ok (.ishr, 1) := by decide +kernel
theorem d_Core_calculateWithConstant_93 : decode c_Core_calculateWithConstant 93 = .ok (.invokevirtual 151, 3) := by decide +kernel
theorem d_Core_calculateWithConstant_96 : decode c_Core_calculateWithConstant 96 = .ok (.goto 9, 3) := by decide +kernel
theorem d_Core_calculateWithConstant_99 : decode c_Core_calculateWithConstant 99 = .ok (.aload_n 0, 1) := by decide +kernel
theorem d_Core_calculateWithConstant_100 : decode c_Core_calculateWithConstant 100 = .ok (.iconst 2, 1) := by decide +kernel
theorem d_Core_calculateWithConstant_101 : decode c_Core_calculateWithConstant 101 = .ok (.iload_n 1, 1) := by decide +kernel
theorem d_Core_calculateWithConstant_102 : decode c_Core_calculateWithConstant 102 = .ok (.invokevirtual 86, 3) := by decide +kernel
theorem d_Core_calculateWithConstant_105 : decode c_Core_calculateWithConstant 105 = .ok (.return_, 1) := by decide +kernel
abbrev c_Core_load : ByteArray := prog_6_method_16_code
def y_Core_load : MethodName := ⟨"CycleChip$Core", "load", "(I)V"⟩
theorem d_Core_load_0 : decode c_Core_load 0 = .ok (.aload_n 0, 1) := by decide +kernel
theorem d_Core_load_1 : decode c_Core_load 1 = .ok (.getfield 11, 3) := by decide +kernel
theorem d_Core_load_4 : decode c_Core_load 4 = .ok (.iload_n 1, 1) := by decide +kernel
theorem d_Core_load_5 : decode c_Core_load 5 = .ok (.invokestatic 188, 3) := by decide +kernel
theorem d_Core_load_8 : decode c_Core_load 8 = .ok (.iaload, 1) := by decide +kernel
theorem d_Core_load_9 : decode c_Core_load 9 = .ok (.iload_n 1, 1) := by decide +kernel
theorem d_Core_load_10 : decode c_Core_load 10 = .ok (.bipush 20, 2) := by decide +kernel
theorem d_Core_load_12 : decode c_Core_load 12 = .ok (.ishr, 1) := by decide +kernel
theorem d_Core_load_13 : decode c_Core_load 13 = .ok (.iadd, 1) := by decide +kernel
theorem d_Core_load_14 : decode c_Core_load 14 = .ok (.istore_n 2, 1) := by decide +kernel
theorem d_Core_load_15 : decode c_Core_load 15 = .ok (.iload_n 1, 1) := by decide +kernel
theorem d_Core_load_16 : decode c_Core_load 16 = .ok (.invokestatic 179, 3) := by decide +kernel
theorem d_Core_load_19 : decode c_Core_load 19 = .ok (.iconst 2, 1) := by decide +kernel
theorem d_Core_load_20 : decode c_Core_load 20 = .ok (.if_icmp .eq 12, 3) := by decide +kernel
theorem d_Core_load_23 : decode c_Core_load 23 = .ok (.aload_n 0, 1) := by decide +kernel
theorem d_Core_load_24 : decode c_Core_load 24 = .ok (.iconst 2, 1) := by decide +kernel
theorem d_Core_load_25 : decode c_Core_load 25 = .ok (.iload_n 1, 1) := by decide +kernel
theorem d_Core_load_26 : decode c_Core_load 26 = .ok (.invokevirtual 86, 3) := by decide +kernel
theorem d_Core_load_29 : decode c_Core_load 29 = .ok (.goto 110, 3) := by decide +kernel
theorem d_Core_load_32 : decode c_Core_load 32 = .ok (.iload_n 2, 1) := by decide +kernel
theorem d_Core_load_33 : decode c_Core_load 33 = .ok (.iconst 3, 1) := by decide +kernel
theorem d_Core_load_34 : decode c_Core_load 34 = .ok (.iand, 1) := by decide +kernel
theorem d_Core_load_35 : decode c_Core_load 35 = .ok (.ifCond .eq 12, 3) := by decide +kernel
theorem d_Core_load_38 : decode c_Core_load 38 = .ok (.aload_n 0, 1) := by decide +kernel
theorem d_Core_load_39 : decode c_Core_load 39 = .ok (.iconst 4, 1) := by decide +kernel
theorem d_Core_load_40 : decode c_Core_load 40 = .ok (.iload_n 2, 1) := by decide +kernel
theorem d_Core_load_41 : decode c_Core_load 41 = .ok (.invokevirtual 86, 3) := by decide +kernel
theorem d_Core_load_44 : decode c_Core_load 44 = .ok (.goto 95, 3) := by decide +kernel
theorem d_Core_load_47 : decode c_Core_load 47 = .ok (.iload_n 2, 1) := by decide +kernel
theorem d_Core_load_48 : decode c_Core_load 48 = .ok (.invokestatic 211, 3) := by decide +kernel
theorem d_Core_load_51 : decode c_Core_load 51 = .ok (.ifCond .eq 17, 3) := by decide +kernel
theorem d_Core_load_54 : decode c_Core_load 54 = .ok (.aload_n 0, 1) := by decide +kernel
theorem d_Core_load_55 : decode c_Core_load 55 = .ok (.iload_n 2, 1) := by decide +kernel
theorem d_Core_load_56 : decode c_Core_load 56 = .ok (.iconst 0, 1) := by decide +kernel
theorem d_Core_load_57 : decode c_Core_load 57 = .ok (.iconst 0, 1) := by decide +kernel
theorem d_Core_load_58 : decode c_Core_load 58 = .ok (.iload_n 1, 1) := by decide +kernel
theorem d_Core_load_59 : decode c_Core_load 59 = .ok (.invokestatic 148, 3) := by decide +kernel
theorem d_Core_load_62 : decode c_Core_load 62 = .ok (.invokevirtual 214, 3) := by decide +kernel
theorem d_Core_load_65 : decode c_Core_load 65 = .ok (.goto 74, 3) := by decide +kernel
theorem d_Core_load_68 : decode c_Core_load 68 = .ok (.iload_n 2, 1) := by decide +kernel
theorem d_Core_load_69 : decode c_Core_load 69 = .ok (.invokestatic 82, 3) := by decide +kernel
theorem d_Core_load_72 : decode c_Core_load 72 = .ok (.ifCond .ne 12, 3) := by decide +kernel
theorem d_Core_load_75 : decode c_Core_load 75 = .ok (.aload_n 0, 1) := by decide +kernel
theorem d_Core_load_76 : decode c_Core_load 76 = .ok (.iconst 5, 1) := by decide +kernel
theorem d_Core_load_77 : decode c_Core_load 77 = .ok (.iload_n 2, 1) := by decide +kernel
theorem d_Core_load_78 : decode c_Core_load 78 = .ok (.invokevirtual 86, 3) := by decide +kernel
theorem d_Core_load_81 : decode c_Core_load 81 = .ok (.goto 58, 3) := by decide +kernel
theorem d_Core_load_84 : decode c_Core_load 84 = .ok (.aload_n 0, 1) := by decide +kernel
theorem d_Core_load_85 : decode c_Core_load 85 = .ok (.getfield 41, 3) := by decide +kernel
theorem d_Core_load_88 : decode c_Core_load 88 = .ok (.iload_n 2, 1) := by decide +kernel
theorem d_Core_load_89 : decode c_Core_load 89 = .ok (.iconst 2, 1) := by decide +kernel
theorem d_Core_load_90 : decode c_Core_load 90 = .ok (.ishr, 1) := by decide +kernel
theorem d_Core_load_91 : decode c_Core_load 91 = .ok (.invokevirtual 90, 3) := by decide +kernel
theorem d_Core_load_94 : decode c_Core_load 94 = .ok (.ifCond .eq 24, 3) := by decide +kernel
theorem d_Core_load_97 : decode c_Core_load 97 = .ok (.aload_n 0, 1) := by decide +kernel
theorem d_Core_load_98 : decode c_Core_load 98 = .ok (.iload_n 1, 1) := by decide +kernel
theorem d_Core_load_99 : decode c_Core_load 99 = .ok (.invokestatic 148, 3) := by decide +kernel
theorem d_Core_load_102 : decode c_Core_load 102 = .ok (.aload_n 0, 1) := by decide +kernel
theorem d_Core_load_103 : decode c_Core_load 103 = .ok (.getfield 41, 3) := by decide +kernel
theorem d_Core_load_106 : decode c_Core_load 106 = .ok (.iload_n 2, 1) := by decide +kernel
theorem d_Core_load_107 : decode c_Core_load 107 = .ok (.iconst 2, 1) := by decide +kernel
theorem d_Core_load_108 : decode c_Core_load 108 = .ok (.ishr, 1) := by decide +kernel
theorem d_Core_load_109 : decode c_Core_load 109 = .ok (.invokevirtual 145, 3) := by decide +kernel
theorem d_Core_load_112 : decode c_Core_load 112 = .ok (.invokevirtual 151, 3) := by decide +kernel
theorem d_Core_load_115 : decode c_Core_load 115 = .ok (.goto 24, 3) := by decide +kernel
theorem d_Core_load_118 : decode c_Core_load 118 = .ok (.aload_n 0, 1) := by decide +kernel
theorem d_Core_load_119 : decode c_Core_load 119 = .ok (.getfield 44, 3) := by decide +kernel
theorem d_Core_load_122 : decode c_Core_load 122 = .ok (.getfield 218, 3) := by decide +kernel
theorem d_Core_load_125 : decode c_Core_load 125 = .ok (.ifCond .ne 14, 3) := by decide +kernel
theorem d_Core_load_128 : decode c_Core_load 128 = .ok (.aload_n 0, 1) := by decide +kernel
theorem d_Core_load_129 : decode c_Core_load 129 = .ok (.getfield 33, 3) := by decide +kernel
theorem d_Core_load_132 : decode c_Core_load 132 = .ok (.iconst 2, 1) := by decide +kernel
theorem d_Core_load_133 : decode c_Core_load 133 = .ok (.iload_n 2, 1) := by decide +kernel
theorem d_Core_load_134 : decode c_Core_load 134 = .ok (.iconst 4, 1) := by decide +kernel
theorem d_Core_load_135 : decode c_Core_load 135 = .ok (.ishr, 1) := by decide +kernel
theorem d_Core_load_136 : decode c_Core_load 136 = .ok (.invokevirtual 95, 3) := by decide +kernel
theorem d_Core_load_139 : decode c_Core_load 139 = .ok (.return_, 1) := by decide +kernel
abbrev c_Core_store : ByteArray := prog_6_method_17_code
def y_Core_store : MethodName := ⟨"CycleChip$Core", "store", "(I)V"⟩
theorem d_Core_store_0 : decode c_Core_store 0 = .ok (.aload_n 0, 1) := by decide +kernel
theorem d_Core_store_1 : decode c_Core_store 1 = .ok (.getfield 11, 3) := by decide +kernel
theorem d_Core_store_4 : decode c_Core_store 4 = .ok (.iload_n 1, 1) := by decide +kernel
theorem d_Core_store_5 : decode c_Core_store 5 = .ok (.invokestatic 188, 3) := by decide +kernel
theorem d_Core_store_8 : decode c_Core_store 8 = .ok (.iaload, 1) := by decide +kernel
theorem d_Core_store_9 : decode c_Core_store 9 = .ok (.iload_n 1, 1) := by decide +kernel
theorem d_Core_store_10 : decode c_Core_store 10 = .ok (.bipush 25, 2) := by decide +kernel
theorem d_Core_store_12 : decode c_Core_store 12 = .ok (.ishr, 1) := by decide +kernel
theorem d_Core_store_13 : decode c_Core_store 13 = .ok (.bipush 32, 2) := by decide +kernel
theorem d_Core_store_15 : decode c_Core_store 15 = .ok (.imul, 1) := by decide +kernel
theorem d_Core_store_16 : decode c_Core_store 16 = .ok (.iadd, 1) := by decide +kernel
theorem d_Core_store_17 : decode c_Core_store 17 = .ok (.iload_n 1, 1) := by decide +kernel
theorem d_Core_store_18 : decode c_Core_store 18 = .ok (.invokestatic 148, 3) := by decide +kernel
theorem d_Core_store_21 : decode c_Core_store 21 = .ok (.iadd, 1) := by decide +kernel
theorem d_Core_store_22 : decode c_Core_store 22 = .ok (.istore_n 2, 1) := by decide +kernel
theorem d_Core_store_23 : decode c_Core_store 23 = .ok (.aload_n 0, 1) := by decide +kernel
theorem d_Core_store_24 : decode c_Core_store 24 = .ok (.getfield 11, 3) := by decide +kernel
theorem d_Core_store_27 : decode c_Core_store 27 = .ok (.iload_n 1, 1) := by decide +kernel
theorem d_Core_store_28 : decode c_Core_store 28 = .ok (.invokestatic 191, 3) := by decide +kernel
theorem d_Core_store_31 : decode c_Core_store 31 = .ok (.iaload, 1) := by decide +kernel
theorem d_Core_store_32 : decode c_Core_store 32 = .ok (.istore_n 3, 1) := by decide +kernel
theorem d_Core_store_33 : decode c_Core_store 33 = .ok (.iload_n 1, 1) := by decide +kernel
theorem d_Core_store_34 : decode c_Core_store 34 = .ok (.invokestatic 179, 3) := by decide +kernel
theorem d_Core_store_37 : decode c_Core_store 37 = .ok (.iconst 2, 1) := by decide +kernel
theorem d_Core_store_38 : decode c_Core_store 38 = .ok (.if_icmp .eq 12, 3) := by decide +kernel
theorem d_Core_store_41 : decode c_Core_store 41 = .ok (.aload_n 0, 1) := by decide +kernel
theorem d_Core_store_42 : decode c_Core_store 42 = .ok (.iconst 2, 1) := by decide +kernel
theorem d_Core_store_43 : decode c_Core_store 43 = .ok (.iload_n 1, 1) := by decide +kernel
theorem d_Core_store_44 : decode c_Core_store 44 = .ok (.invokevirtual 86, 3) := by decide +kernel
theorem d_Core_store_47 : decode c_Core_store 47 = .ok (.goto 96, 3) := by decide +kernel
theorem d_Core_store_50 : decode c_Core_store 50 = .ok (.iload_n 2, 1) := by decide +kernel
theorem d_Core_store_51 : decode c_Core_store 51 = .ok (.iconst 3, 1) := by decide +kernel
theorem d_Core_store_52 : decode c_Core_store 52 = .ok (.iand, 1) := by decide +kernel
theorem d_Core_store_53 : decode c_Core_store 53 = .ok (.ifCond .eq 13, 3) := by decide +kernel
theorem d_Core_store_56 : decode c_Core_store 56 = .ok (.aload_n 0, 1) := by decide +kernel
theorem d_Core_store_57 : decode c_Core_store 57 = .ok (.bipush 6, 2) := by decide +kernel
theorem d_Core_store_59 : decode c_Core_store 59 = .ok (.iload_n 2, 1) := by decide +kernel
theorem d_Core_store_60 : decode c_Core_store 60 = .ok (.invokevirtual 86, 3) := by decide +kernel
theorem d_Core_store_63 : decode c_Core_store 63 = .ok (.goto 80, 3) := by decide +kernel
theorem d_Core_store_66 : decode c_Core_store 66 = .ok (.iload_n 2, 1) := by decide +kernel
theorem d_Core_store_67 : decode c_Core_store 67 = .ok (.invokestatic 211, 3) := by decide +kernel
theorem d_Core_store_70 : decode c_Core_store 70 = .ok (.ifCond .eq 14, 3) := by decide +kernel
theorem d_Core_store_73 : decode c_Core_store 73 = .ok (.aload_n 0, 1) := by decide +kernel
theorem d_Core_store_74 : decode c_Core_store 74 = .ok (.iload_n 2, 1) := by decide +kernel
theorem d_Core_store_75 : decode c_Core_store 75 = .ok (.iconst 1, 1) := by decide +kernel
theorem d_Core_store_76 : decode c_Core_store 76 = .ok (.iload_n 3, 1) := by decide +kernel
theorem d_Core_store_77 : decode c_Core_store 77 = .ok (.iconst 0, 1) := by decide +kernel
theorem d_Core_store_78 : decode c_Core_store 78 = .ok (.invokevirtual 214, 3) := by decide +kernel
theorem d_Core_store_81 : decode c_Core_store 81 = .ok (.goto 62, 3) := by decide +kernel
theorem d_Core_store_84 : decode c_Core_store 84 = .ok (.iload_n 2, 1) := by decide +kernel
theorem d_Core_store_85 : decode c_Core_store 85 = .ok (.invokestatic 82, 3) := by decide +kernel
theorem d_Core_store_88 : decode c_Core_store 88 = .ok (.ifCond .ne 13, 3) := by decide +kernel
theorem d_Core_store_91 : decode c_Core_store 91 = .ok (.aload_n 0, 1) := by decide +kernel
theorem d_Core_store_92 : decode c_Core_store 92 = .ok (.bipush 7, 2) := by decide +kernel
theorem d_Core_store_94 : decode c_Core_store 94 = .ok (.iload_n 2, 1) := by decide +kernel
theorem d_Core_store_95 : decode c_Core_store 95 = .ok (.invokevirtual 86, 3) := by decide +kernel
theorem d_Core_store_98 : decode c_Core_store 98 = .ok (.goto 45, 3) := by decide +kernel
theorem d_Core_store_101 : decode c_Core_store 101 = .ok (.aload_n 0, 1) := by decide +kernel
theorem d_Core_store_102 : decode c_Core_store 102 = .ok (.getfield 44, 3) := by decide +kernel
theorem d_Core_store_105 : decode c_Core_store 105 = .ok (.invokevirtual 223, 3) := by decide +kernel
theorem d_Core_store_108 : decode c_Core_store 108 = .ok (.ifCond .ne 35, 3) := by decide +kernel
theorem d_Core_store_111 : decode c_Core_store 111 = .ok (.aload_n 0, 1) := by decide +kernel
theorem d_Core_store_112 : decode c_Core_store 112 = .ok (.getfield 44, 3) := by decide +kernel
theorem d_Core_store_115 : decode c_Core_store 115 = .ok (.iload_n 2, 1) := by decide +kernel
theorem d_Core_store_116 : decode c_Core_store 116 = .ok (.iconst 2, 1) := by decide +kernel
theorem d_Core_store_117 : decode c_Core_store 117 = .ok (.ishr, 1) := by decide +kernel
theorem d_Core_store_118 : decode c_Core_store 118 = .ok (.iload_n 3, 1) := by decide +kernel
theorem d_Core_store_119 : decode c_Core_store 119 = .ok (.invokevirtual 226, 3) := by decide +kernel
theorem d_Core_store_122 : decode c_Core_store 122 = .ok (.aload_n 0, 1) := by decide +kernel
theorem d_Core_store_123 : decode c_Core_store 123 = .ok (.getfield 41, 3) := by decide +kernel
theorem d_Core_store_126 : decode c_Core_store 126 = .ok (.iload_n 2, 1) := by decide +kernel
theorem d_Core_store_127 : decode c_Core_store 127 = .ok (.iconst 2, 1) := by decide +kernel
theorem d_Core_store_128 : decode c_Core_store 128 = .ok (.ishr, 1) := by decide +kernel
theorem d_Core_store_129 : decode c_Core_store 129 = .ok (.iload_n 3, 1) := by decide +kernel
theorem d_Core_store_130 : decode c_Core_store 130 = .ok (.invokevirtual 227, 3) := by decide +kernel
theorem d_Core_store_133 : decode c_Core_store 133 = .ok (.aload_n 0, 1) := by decide +kernel
theorem d_Core_store_134 : decode c_Core_store 134 = .ok (.aload_n 0, 1) := by decide +kernel
theorem d_Core_store_135 : decode c_Core_store 135 = .ok (.getfield 79, 3) := by decide +kernel
theorem d_Core_store_138 : decode c_Core_store 138 = .ok (.iconst 4, 1) := by decide +kernel
theorem d_Core_store_139 : decode c_Core_store 139 = .ok (.iadd, 1) := by decide +kernel
theorem d_Core_store_140 : decode c_Core_store 140 = .ok (.invokevirtual 119, 3) := by decide +kernel
theorem d_Core_store_143 : decode c_Core_store 143 = .ok (.return_, 1) := by decide +kernel
abbrev c_Core_wantDevice : ByteArray := prog_6_method_18_code
def y_Core_wantDevice : MethodName := ⟨"CycleChip$Core", "wantDevice", "(IZII)V"⟩
theorem d_Core_wantDevice_0 : decode c_Core_wantDevice 0 = .ok (.aload_n 0, 1) := by decide +kernel
theorem d_Core_wantDevice_1 : decode c_Core_wantDevice 1 = .ok (.getfield 44, 3) := by decide +kernel
theorem d_Core_wantDevice_4 : decode c_Core_wantDevice 4 = .ok (.getfield 218, 3) := by decide +kernel
theorem d_Core_wantDevice_7 : decode c_Core_wantDevice 7 = .ok (.ifCond .ne 39, 3) := by decide +kernel
theorem d_Core_wantDevice_10 : decode c_Core_wantDevice 10 = .ok (.aload_n 0, 1) := by decide +kernel
theorem d_Core_wantDevice_11 : decode c_Core_wantDevice 11 = .ok (.iload_n 1, 1) := by decide +kernel
theorem d_Core_wantDevice_12 : decode c_Core_wantDevice 12 = .ok (.sipush 4096, 3) := by decide +kernel
theorem d_Core_wantDevice_15 : decode c_Core_wantDevice 15 = .ok (.isub, 1) := by decide +kernel
theorem d_Core_wantDevice_16 : decode c_Core_wantDevice 16 = .ok (.iconst 2, 1) := by decide +kernel
theorem d_Core_wantDevice_17 : decode c_Core_wantDevice 17 = .ok (.ishr, 1) := by decide +kernel
theorem d_Core_wantDevice_18 : decode c_Core_wantDevice 18 = .ok (.putfield 101, 3) := by decide +kernel
theorem d_Core_wantDevice_21 : decode c_Core_wantDevice 21 = .ok (.aload_n 0, 1) := by decide +kernel
theorem d_Core_wantDevice_22 : decode c_Core_wantDevice 22 = .ok (.iload_n 2, 1) := by decide +kernel
theorem d_Core_wantDevice_23 : decode c_Core_wantDevice 23 = .ok (.putfield 98, 3) := by decide +kernel
theorem d_Core_wantDevice_26 : decode c_Core_wantDevice 26 = .ok (.aload_n 0, 1) := by decide +kernel
theorem d_Core_wantDevice_27 : decode c_Core_wantDevice 27 = .ok (.iload_n 3, 1) := by decide +kernel
theorem d_Core_wantDevice_28 : decode c_Core_wantDevice 28 = .ok (.putfield 104, 3) := by decide +kernel
theorem d_Core_wantDevice_31 : decode c_Core_wantDevice 31 = .ok (.aload_n 0, 1) := by decide +kernel
theorem d_Core_wantDevice_32 : decode c_Core_wantDevice 32 = .ok (.iload 4, 2) := by decide +kernel
theorem d_Core_wantDevice_34 : decode c_Core_wantDevice 34 = .ok (.putfield 110, 3) := by decide +kernel
theorem d_Core_wantDevice_37 : decode c_Core_wantDevice 37 = .ok (.aload_n 0, 1) := by decide +kernel
theorem d_Core_wantDevice_38 : decode c_Core_wantDevice 38 = .ok (.getfield 33, 3) := by decide +kernel
theorem d_Core_wantDevice_41 : decode c_Core_wantDevice 41 = .ok (.iconst 3, 1) := by decide +kernel
theorem d_Core_wantDevice_42 : decode c_Core_wantDevice 42 = .ok (.iconst 0, 1) := by decide +kernel
theorem d_Core_wantDevice_43 : decode c_Core_wantDevice 43 = .ok (.invokevirtual 95, 3) := by decide +kernel
theorem d_Core_wantDevice_46 : decode c_Core_wantDevice 46 = .ok (.return_, 1) := by decide +kernel
abbrev c_Core_fence : ByteArray := prog_6_method_19_code
def y_Core_fence : MethodName := ⟨"CycleChip$Core", "fence", "(I)V"⟩
theorem d_Core_fence_0 : decode c_Core_fence 0 = .ok (.iload_n 1, 1) := by decide +kernel
theorem d_Core_fence_1 : decode c_Core_fence 1 = .ok (.invokestatic 179, 3) := by decide +kernel
theorem d_Core_fence_4 : decode c_Core_fence 4 = .ok (.istore_n 2, 1) := by decide +kernel
theorem d_Core_fence_5 : decode c_Core_fence 5 = .ok (.iload_n 2, 1) := by decide +kernel
theorem d_Core_fence_6 : decode c_Core_fence 6 = .ok (.iconst 1, 1) := by decide +kernel
theorem d_Core_fence_7 : decode c_Core_fence 7 = .ok (.if_icmp .le 12, 3) := by decide +kernel
theorem d_Core_fence_10 : decode c_Core_fence 10 = .ok (.aload_n 0, 1) := by decide +kernel
theorem d_Core_fence_11 : decode c_Core_fence 11 = .ok (.iconst 2, 1) := by decide +kernel
theorem d_Core_fence_12 : decode c_Core_fence 12 = .ok (.iload_n 1, 1) := by decide +kernel
theorem d_Core_fence_13 : decode c_Core_fence 13 = .ok (.invokevirtual 86, 3) := by decide +kernel
theorem d_Core_fence_16 : decode c_Core_fence 16 = .ok (.goto 35, 3) := by decide +kernel
theorem d_Core_fence_19 : decode c_Core_fence 19 = .ok (.aload_n 0, 1) := by decide +kernel
theorem d_Core_fence_20 : decode c_Core_fence 20 = .ok (.getfield 44, 3) := by decide +kernel
theorem d_Core_fence_23 : decode c_Core_fence 23 = .ok (.getfield 218, 3) := by decide +kernel
theorem d_Core_fence_26 : decode c_Core_fence 26 = .ok (.ifCond .ne 25, 3) := by decide +kernel
theorem d_Core_fence_29 : decode c_Core_fence 29 = .ok (.iload_n 2, 1) := by decide +kernel
theorem d_Core_fence_30 : decode c_Core_fence 30 = .ok (.iconst 1, 1) := by decide +kernel
theorem d_Core_fence_31 : decode c_Core_fence 31 = .ok (.if_icmp .ne 10, 3) := by decide +kernel
theorem d_Core_fence_34 : decode c_Core_fence 34 = .ok (.aload_n 0, 1) := by decide +kernel
theorem d_Core_fence_35 : decode c_Core_fence 35 = .ok (.getfield 37, 3) := by decide +kernel
theorem d_Core_fence_38 : decode c_Core_fence 38 = .ok (.invokevirtual 230, 3) := by decide +kernel
theorem d_Core_fence_41 : decode c_Core_fence 41 = .ok (.aload_n 0, 1) := by decide +kernel
theorem d_Core_fence_42 : decode c_Core_fence 42 = .ok (.aload_n 0, 1) := by decide +kernel
theorem d_Core_fence_43 : decode c_Core_fence 43 = .ok (.getfield 79, 3) := by decide +kernel
theorem d_Core_fence_46 : decode c_Core_fence 46 = .ok (.iconst 4, 1) := by decide +kernel
theorem d_Core_fence_47 : decode c_Core_fence 47 = .ok (.iadd, 1) := by decide +kernel
theorem d_Core_fence_48 : decode c_Core_fence 48 = .ok (.invokevirtual 119, 3) := by decide +kernel
theorem d_Core_fence_51 : decode c_Core_fence 51 = .ok (.return_, 1) := by decide +kernel
abbrev c_Core_system : ByteArray := prog_6_method_20_code
def y_Core_system : MethodName := ⟨"CycleChip$Core", "system", "(I)V"⟩
theorem d_Core_system_0 : decode c_Core_system 0 = .ok (.iload_n 1, 1) := by decide +kernel
theorem d_Core_system_1 : decode c_Core_system 1 = .ok (.bipush 115, 2) := by decide +kernel
theorem d_Core_system_3 : decode c_Core_system 3 = .ok (.if_icmp .ne 13, 3) := by decide +kernel
theorem d_Core_system_6 : decode c_Core_system 6 = .ok (.aload_n 0, 1) := by decide +kernel
theorem d_Core_system_7 : decode c_Core_system 7 = .ok (.bipush 11, 2) := by decide +kernel
theorem d_Core_system_9 : decode c_Core_system 9 = .ok (.iconst 0, 1) := by decide +kernel
theorem d_Core_system_10 : decode c_Core_system 10 = .ok (.invokevirtual 86, 3) := by decide +kernel
theorem d_Core_system_13 : decode c_Core_system 13 = .ok (.goto 80, 3) := by decide +kernel
theorem d_Core_system_16 : decode c_Core_system 16 = .ok (.iload_n 1, 1) := by decide +kernel
theorem d_Core_system_17 : decode c_Core_system 17 = .ok (.ldc 233, 2) := by decide +kernel
theorem d_Core_system_19 : decode c_Core_system 19 = .ok (.if_icmp .ne 12, 3) := by decide +kernel
theorem d_Core_system_22 : decode c_Core_system 22 = .ok (.aload_n 0, 1) := by decide +kernel
theorem d_Core_system_23 : decode c_Core_system 23 = .ok (.iconst 3, 1) := by decide +kernel
theorem d_Core_system_24 : decode c_Core_system 24 = .ok (.iconst 0, 1) := by decide +kernel
theorem d_Core_system_25 : decode c_Core_system 25 = .ok (.invokevirtual 86, 3) := by decide +kernel
theorem d_Core_system_28 : decode c_Core_system 28 = .ok (.goto 65, 3) := by decide +kernel
theorem d_Core_system_31 : decode c_Core_system 31 = .ok (.iload_n 1, 1) := by decide +kernel
theorem d_Core_system_32 : decode c_Core_system 32 = .ok (.ldc 234, 2) := by decide +kernel
theorem d_Core_system_34 : decode c_Core_system 34 = .ok (.if_icmp .ne 29, 3) := by decide +kernel
theorem d_Core_system_37 : decode c_Core_system 37 = .ok (.aload_n 0, 1) := by decide +kernel
theorem d_Core_system_38 : decode c_Core_system 38 = .ok (.aload_n 0, 1) := by decide +kernel
theorem d_Core_system_39 : decode c_Core_system 39 = .ok (.getfield 18, 3) := by decide +kernel
theorem d_Core_system_42 : decode c_Core_system 42 = .ok (.getfield 235, 3) := by decide +kernel
theorem d_Core_system_45 : decode c_Core_system 45 = .ok (.invokevirtual 119, 3) := by decide +kernel
theorem d_Core_system_48 : decode c_Core_system 48 = .ok (.aload_n 0, 1) := by decide +kernel
theorem d_Core_system_49 : decode c_Core_system 49 = .ok (.getfield 18, 3) := by decide +kernel
theorem d_Core_system_52 : decode c_Core_system 52 = .ok (.invokevirtual 238, 3) := by decide +kernel
theorem d_Core_system_55 : decode c_Core_system 55 = .ok (.aload_n 0, 1) := by decide +kernel
theorem d_Core_system_56 : decode c_Core_system 56 = .ok (.iconst 1, 1) := by decide +kernel
theorem d_Core_system_57 : decode c_Core_system 57 = .ok (.putfield 54, 3) := by decide +kernel
theorem d_Core_system_60 : decode c_Core_system 60 = .ok (.goto 33, 3) := by decide +kernel
theorem d_Core_system_63 : decode c_Core_system 63 = .ok (.iload_n 1, 1) := by decide +kernel
theorem d_Core_system_64 : decode c_Core_system 64 = .ok (.ldc 241, 2) := by decide +kernel
theorem d_Core_system_66 : decode c_Core_system 66 = .ok (.if_icmp .ne 21, 3) := by decide +kernel
theorem d_Core_system_69 : decode c_Core_system 69 = .ok (.aload_n 0, 1) := by decide +kernel
theorem d_Core_system_70 : decode c_Core_system 70 = .ok (.aload_n 0, 1) := by decide +kernel
theorem d_Core_system_71 : decode c_Core_system 71 = .ok (.getfield 79, 3) := by decide +kernel
theorem d_Core_system_74 : decode c_Core_system 74 = .ok (.iconst 4, 1) := by decide +kernel
theorem d_Core_system_75 : decode c_Core_system 75 = .ok (.iadd, 1) := by decide +kernel
theorem d_Core_system_76 : decode c_Core_system 76 = .ok (.invokevirtual 119, 3) := by decide +kernel
theorem d_Core_system_79 : decode c_Core_system 79 = .ok (.aload_n 0, 1) := by decide +kernel
theorem d_Core_system_80 : decode c_Core_system 80 = .ok (.iconst 1, 1) := by decide +kernel
theorem d_Core_system_81 : decode c_Core_system 81 = .ok (.putfield 58, 3) := by decide +kernel
theorem d_Core_system_84 : decode c_Core_system 84 = .ok (.goto 9, 3) := by decide +kernel
theorem d_Core_system_87 : decode c_Core_system 87 = .ok (.aload_n 0, 1) := by decide +kernel
theorem d_Core_system_88 : decode c_Core_system 88 = .ok (.iconst 2, 1) := by decide +kernel
theorem d_Core_system_89 : decode c_Core_system 89 = .ok (.iload_n 1, 1) := by decide +kernel
theorem d_Core_system_90 : decode c_Core_system 90 = .ok (.invokevirtual 86, 3) := by decide +kernel
theorem d_Core_system_93 : decode c_Core_system 93 = .ok (.return_, 1) := by decide +kernel
abbrev c_Core_changeControl : ByteArray := prog_6_method_21_code
def y_Core_changeControl : MethodName := ⟨"CycleChip$Core", "changeControl", "(I)V"⟩
theorem d_Core_changeControl_0 : decode c_Core_changeControl 0 = .ok (.iload_n 1, 1) := by decide +kernel
theorem d_Core_changeControl_1 : decode c_Core_changeControl 1 = .ok (.bipush 20, 2) := by decide +kernel
theorem d_Core_changeControl_3 : decode c_Core_changeControl 3 = .ok (.iushr, 1) := by decide +kernel
theorem d_Core_changeControl_4 : decode c_Core_changeControl 4 = .ok (.istore_n 2, 1) := by decide +kernel
theorem d_Core_changeControl_5 : decode c_Core_changeControl 5 = .ok (.iload_n 1, 1) := by decide +kernel
theorem d_Core_changeControl_6 : decode c_Core_changeControl 6 = .ok (.invokestatic 179, 3) := by decide +kernel
theorem d_Core_changeControl_9 : decode c_Core_changeControl 9 = .ok (.istore_n 3, 1) := by decide +kernel
theorem d_Core_changeControl_10 : decode c_Core_changeControl 10 = .ok (.iload_n 1, 1) := by decide +kernel
theorem d_Core_changeControl_11 : decode c_Core_changeControl 11 = .ok (.invokestatic 188, 3) := by decide +kernel
theorem d_Core_changeControl_14 : decode c_Core_changeControl 14 = .ok (.istore 4, 2) := by decide +kernel
theorem d_Core_changeControl_16 : decode c_Core_changeControl 16 = .ok (.iload_n 3, 1) := by decide +kernel
theorem d_Core_changeControl_17 : decode c_Core_changeControl 17 = .ok (.iconst 3, 1) := by decide +kernel
theorem d_Core_changeControl_18 : decode c_Core_changeControl 18 = .ok (.iand, 1) := by decide +kernel
theorem d_Core_changeControl_19 : decode c_Core_changeControl 19 = .ok (.istore 5, 2) := by decide +kernel
theorem d_Core_changeControl_21 : decode c_Core_changeControl 21 = .ok (.iload 5, 2) := by decide +kernel
theorem d_Core_changeControl_23 : decode c_Core_changeControl 23 = .ok (.iconst 1, 1) := by decide +kernel
theorem d_Core_changeControl_24 : decode c_Core_changeControl 24 = .ok (.if_icmp .eq 8, 3) := by decide +kernel
theorem d_Core_changeControl_27 : decode c_Core_changeControl 27 = .ok (.iload 4, 2) := by decide +kernel
theorem d_Core_changeControl_29 : decode c_Core_changeControl 29 = .ok (.ifCond .eq 7, 3) := by decide +kernel
theorem d_Core_changeControl_32 : decode c_Core_changeControl 32 = .ok (.iconst 1, 1) := by decide +kernel
theorem d_Core_changeControl_33 : decode c_Core_changeControl 33 = .ok (.goto 4, 3) := by decide +kernel
theorem d_Core_changeControl_36 : decode c_Core_changeControl 36 = .ok (.iconst 0, 1) := by decide +kernel
theorem d_Core_changeControl_37 : decode c_Core_changeControl 37 = .ok (.istore 6, 2) := by decide +kernel
theorem d_Core_changeControl_39 : decode c_Core_changeControl 39 = .ok (.iload_n 2, 1) := by decide +kernel
theorem d_Core_changeControl_40 : decode c_Core_changeControl 40 = .ok (.invokestatic 242, 3) := by decide +kernel
theorem d_Core_changeControl_43 : decode c_Core_changeControl 43 = .ok (.ifCond .eq 15, 3) := by decide +kernel
theorem d_Core_changeControl_46 : decode c_Core_changeControl 46 = .ok (.iload_n 2, 1) := by decide +kernel
theorem d_Core_changeControl_47 : decode c_Core_changeControl 47 = .ok (.sipush 3072, 3) := by decide +kernel
theorem d_Core_changeControl_50 : decode c_Core_changeControl 50 = .ok (.if_icmp .ne 15, 3) := by decide +kernel
theorem d_Core_changeControl_53 : decode c_Core_changeControl 53 = .ok (.iload 6, 2) := by decide +kernel
theorem d_Core_changeControl_55 : decode c_Core_changeControl 55 = .ok (.ifCond .eq 10, 3) := by decide +kernel
theorem d_Core_changeControl_58 : decode c_Core_changeControl 58 = .ok (.aload_n 0, 1) := by decide +kernel
theorem d_Core_changeControl_59 : decode c_Core_changeControl 59 = .ok (.iconst 2, 1) := by decide +kernel
theorem d_Core_changeControl_60 : decode c_Core_changeControl 60 = .ok (.iload_n 1, 1) := by decide +kernel
theorem d_Core_changeControl_61 : decode c_Core_changeControl 61 = .ok (.invokevirtual 86, 3) := by decide +kernel
theorem d_Core_changeControl_64 : decode c_Core_changeControl 64 = .ok (.return_, 1) := by decide +kernel
theorem d_Core_changeControl_65 : decode c_Core_changeControl 65 = .ok (.iload_n 3, 1) := by decide +kernel
theorem d_Core_changeControl_66 : decode c_Core_changeControl 66 = .ok (.iconst 4, 1) := by decide +kernel
theorem d_Core_changeControl_67 : decode c_Core_changeControl 67 = .ok (.if_icmp .ge 13, 3) := by decide +kernel
theorem d_Core_changeControl_70 : decode c_Core_changeControl 70 = .ok (.aload_n 0, 1) := by decide +kernel
theorem d_Core_changeControl_71 : decode c_Core_changeControl 71 = .ok (.getfield 11, 3) := by decide +kernel
theorem d_Core_changeControl_74 : decode c_Core_changeControl 74 = .ok (.iload 4, 2) := by decide +kernel
theorem d_Core_changeControl_76 : decode c_Core_changeControl 76 = .ok (.iaload, 1) := by decide +kernel
theorem d_Core_changeControl_77 : decode c_Core_changeControl 77 = .ok (.goto 5, 3) := by decide +kernel
theorem d_Core_changeControl_80 : decode c_Core_changeControl 80 = .ok (.iload 4, 2) := by decide +kernel
theorem d_Core_changeControl_82 : decode c_Core_changeControl 82 = .ok (.istore 7, 2) := by decide +kernel
theorem d_Core_changeControl_84 : decode c_Core_changeControl 84 = .ok (.aload_n 0, 1) := by decide +kernel
theorem d_Core_changeControl_85 : decode c_Core_changeControl 85 = .ok (.getfield 18, 3) := by decide +kernel
theorem d_Core_changeControl_88 : decode c_Core_changeControl 88 = .ok (.iload_n 2, 1) := by decide +kernel
theorem d_Core_changeControl_89 : decode c_Core_changeControl 89 = .ok (.aload_n 0, 1) := by decide +kernel
theorem d_Core_changeControl_90 : decode c_Core_changeControl 90 = .ok (.getfield 29, 3) := by decide +kernel
theorem d_Core_changeControl_93 : decode c_Core_changeControl 93 = .ok (.invokevirtual 62, 3) := by decide +kernel
theorem d_Core_changeControl_96 : decode c_Core_changeControl 96 = .ok (.aload_n 0, 1) := by decide +kernel
theorem d_Core_changeControl_97 : decode c_Core_changeControl 97 = .ok (.getfield 139, 3) := by decide +kernel
theorem d_Core_changeControl_100 : decode c_Core_changeControl 100 = .ok (.invokevirtual 245, 3) := by decide +kernel
theorem d_Core_changeControl_103 : decode c_Core_changeControl 103 = .ok (.istore 8, 2) := by decide +kernel
theorem d_Core_changeControl_105 : decode c_Core_changeControl 105 = .ok (.iload 6, 2) := by decide +kernel
theorem d_Core_changeControl_107 : decode c_Core_changeControl 107 = .ok (.ifCond .eq 43, 3) := by decide +kernel
theorem d_Core_changeControl_110 : decode c_Core_changeControl 110 = .ok (.aload_n 0, 1) := by decide +kernel
theorem d_Core_changeControl_111 : decode c_Core_changeControl 111 = .ok (.getfield 18, 3) := by decide +kernel
theorem d_Core_changeControl_114 : decode c_Core_changeControl 114 = .ok (.iload_n 2, 1) := by decide +kernel
theorem d_Core_changeControl_115 : decode c_Core_changeControl 115 = .ok (.iload 5, 2) := by decide +kernel
theorem d_Core_changeControl_117 : decode c_Core_changeControl 117 = .ok (.iconst 1, 1) := by decide +kernel
theorem d_Core_changeControl_118 : decode c_Core_changeControl 118 = .ok (.if_icmp .ne 8, 3) := by decide +kernel
theorem d_Core_changeControl_121 : decode c_Core_changeControl 121 = .ok (.iload 7, 2) := by decide +kernel
theorem d_Core_changeControl_123 : decode c_Core_changeControl 123 = .ok (.goto 24, 3) := by decide +kernel
theorem d_Core_changeControl_126 : decode c_Core_changeControl 126 = .ok (.iload 5, 2) := by decide +kernel
theorem d_Core_changeControl_128 : decode c_Core_changeControl 128 = .ok (.iconst 2, 1) := by decide +kernel
theorem d_Core_changeControl_129 : decode c_Core_changeControl 129 = .ok (.if_icmp .ne 11, 3) := by decide +kernel
theorem d_Core_changeControl_132 : decode c_Core_changeControl 132 = .ok (.iload 8, 2) := by decide +kernel
theorem d_Core_changeControl_134 : decode c_Core_changeControl 134 = .ok (.iload 7, 2) := by decide +kernel
theorem d_Core_changeControl_136 : decode c_Core_changeControl 136 = .ok (.ior, 1) := by decide +kernel
theorem d_Core_changeControl_137 : decode c_Core_changeControl 137 = .ok (.goto 10, 3) := by decide +kernel
theorem d_Core_changeControl_140 : decode c_Core_changeControl 140 = .ok (.iload 8, 2) := by decide +kernel
theorem d_Core_changeControl_142 : decode c_Core_changeControl 142 = .ok (.iload 7, 2) := by decide +kernel
theorem d_Core_changeControl_144 : decode c_Core_changeControl 144 = .ok (.iconst (-1), 1) := by decide +kernel
theorem d_Core_changeControl_145 : decode c_Core_changeControl 145 = .ok (.ixor, 1) := by decide +kernel
theorem d_Core_changeControl_146 : decode c_Core_changeControl 146 = .ok (.iand, 1) := by decide +kernel
theorem d_Core_changeControl_147 : decode c_Core_changeControl 147 = .ok (.invokevirtual 248, 3) := by decide +kernel
theorem d_Core_changeControl_150 : decode c_Core_changeControl 150 = .ok (.aload_n 0, 1) := by decide +kernel
theorem d_Core_changeControl_151 : decode c_Core_changeControl 151 = .ok (.iload_n 1, 1) := by decide +kernel
theorem d_Core_changeControl_152 : decode c_Core_changeControl 152 = .ok (.invokestatic 148, 3) := by decide +kernel
theorem d_Core_changeControl_155 : decode c_Core_changeControl 155 = .ok (.iload 8, 2) := by decide +kernel
theorem d_Core_changeControl_157 : decode c_Core_changeControl 157 = .ok (.invokevirtual 151, 3) := by decide +kernel
theorem d_Core_changeControl_160 : decode c_Core_changeControl 160 = .ok (.return_, 1) := by decide +kernel
abbrev c_Core_isMemory : ByteArray := prog_6_method_22_code
def y_Core_isMemory : MethodName := ⟨"CycleChip$Core", "isMemory", "(I)Z"⟩
theorem d_Core_isMemory_0 : decode c_Core_isMemory 0 = .ok (.iload_n 0, 1) := by decide +kernel
theorem d_Core_isMemory_1 : decode c_Core_isMemory 1 = .ok (.iconst 3, 1) := by decide +kernel
theorem d_Core_isMemory_2 : decode c_Core_isMemory 2 = .ok (.iand, 1) := by decide +kernel
theorem d_Core_isMemory_3 : decode c_Core_isMemory 3 = .ok (.ifCond .ne 18, 3) := by decide +kernel
theorem d_Core_isMemory_6 : decode c_Core_isMemory 6 = .ok (.iload_n 0, 1) := by decide +kernel
theorem d_Core_isMemory_7 : decode c_Core_isMemory 7 = .ok (.ifCond .lt 14, 3) := by decide +kernel
theorem d_Core_isMemory_10 : decode c_Core_isMemory 10 = .ok (.iload_n 0, 1) := by decide +kernel
theorem d_Core_isMemory_11 : decode c_Core_isMemory 11 = .ok (.sipush 512, 3) := by decide +kernel
theorem d_Core_isMemory_14 : decode c_Core_isMemory 14 = .ok (.if_icmp .ge 7, 3) := by decide +kernel
theorem d_Core_isMemory_17 : decode c_Core_isMemory 17 = .ok (.iconst 1, 1) := by decide +kernel
theorem d_Core_isMemory_18 : decode c_Core_isMemory 18 = .ok (.goto 4, 3) := by decide +kernel
theorem d_Core_isMemory_21 : decode c_Core_isMemory 21 = .ok (.iconst 0, 1) := by decide +kernel
theorem d_Core_isMemory_22 : decode c_Core_isMemory 22 = .ok (.ireturn, 1) := by decide +kernel
abbrev c_Core_isDevice : ByteArray := prog_6_method_23_code
def y_Core_isDevice : MethodName := ⟨"CycleChip$Core", "isDevice", "(I)Z"⟩
theorem d_Core_isDevice_0 : decode c_Core_isDevice 0 = .ok (.iload_n 0, 1) := by decide +kernel
theorem d_Core_isDevice_1 : decode c_Core_isDevice 1 = .ok (.sipush 4096, 3) := by decide +kernel
theorem d_Core_isDevice_4 : decode c_Core_isDevice 4 = .ok (.if_icmp .lt 14, 3) := by decide +kernel
theorem d_Core_isDevice_7 : decode c_Core_isDevice 7 = .ok (.iload_n 0, 1) := by decide +kernel
theorem d_Core_isDevice_8 : decode c_Core_isDevice 8 = .ok (.sipush 4160, 3) := by decide +kernel
theorem d_Core_isDevice_11 : decode c_Core_isDevice 11 = .ok (.if_icmp .ge 7, 3) := by decide +kernel
theorem d_Core_isDevice_14 : decode c_Core_isDevice 14 = .ok (.iconst 1, 1) := by decide +kernel
theorem d_Core_isDevice_15 : decode c_Core_isDevice 15 = .ok (.goto 4, 3) := by decide +kernel
theorem d_Core_isDevice_18 : decode c_Core_isDevice 18 = .ok (.iconst 0, 1) := by decide +kernel
theorem d_Core_isDevice_19 : decode c_Core_isDevice 19 = .ok (.ireturn, 1) := by decide +kernel
abbrev c_Core_fieldD : ByteArray := prog_6_method_24_code
def y_Core_fieldD : MethodName := ⟨"CycleChip$Core", "fieldD", "(I)I"⟩
theorem d_Core_fieldD_0 : decode c_Core_fieldD 0 = .ok (.iload_n 0, 1) := by decide +kernel
theorem d_Core_fieldD_1 : decode c_Core_fieldD 1 = .ok (.bipush 7, 2) := by decide +kernel
theorem d_Core_fieldD_3 : decode c_Core_fieldD 3 = .ok (.ishr, 1) := by decide +kernel
theorem d_Core_fieldD_4 : decode c_Core_fieldD 4 = .ok (.bipush 31, 2) := by decide +kernel
theorem d_Core_fieldD_6 : decode c_Core_fieldD 6 = .ok (.iand, 1) := by decide +kernel
theorem d_Core_fieldD_7 : decode c_Core_fieldD 7 = .ok (.ireturn, 1) := by decide +kernel
abbrev c_Core_fieldF : ByteArray := prog_6_method_25_code
def y_Core_fieldF : MethodName := ⟨"CycleChip$Core", "fieldF", "(I)I"⟩
theorem d_Core_fieldF_0 : decode c_Core_fieldF 0 = .ok (.iload_n 0, 1) := by decide +kernel
theorem d_Core_fieldF_1 : decode c_Core_fieldF 1 = .ok (.bipush 12, 2) := by decide +kernel
theorem d_Core_fieldF_3 : decode c_Core_fieldF 3 = .ok (.ishr, 1) := by decide +kernel
theorem d_Core_fieldF_4 : decode c_Core_fieldF 4 = .ok (.bipush 7, 2) := by decide +kernel
theorem d_Core_fieldF_6 : decode c_Core_fieldF 6 = .ok (.iand, 1) := by decide +kernel
theorem d_Core_fieldF_7 : decode c_Core_fieldF 7 = .ok (.ireturn, 1) := by decide +kernel
abbrev c_Core_fieldA : ByteArray := prog_6_method_26_code
def y_Core_fieldA : MethodName := ⟨"CycleChip$Core", "fieldA", "(I)I"⟩
theorem d_Core_fieldA_0 : decode c_Core_fieldA 0 = .ok (.iload_n 0, 1) := by decide +kernel
theorem d_Core_fieldA_1 : decode c_Core_fieldA 1 = .ok (.bipush 15, 2) := by decide +kernel
theorem d_Core_fieldA_3 : decode c_Core_fieldA 3 = .ok (.ishr, 1) := by decide +kernel
theorem d_Core_fieldA_4 : decode c_Core_fieldA 4 = .ok (.bipush 31, 2) := by decide +kernel
theorem d_Core_fieldA_6 : decode c_Core_fieldA 6 = .ok (.iand, 1) := by decide +kernel
theorem d_Core_fieldA_7 : decode c_Core_fieldA 7 = .ok (.ireturn, 1) := by decide +kernel
abbrev c_Core_fieldB : ByteArray := prog_6_method_27_code
def y_Core_fieldB : MethodName := ⟨"CycleChip$Core", "fieldB", "(I)I"⟩
theorem d_Core_fieldB_0 : decode c_Core_fieldB 0 = .ok (.iload_n 0, 1) := by decide +kernel
theorem d_Core_fieldB_1 : decode c_Core_fieldB 1 = .ok (.bipush 20, 2) := by decide +kernel
theorem d_Core_fieldB_3 : decode c_Core_fieldB 3 = .ok (.ishr, 1) := by decide +kernel
theorem d_Core_fieldB_4 : decode c_Core_fieldB 4 = .ok (.bipush 31, 2) := by decide +kernel
theorem d_Core_fieldB_6 : decode c_Core_fieldB 6 = .ok (.iand, 1) := by decide +kernel
theorem d_Core_fieldB_7 : decode c_Core_fieldB 7 = .ok (.ireturn, 1) := by decide +kernel
abbrev c_Core_branchOffset : ByteArray := prog_6_method_28_code
def y_Core_branchOffset : MethodName := ⟨"CycleChip$Core", "branchOffset", "(I)I"⟩
theorem d_Core_branchOffset_0 : decode c_Core_branchOffset 0 = .ok (.iload_n 0, 1) := by decide +kernel
theorem d_Core_branchOffset_1 : decode c_Core_branchOffset 1 = .ok (.bipush 31, 2) := by decide +kernel
theorem d_Core_branchOffset_3 : decode c_Core_branchOffset 3 = .ok (.ishr, 1) := by decide +kernel
theorem d_Core_branchOffset_4 : decode c_Core_branchOffset 4 = .ok (.sipush 4096, 3) := by decide +kernel
theorem d_Core_branchOffset_7 : decode c_Core_branchOffset 7 = .ok (.imul, 1) := by decide +kernel
theorem d_Core_branchOffset_8 : decode c_Core_branchOffset 8 = .ok (.iload_n 0, 1) := by decide +kernel
theorem d_Core_branchOffset_9 : decode c_Core_branchOffset 9 = .ok (.bipush 7, 2) := by decide +kernel
theorem d_Core_branchOffset_11 : decode c_Core_branchOffset 11 = .ok (.ishr, 1) := by decide +kernel
theorem d_Core_branchOffset_12 : decode c_Core_branchOffset 12 = .ok (.iconst 1, 1) := by decide +kernel
theorem d_Core_branchOffset_13 : decode c_Core_branchOffset 13 = .ok (.iand, 1) := by decide +kernel
theorem d_Core_branchOffset_14 : decode c_Core_branchOffset 14 = .ok (.sipush 2048, 3) := by decide +kernel
theorem d_Core_branchOffset_17 : decode c_Core_branchOffset 17 = .ok (.imul, 1) := by decide +kernel
theorem d_Core_branchOffset_18 : decode c_Core_branchOffset 18 = .ok (.iadd, 1) := by decide +kernel
theorem d_Core_branchOffset_19 : decode c_Core_branchOffset 19 = .ok (.iload_n 0, 1) := by decide +kernel
theorem d_Core_branchOffset_20 : decode c_Core_branchOffset 20 = .ok (.bipush 25, 2) := by decide +kernel
theorem d_Core_branchOffset_22 : decode c_Core_branchOffset 22 = .ok (.ishr, 1) := by decide +kernel
theorem d_Core_branchOffset_23 : decode c_Core_branchOffset 23 = .ok (.bipush 63, 2) := by decide +kernel
theorem d_Core_branchOffset_25 : decode c_Core_branchOffset 25 = .ok (.iand, 1) := by decide +kernel
theorem d_Core_branchOffset_26 : decode c_Core_branchOffset 26 = .ok (.bipush 32, 2) := by decide +kernel
theorem d_Core_branchOffset_28 : decode c_Core_branchOffset 28 = .ok (.imul, 1) := by decide +kernel
theorem d_Core_branchOffset_29 : decode c_Core_branchOffset 29 = .ok (.iadd, 1) := by decide +kernel
theorem d_Core_branchOffset_30 : decode c_Core_branchOffset 30 = .ok (.iload_n 0, 1) := by decide +kernel
theorem d_Core_branchOffset_31 : decode c_Core_branchOffset 31 = .ok (.bipush 8, 2) := by decide +kernel
theorem d_Core_branchOffset_33 : decode c_Core_branchOffset 33 = .ok (.ishr, 1) := by decide +kernel
theorem d_Core_branchOffset_34 : decode c_Core_branchOffset 34 = .ok (.bipush 15, 2) := by decide +kernel
theorem d_Core_branchOffset_36 : decode c_Core_branchOffset 36 = .ok (.iand, 1) := by decide +kernel
theorem d_Core_branchOffset_37 : decode c_Core_branchOffset 37 = .ok (.iconst 2, 1) := by decide +kernel
theorem d_Core_branchOffset_38 : decode c_Core_branchOffset 38 = .ok (.imul, 1) := by decide +kernel
theorem d_Core_branchOffset_39 : decode c_Core_branchOffset 39 = .ok (.iadd, 1) := by decide +kernel
theorem d_Core_branchOffset_40 : decode c_Core_branchOffset 40 = .ok (.ireturn, 1) := by decide +kernel
abbrev c_Core_jumpOffset : ByteArray := prog_6_method_29_code
def y_Core_jumpOffset : MethodName := ⟨"CycleChip$Core", "jumpOffset", "(I)I"⟩
theorem d_Core_jumpOffset_0 : decode c_Core_jumpOffset 0 = .ok (.iload_n 0, 1) := by decide +kernel
theorem d_Core_jumpOffset_1 : decode c_Core_jumpOffset 1 = .ok (.bipush 31, 2) := by decide +kernel
theorem d_Core_jumpOffset_3 : decode c_Core_jumpOffset 3 = .ok (.ishr, 1) := by decide +kernel
theorem d_Core_jumpOffset_4 : decode c_Core_jumpOffset 4 = .ok (.ldc 251, 2) := by decide +kernel
theorem d_Core_jumpOffset_6 : decode c_Core_jumpOffset 6 = .ok (.imul, 1) := by decide +kernel
theorem d_Core_jumpOffset_7 : decode c_Core_jumpOffset 7 = .ok (.iload_n 0, 1) := by decide +kernel
theorem d_Core_jumpOffset_8 : decode c_Core_jumpOffset 8 = .ok (.bipush 12, 2) := by decide +kernel
theorem d_Core_jumpOffset_10 : decode c_Core_jumpOffset 10 = .ok (.ishr, 1) := by decide +kernel
theorem d_Core_jumpOffset_11 : decode c_Core_jumpOffset 11 = .ok (.sipush 255, 3) := by decide +kernel
theorem d_Core_jumpOffset_14 : decode c_Core_jumpOffset 14 = .ok (.iand, 1) := by decide +kernel
theorem d_Core_jumpOffset_15 : decode c_Core_jumpOffset 15 = .ok (.sipush 4096, 3) := by decide +kernel
theorem d_Core_jumpOffset_18 : decode c_Core_jumpOffset 18 = .ok (.imul, 1) := by decide +kernel
theorem d_Core_jumpOffset_19 : decode c_Core_jumpOffset 19 = .ok (.iadd, 1) := by decide +kernel
theorem d_Core_jumpOffset_20 : decode c_Core_jumpOffset 20 = .ok (.iload_n 0, 1) := by decide +kernel
theorem d_Core_jumpOffset_21 : decode c_Core_jumpOffset 21 = .ok (.bipush 20, 2) := by decide +kernel
theorem d_Core_jumpOffset_23 : decode c_Core_jumpOffset 23 = .ok (.ishr, 1) := by decide +kernel
theorem d_Core_jumpOffset_24 : decode c_Core_jumpOffset 24 = .ok (.iconst 1, 1) := by decide +kernel
theorem d_Core_jumpOffset_25 : decode c_Core_jumpOffset 25 = .ok (.iand, 1) := by decide +kernel
theorem d_Core_jumpOffset_26 : decode c_Core_jumpOffset 26 = .ok (.sipush 2048, 3) := by decide +kernel
theorem d_Core_jumpOffset_29 : decode c_Core_jumpOffset 29 = .ok (.imul, 1) := by decide +kernel
theorem d_Core_jumpOffset_30 : decode c_Core_jumpOffset 30 = .ok (.iadd, 1) := by decide +kernel
theorem d_Core_jumpOffset_31 : decode c_Core_jumpOffset 31 = .ok (.iload_n 0, 1) := by decide +kernel
theorem d_Core_jumpOffset_32 : decode c_Core_jumpOffset 32 = .ok (.bipush 21, 2) := by decide +kernel
theorem d_Core_jumpOffset_34 : decode c_Core_jumpOffset 34 = .ok (.ishr, 1) := by decide +kernel
theorem d_Core_jumpOffset_35 : decode c_Core_jumpOffset 35 = .ok (.sipush 1023, 3) := by decide +kernel
theorem d_Core_jumpOffset_38 : decode c_Core_jumpOffset 38 = .ok (.iand, 1) := by decide +kernel
theorem d_Core_jumpOffset_39 : decode c_Core_jumpOffset 39 = .ok (.iconst 2, 1) := by decide +kernel
theorem d_Core_jumpOffset_40 : decode c_Core_jumpOffset 40 = .ok (.imul, 1) := by decide +kernel
theorem d_Core_jumpOffset_41 : decode c_Core_jumpOffset 41 = .ok (.iadd, 1) := by decide +kernel
theorem d_Core_jumpOffset_42 : decode c_Core_jumpOffset 42 = .ok (.ireturn, 1) := by decide +kernel
abbrev c_Core_isTrue : ByteArray := prog_6_method_30_code
def y_Core_isTrue : MethodName := ⟨"CycleChip$Core", "isTrue", "(III)Z"⟩
theorem d_Core_isTrue_0 : decode c_Core_isTrue 0 = .ok (.iload_n 0, 1) := by decide +kernel
theorem d_Core_isTrue_1 : decode c_Core_isTrue 1 = .ok (.tableswitch 101 0 6 #[43, 54, 101, 101, 65, 76, 87], 43) := by decide +kernel
theorem d_Core_isTrue_44 : decode c_Core_isTrue 44 = .ok (.iload_n 1, 1) := by decide +kernel
theorem d_Core_isTrue_45 : decode c_Core_isTrue 45 = .ok (.iload_n 2, 1) := by decide +kernel
theorem d_Core_isTrue_46 : decode c_Core_isTrue 46 = .ok (.if_icmp .ne 7, 3) := by decide +kernel
theorem d_Core_isTrue_49 : decode c_Core_isTrue 49 = .ok (.iconst 1, 1) := by decide +kernel
theorem d_Core_isTrue_50 : decode c_Core_isTrue 50 = .ok (.goto 4, 3) := by decide +kernel
theorem d_Core_isTrue_53 : decode c_Core_isTrue 53 = .ok (.iconst 0, 1) := by decide +kernel
theorem d_Core_isTrue_54 : decode c_Core_isTrue 54 = .ok (.ireturn, 1) := by decide +kernel
theorem d_Core_isTrue_55 : decode c_Core_isTrue 55 = .ok (.iload_n 1, 1) := by decide +kernel
theorem d_Core_isTrue_56 : decode c_Core_isTrue 56 = .ok (.iload_n 2, 1) := by decide +kernel
theorem d_Core_isTrue_57 : decode c_Core_isTrue 57 = .ok (.if_icmp .eq 7, 3) := by decide +kernel
theorem d_Core_isTrue_60 : decode c_Core_isTrue 60 = .ok (.iconst 1, 1) := by decide +kernel
theorem d_Core_isTrue_61 : decode c_Core_isTrue 61 = .ok (.goto 4, 3) := by decide +kernel
theorem d_Core_isTrue_64 : decode c_Core_isTrue 64 = .ok (.iconst 0, 1) := by decide +kernel
theorem d_Core_isTrue_65 : decode c_Core_isTrue 65 = .ok (.ireturn, 1) := by decide +kernel
theorem d_Core_isTrue_66 : decode c_Core_isTrue 66 = .ok (.iload_n 1, 1) := by decide +kernel
theorem d_Core_isTrue_67 : decode c_Core_isTrue 67 = .ok (.iload_n 2, 1) := by decide +kernel
theorem d_Core_isTrue_68 : decode c_Core_isTrue 68 = .ok (.if_icmp .ge 7, 3) := by decide +kernel
theorem d_Core_isTrue_71 : decode c_Core_isTrue 71 = .ok (.iconst 1, 1) := by decide +kernel
theorem d_Core_isTrue_72 : decode c_Core_isTrue 72 = .ok (.goto 4, 3) := by decide +kernel
theorem d_Core_isTrue_75 : decode c_Core_isTrue 75 = .ok (.iconst 0, 1) := by decide +kernel
theorem d_Core_isTrue_76 : decode c_Core_isTrue 76 = .ok (.ireturn, 1) := by decide +kernel
theorem d_Core_isTrue_77 : decode c_Core_isTrue 77 = .ok (.iload_n 1, 1) := by decide +kernel
theorem d_Core_isTrue_78 : decode c_Core_isTrue 78 = .ok (.iload_n 2, 1) := by decide +kernel
theorem d_Core_isTrue_79 : decode c_Core_isTrue 79 = .ok (.if_icmp .lt 7, 3) := by decide +kernel
theorem d_Core_isTrue_82 : decode c_Core_isTrue 82 = .ok (.iconst 1, 1) := by decide +kernel
theorem d_Core_isTrue_83 : decode c_Core_isTrue 83 = .ok (.goto 4, 3) := by decide +kernel
theorem d_Core_isTrue_86 : decode c_Core_isTrue 86 = .ok (.iconst 0, 1) := by decide +kernel
theorem d_Core_isTrue_87 : decode c_Core_isTrue 87 = .ok (.ireturn, 1) := by decide +kernel
theorem d_Core_isTrue_88 : decode c_Core_isTrue 88 = .ok (.iload_n 1, 1) := by decide +kernel
theorem d_Core_isTrue_89 : decode c_Core_isTrue 89 = .ok (.iload_n 2, 1) := by decide +kernel
theorem d_Core_isTrue_90 : decode c_Core_isTrue 90 = .ok (.invokestatic 252, 3) := by decide +kernel
theorem d_Core_isTrue_93 : decode c_Core_isTrue 93 = .ok (.ifCond .ge 7, 3) := by decide +kernel
theorem d_Core_isTrue_96 : decode c_Core_isTrue 96 = .ok (.iconst 1, 1) := by decide +kernel
theorem d_Core_isTrue_97 : decode c_Core_isTrue 97 = .ok (.goto 4, 3) := by decide +kernel
theorem d_Core_isTrue_100 : decode c_Core_isTrue 100 = .ok (.iconst 0, 1) := by decide +kernel
theorem d_Core_isTrue_101 : decode c_Core_isTrue 101 = .ok (.ireturn, 1) := by decide +kernel
theorem d_Core_isTrue_102 : decode c_Core_isTrue 102 = .ok (.iload_n 1, 1) := by decide +kernel
theorem d_Core_isTrue_103 : decode c_Core_isTrue 103 = .ok (.iload_n 2, 1) := by decide +kernel
theorem d_Core_isTrue_104 : decode c_Core_isTrue 104 = .ok (.invokestatic 252, 3) := by decide +kernel
theorem d_Core_isTrue_107 : decode c_Core_isTrue 107 = .ok (.ifCond .lt 7, 3) := by decide +kernel
theorem d_Core_isTrue_110 : decode c_Core_isTrue 110 = .ok (.iconst 1, 1) := by decide +kernel
theorem d_Core_isTrue_111 : decode c_Core_isTrue 111 = .ok (.goto 4, 3) := by decide +kernel
theorem d_Core_isTrue_114 : decode c_Core_isTrue 114 = .ok (.iconst 0, 1) := by decide +kernel
theorem d_Core_isTrue_115 : decode c_Core_isTrue 115 = .ok (.ireturn, 1) := by decide +kernel
abbrev c_Core_plain : ByteArray := prog_6_method_31_code
def y_Core_plain : MethodName := ⟨"CycleChip$Core", "plain", "(III)I"⟩
theorem d_Core_plain_0 : decode c_Core_plain 0 = .ok (.iload_n 0, 1) := by decide +kernel
theorem d_Core_plain_1 : decode c_Core_plain 1 = .ok (.tableswitch 88 0 6 #[43, 47, 51, 62, 76, 80, 84], 43) := by decide +kernel
theorem d_Core_plain_44 : decode c_Core_plain 44 = .ok (.iload_n 1, 1) := by decide +kernel
theorem d_Core_plain_45 : decode c_Core_plain 45 = .ok (.iload_n 2, 1) := by decide +kernel
theorem d_Core_plain_46 : decode c_Core_plain 46 = .ok (.iadd, 1) := by decide +kernel
theorem d_Core_plain_47 : decode c_Core_plain 47 = .ok (.ireturn, 1) := by decide +kernel
theorem d_Core_plain_48 : decode c_Core_plain 48 = .ok (.iload_n 1, 1) := by decide +kernel
theorem d_Core_plain_49 : decode c_Core_plain 49 = .ok (.iload_n 2, 1) := by decide +kernel
theorem d_Core_plain_50 : decode c_Core_plain 50 = .ok (.ishl, 1) := by decide +kernel
theorem d_Core_plain_51 : decode c_Core_plain 51 = .ok (.ireturn, 1) := by decide +kernel
theorem d_Core_plain_52 : decode c_Core_plain 52 = .ok (.iload_n 1, 1) := by decide +kernel
theorem d_Core_plain_53 : decode c_Core_plain 53 = .ok (.iload_n 2, 1) := by decide +kernel
theorem d_Core_plain_54 : decode c_Core_plain 54 = .ok (.if_icmp .ge 7, 3) := by decide +kernel
theorem d_Core_plain_57 : decode c_Core_plain 57 = .ok (.iconst 1, 1) := by decide +kernel
theorem d_Core_plain_58 : decode c_Core_plain 58 = .ok (.goto 4, 3) := by decide +kernel
theorem d_Core_plain_61 : decode c_Core_plain 61 = .ok (.iconst 0, 1) := by decide +kernel
theorem d_Core_plain_62 : decode c_Core_plain 62 = .ok (.ireturn, 1) := by decide +kernel
theorem d_Core_plain_63 : decode c_Core_plain 63 = .ok (.iload_n 1, 1) := by decide +kernel
theorem d_Core_plain_64 : decode c_Core_plain 64 = .ok (.iload_n 2, 1) := by decide +kernel
theorem d_Core_plain_65 : decode c_Core_plain 65 = .ok (.invokestatic 252, 3) := by decide +kernel
theorem d_Core_plain_68 : decode c_Core_plain 68 = .ok (.ifCond .ge 7, 3) := by decide +kernel
theorem d_Core_plain_71 : decode c_Core_plain 71 = .ok (.iconst 1, 1) := by decide +kernel
theorem d_Core_plain_72 : decode c_Core_plain 72 = .ok (.goto 4, 3) := by decide +kernel
theorem d_Core_plain_75 : decode c_Core_plain 75 = .ok (.iconst 0, 1) := by decide +kernel
theorem d_Core_plain_76 : decode c_Core_plain 76 = .ok (.ireturn, 1) := by decide +kernel
theorem d_Core_plain_77 : decode c_Core_plain 77 = .ok (.iload_n 1, 1) := by decide +kernel
theorem d_Core_plain_78 : decode c_Core_plain 78 = .ok (.iload_n 2, 1) := by decide +kernel
theorem d_Core_plain_79 : decode c_Core_plain 79 = .ok (.ixor, 1) := by decide +kernel
theorem d_Core_plain_80 : decode c_Core_plain 80 = .ok (.ireturn, 1) := by decide +kernel
theorem d_Core_plain_81 : decode c_Core_plain 81 = .ok (.iload_n 1, 1) := by decide +kernel
theorem d_Core_plain_82 : decode c_Core_plain 82 = .ok (.iload_n 2, 1) := by decide +kernel
theorem d_Core_plain_83 : decode c_Core_plain 83 = .ok (.iushr, 1) := by decide +kernel
theorem d_Core_plain_84 : decode c_Core_plain 84 = .ok (.ireturn, 1) := by decide +kernel
theorem d_Core_plain_85 : decode c_Core_plain 85 = .ok (.iload_n 1, 1) := by decide +kernel
theorem d_Core_plain_86 : decode c_Core_plain 86 = .ok (.iload_n 2, 1) := by decide +kernel
theorem d_Core_plain_87 : decode c_Core_plain 87 = .ok (.ior, 1) := by decide +kernel
theorem d_Core_plain_88 : decode c_Core_plain 88 = .ok (.ireturn, 1) := by decide +kernel
theorem d_Core_plain_89 : decode c_Core_plain 89 = .ok (.iload_n 1, 1) := by decide +kernel
theorem d_Core_plain_90 : decode c_Core_plain 90 = .ok (.iload_n 2, 1) := by decide +kernel
theorem d_Core_plain_91 : decode c_Core_plain 91 = .ok (.iand, 1) := by decide +kernel
theorem d_Core_plain_92 : decode c_Core_plain 92 = .ok (.ireturn, 1) := by decide +kernel
abbrev c_Core_product : ByteArray := prog_6_method_32_code
def y_Core_product : MethodName := ⟨"CycleChip$Core", "product", "(III)I"⟩
theorem d_Core_product_0 : decode c_Core_product 0 = .ok (.iload_n 0, 1) := by decide +kernel
theorem d_Core_product_1 : decode c_Core_product 1 = .ok (.tableswitch 55 0 2 #[27, 31, 41], 27) := by decide +kernel
theorem d_Core_product_28 : decode c_Core_product 28 = .ok (.iload_n 1, 1) := by decide +kernel
theorem d_Core_product_29 : decode c_Core_product 29 = .ok (.iload_n 2, 1) := by decide +kernel
theorem d_Core_product_30 : decode c_Core_product 30 = .ok (.imul, 1) := by decide +kernel
theorem d_Core_product_31 : decode c_Core_product 31 = .ok (.ireturn, 1) := by decide +kernel
theorem d_Core_product_32 : decode c_Core_product 32 = .ok (.iload_n 1, 1) := by decide +kernel
theorem d_Core_product_33 : decode c_Core_product 33 = .ok (.i2l, 1) := by decide +kernel
theorem d_Core_product_34 : decode c_Core_product 34 = .ok (.iload_n 2, 1) := by decide +kernel
theorem d_Core_product_35 : decode c_Core_product 35 = .ok (.i2l, 1) := by decide +kernel
theorem d_Core_product_36 : decode c_Core_product 36 = .ok (.lmul, 1) := by decide +kernel
theorem d_Core_product_37 : decode c_Core_product 37 = .ok (.bipush 32, 2) := by decide +kernel
theorem d_Core_product_39 : decode c_Core_product 39 = .ok (.lshr, 1) := by decide +kernel
theorem d_Core_product_40 : decode c_Core_product 40 = .ok (.l2i, 1) := by decide +kernel
theorem d_Core_product_41 : decode c_Core_product 41 = .ok (.ireturn, 1) := by decide +kernel
theorem d_Core_product_42 : decode c_Core_product 42 = .ok (.iload_n 1, 1) := by decide +kernel
theorem d_Core_product_43 : decode c_Core_product 43 = .ok (.i2l, 1) := by decide +kernel
theorem d_Core_product_44 : decode c_Core_product 44 = .ok (.iload_n 2, 1) := by decide +kernel
theorem d_Core_product_45 : decode c_Core_product 45 = .ok (.i2l, 1) := by decide +kernel
theorem d_Core_product_46 : decode c_Core_product 46 = .ok (.ldc2_w 258, 3) := by decide +kernel
theorem d_Core_product_49 : decode c_Core_product 49 = .ok (.land, 1) := by decide +kernel
theorem d_Core_product_50 : decode c_Core_product 50 = .ok (.lmul, 1) := by decide +kernel
theorem d_Core_product_51 : decode c_Core_product 51 = .ok (.bipush 32, 2) := by decide +kernel
theorem d_Core_product_53 : decode c_Core_product 53 = .ok (.lshr, 1) := by decide +kernel
theorem d_Core_product_54 : decode c_Core_product 54 = .ok (.l2i, 1) := by decide +kernel
theorem d_Core_product_55 : decode c_Core_product 55 = .ok (.ireturn, 1) := by decide +kernel
theorem d_Core_product_56 : decode c_Core_product 56 = .ok (.iload_n 1, 1) := by decide +kernel
theorem d_Core_product_57 : decode c_Core_product 57 = .ok (.i2l, 1) := by decide +kernel
theorem d_Core_product_58 : decode c_Core_product 58 = .ok (.ldc2_w 258, 3) := by decide +kernel
theorem d_Core_product_61 : decode c_Core_product 61 = .ok (.land, 1) := by decide +kernel
theorem d_Core_product_62 : decode c_Core_product 62 = .ok (.iload_n 2, 1) := by decide +kernel
theorem d_Core_product_63 : decode c_Core_product 63 = .ok (.i2l, 1) := by decide +kernel
theorem d_Core_product_64 : decode c_Core_product 64 = .ok (.ldc2_w 258, 3) := by decide +kernel
theorem d_Core_product_67 : decode c_Core_product 67 = .ok (.land, 1) := by decide +kernel
theorem d_Core_product_68 : decode c_Core_product 68 = .ok (.lmul, 1) := by decide +kernel
theorem d_Core_product_69 : decode c_Core_product 69 = .ok (.bipush 32, 2) := by decide +kernel
theorem d_Core_product_71 : decode c_Core_product 71 = .ok (.lushr, 1) := by decide +kernel
theorem d_Core_product_72 : decode c_Core_product 72 = .ok (.l2i, 1) := by decide +kernel
theorem d_Core_product_73 : decode c_Core_product 73 = .ok (.ireturn, 1) := by decide +kernel
abbrev c_Core_quotient : ByteArray := prog_6_method_33_code
def y_Core_quotient : MethodName := ⟨"CycleChip$Core", "quotient", "(III)I"⟩
theorem d_Core_quotient_0 : decode c_Core_quotient 0 = .ok (.iload_n 2, 1) := by decide +kernel
theorem d_Core_quotient_1 : decode c_Core_quotient 1 = .ok (.ifCond .ne 15, 3) := by decide +kernel
theorem d_Core_quotient_4 : decode c_Core_quotient 4 = .ok (.iload_n 0, 1) := by decide +kernel
theorem d_Core_quotient_5 : decode c_Core_quotient 5 = .ok (.bipush 6, 2) := by decide +kernel
theorem d_Core_quotient_7 : decode c_Core_quotient 7 = .ok (.if_icmp .ge 7, 3) := by decide +kernel
theorem d_Core_quotient_10 : decode c_Core_quotient 10 = .ok (.iconst (-1), 1) := by decide +kernel
theorem d_Core_quotient_11 : decode c_Core_quotient 11 = .ok (.goto 4, 3) := by decide +kernel
theorem d_Core_quotient_14 : decode c_Core_quotient 14 = .ok (.iload_n 1, 1) := by decide +kernel
theorem d_Core_quotient_15 : decode c_Core_quotient 15 = .ok (.ireturn, 1) := by decide +kernel
theorem d_Core_quotient_16 : decode c_Core_quotient 16 = .ok (.iload_n 0, 1) := by decide +kernel
theorem d_Core_quotient_17 : decode c_Core_quotient 17 = .ok (.tableswitch 50 4 6 #[27, 31, 46], 27) := by decide +kernel
theorem d_Core_quotient_44 : decode c_Core_quotient 44 = .ok (.iload_n 1, 1) := by decide +kernel
theorem d_Core_quotient_45 : decode c_Core_quotient 45 = .ok (.iload_n 2, 1) := by decide +kernel
theorem d_Core_quotient_46 : decode c_Core_quotient 46 = .ok (.idiv, 1) := by decide +kernel
theorem d_Core_quotient_47 : decode c_Core_quotient 47 = .ok (.ireturn, 1) := by decide +kernel
theorem d_Core_quotient_48 : decode c_Core_quotient 48 = .ok (.iload_n 1, 1) := by decide +kernel
theorem d_Core_quotient_49 : decode c_Core_quotient 49 = .ok (.i2l, 1) := by decide +kernel
theorem d_Core_quotient_50 : decode c_Core_quotient 50 = .ok (.ldc2_w 258, 3) := by decide +kernel
theorem d_Core_quotient_53 : decode c_Core_quotient 53 = .ok (.land, 1) := by decide +kernel
theorem d_Core_quotient_54 : decode c_Core_quotient 54 = .ok (.iload_n 2, 1) := by decide +kernel
theorem d_Core_quotient_55 : decode c_Core_quotient 55 = .ok (.i2l, 1) := by decide +kernel
theorem d_Core_quotient_56 : decode c_Core_quotient 56 = .ok (.ldc2_w 258, 3) := by decide +kernel
theorem d_Core_quotient_59 : decode c_Core_quotient 59 = .ok (.land, 1) := by decide +kernel
theorem d_Core_quotient_60 : decode c_Core_quotient 60 = .ok (.ldiv, 1) := by decide +kernel
theorem d_Core_quotient_61 : decode c_Core_quotient 61 = .ok (.l2i, 1) := by decide +kernel
theorem d_Core_quotient_62 : decode c_Core_quotient 62 = .ok (.ireturn, 1) := by decide +kernel
theorem d_Core_quotient_63 : decode c_Core_quotient 63 = .ok (.iload_n 1, 1) := by decide +kernel
theorem d_Core_quotient_64 : decode c_Core_quotient 64 = .ok (.iload_n 2, 1) := by decide +kernel
theorem d_Core_quotient_65 : decode c_Core_quotient 65 = .ok (.irem, 1) := by decide +kernel
theorem d_Core_quotient_66 : decode c_Core_quotient 66 = .ok (.ireturn, 1) := by decide +kernel
theorem d_Core_quotient_67 : decode c_Core_quotient 67 = .ok (.iload_n 1, 1) := by decide +kernel
theorem d_Core_quotient_68 : decode c_Core_quotient 68 = .ok (.i2l, 1) := by decide +kernel
theorem d_Core_quotient_69 : decode c_Core_quotient 69 = .ok (.ldc2_w 258, 3) := by decide +kernel
theorem d_Core_quotient_72 : decode c_Core_quotient 72 = .ok (.land, 1) := by decide +kernel
theorem d_Core_quotient_73 : decode c_Core_quotient 73 = .ok (.iload_n 2, 1) := by decide +kernel
theorem d_Core_quotient_74 : decode c_Core_quotient 74 = .ok (.i2l, 1) := by decide +kernel
theorem d_Core_quotient_75 : decode c_Core_quotient 75 = .ok (.ldc2_w 258, 3) := by decide +kernel
theorem d_Core_quotient_78 : decode c_Core_quotient 78 = .ok (.land, 1) := by decide +kernel
theorem d_Core_quotient_79 : decode c_Core_quotient 79 = .ok (.lrem, 1) := by decide +kernel
theorem d_Core_quotient_80 : decode c_Core_quotient 80 = .ok (.l2i, 1) := by decide +kernel
theorem d_Core_quotient_81 : decode c_Core_quotient 81 = .ok (.ireturn, 1) := by decide +kernel
