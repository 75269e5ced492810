abbrev c_Chip_init : ByteArray := prog_1_method_1_code
def y_Chip_init : MethodName := ⟨"CycleChip", "<init>", "(II)V"⟩
theorem d_Chip_init_0 : decode c_Chip_init 0 = .ok (.aload_n 0, 1) := by decide +kernel
theorem d_Chip_init_1 : decode c_Chip_init 1 = .ok (.invokespecial 1, 3) := by decide +kernel
theorem d_Chip_init_4 : decode c_Chip_init 4 = .ok (.aload_n 0, 1) := by decide +kernel
theorem d_Chip_init_5 : decode c_Chip_init 5 = .ok (.sipush 128, 3) := by decide +kernel
theorem d_Chip_init_8 : decode c_Chip_init 8 = .ok (.newarray .int, 2) := by decide +kernel
theorem d_Chip_init_10 : decode c_Chip_init 10 = .ok (.putfield 9, 3) := by decide +kernel
theorem d_Chip_init_13 : decode c_Chip_init 13 = .ok (.aload_n 0, 1) := by decide +kernel
theorem d_Chip_init_14 : decode c_Chip_init 14 = .ok (.new 13, 3) := by decide +kernel
theorem d_Chip_init_17 : decode c_Chip_init 17 = .ok (.dup, 1) := by decide +kernel
theorem d_Chip_init_18 : decode c_Chip_init 18 = .ok (.invokespecial 15, 3) := by decide +kernel
theorem d_Chip_init_21 : decode c_Chip_init 21 = .ok (.putfield 16, 3) := by decide +kernel
theorem d_Chip_init_24 : decode c_Chip_init 24 = .ok (.aload_n 0, 1) := by decide +kernel
theorem d_Chip_init_25 : decode c_Chip_init 25 = .ok (.new 20, 3) := by decide +kernel
theorem d_Chip_init_28 : decode c_Chip_init 28 = .ok (.dup, 1) := by decide +kernel
theorem d_Chip_init_29 : decode c_Chip_init 29 = .ok (.invokespecial 22, 3) := by decide +kernel
theorem d_Chip_init_32 : decode c_Chip_init 32 = .ok (.putfield 23, 3) := by decide +kernel
theorem d_Chip_init_35 : decode c_Chip_init 35 = .ok (.aload_n 0, 1) := by decide +kernel
theorem d_Chip_init_36 : decode c_Chip_init 36 = .ok (.new 27, 3) := by decide +kernel
theorem d_Chip_init_39 : decode c_Chip_init 39 = .ok (.dup, 1) := by decide +kernel
theorem d_Chip_init_40 : decode c_Chip_init 40 = .ok (.invokespecial 29, 3) := by decide +kernel
theorem d_Chip_init_43 : decode c_Chip_init 43 = .ok (.putfield 30, 3) := by decide +kernel
theorem d_Chip_init_46 : decode c_Chip_init 46 = .ok (.aload_n 0, 1) := by decide +kernel
theorem d_Chip_init_47 : decode c_Chip_init 47 = .ok (.new 34, 3) := by decide +kernel
theorem d_Chip_init_50 : decode c_Chip_init 50 = .ok (.dup, 1) := by decide +kernel
theorem d_Chip_init_51 : decode c_Chip_init 51 = .ok (.iload_n 2, 1) := by decide +kernel
theorem d_Chip_init_52 : decode c_Chip_init 52 = .ok (.invokestatic 36, 3) := by decide +kernel
theorem d_Chip_init_55 : decode c_Chip_init 55 = .ok (.invokespecial 40, 3) := by decide +kernel
theorem d_Chip_init_58 : decode c_Chip_init 58 = .ok (.putfield 43, 3) := by decide +kernel
theorem d_Chip_init_61 : decode c_Chip_init 61 = .ok (.aload_n 0, 1) := by decide +kernel
theorem d_Chip_init_62 : decode c_Chip_init 62 = .ok (.new 34, 3) := by decide +kernel
theorem d_Chip_init_65 : decode c_Chip_init 65 = .ok (.dup, 1) := by decide +kernel
theorem d_Chip_init_66 : decode c_Chip_init 66 = .ok (.iload_n 2, 1) := by decide +kernel
theorem d_Chip_init_67 : decode c_Chip_init 67 = .ok (.invokestatic 36, 3) := by decide +kernel
theorem d_Chip_init_70 : decode c_Chip_init 70 = .ok (.invokespecial 40, 3) := by decide +kernel
theorem d_Chip_init_73 : decode c_Chip_init 73 = .ok (.putfield 47, 3) := by decide +kernel
theorem d_Chip_init_76 : decode c_Chip_init 76 = .ok (.aload_n 0, 1) := by decide +kernel
theorem d_Chip_init_77 : decode c_Chip_init 77 = .ok (.new 50, 3) := by decide +kernel
theorem d_Chip_init_80 : decode c_Chip_init 80 = .ok (.dup, 1) := by decide +kernel
theorem d_Chip_init_81 : decode c_Chip_init 81 = .ok (.iload_n 1, 1) := by decide +kernel
theorem d_Chip_init_82 : decode c_Chip_init 82 = .ok (.invokestatic 36, 3) := by decide +kernel
theorem d_Chip_init_85 : decode c_Chip_init 85 = .ok (.aload_n 0, 1) := by decide +kernel
theorem d_Chip_init_86 : decode c_Chip_init 86 = .ok (.getfield 9, 3) := by decide +kernel
theorem d_Chip_init_89 : decode c_Chip_init 89 = .ok (.aload_n 0, 1) := by decide +kernel
theorem d_Chip_init_90 : decode c_Chip_init 90 = .ok (.getfield 43, 3) := by decide +kernel
theorem d_Chip_init_93 : decode c_Chip_init 93 = .ok (.aload_n 0, 1) := by decide +kernel
theorem d_Chip_init_94 : decode c_Chip_init 94 = .ok (.getfield 47, 3) := by decide +kernel
theorem d_Chip_init_97 : decode c_Chip_init 97 = .ok (.aload_n 0, 1) := by decide +kernel
theorem d_Chip_init_98 : decode c_Chip_init 98 = .ok (.getfield 16, 3) := by decide +kernel
theorem d_Chip_init_101 : decode c_Chip_init 101 = .ok (.invokespecial 52, 3) := by decide +kernel
theorem d_Chip_init_104 : decode c_Chip_init 104 = .ok (.putfield 55, 3) := by decide +kernel
theorem d_Chip_init_107 : decode c_Chip_init 107 = .ok (.aload_n 0, 1) := by decide +kernel
theorem d_Chip_init_108 : decode c_Chip_init 108 = .ok (.new 59, 3) := by decide +kernel
theorem d_Chip_init_111 : decode c_Chip_init 111 = .ok (.dup, 1) := by decide +kernel
theorem d_Chip_init_112 : decode c_Chip_init 112 = .ok (.aload_n 0, 1) := by decide +kernel
theorem d_Chip_init_113 : decode c_Chip_init 113 = .ok (.getfield 30, 3) := by decide +kernel
theorem d_Chip_init_116 : decode c_Chip_init 116 = .ok (.aload_n 0, 1) := by decide +kernel
theorem d_Chip_init_117 : decode c_Chip_init 117 = .ok (.getfield 55, 3) := by decide +kernel
theorem d_Chip_init_120 : decode c_Chip_init 120 = .ok (.aload_n 0, 1) := by decide +kernel
theorem d_Chip_init_121 : decode c_Chip_init 121 = .ok (.getfield 43, 3) := by decide +kernel
theorem d_Chip_init_124 : decode c_Chip_init 124 = .ok (.aload_n 0, 1) := by decide +kernel
theorem d_Chip_init_125 : decode c_Chip_init 125 = .ok (.getfield 47, 3) := by decide +kernel
theorem d_Chip_init_128 : decode c_Chip_init 128 = .ok (.aload_n 0, 1) := by decide +kernel
theorem d_Chip_init_129 : decode c_Chip_init 129 = .ok (.getfield 16, 3) := by decide +kernel
theorem d_Chip_init_132 : decode c_Chip_init 132 = .ok (.invokespecial 61, 3) := by decide +kernel
theorem d_Chip_init_135 : decode c_Chip_init 135 = .ok (.putfield 64, 3) := by decide +kernel
theorem d_Chip_init_138 : decode c_Chip_init 138 = .ok (.return_, 1) := by decide +kernel
abbrev c_Chip_poke : ByteArray := prog_1_method_2_code
def y_Chip_poke : MethodName := ⟨"CycleChip", "poke", "(II)I"⟩
theorem d_Chip_poke_0 : decode c_Chip_poke 0 = .ok (.iload_n 1, 1) := by decide +kernel
theorem d_Chip_poke_1 : decode c_Chip_poke 1 = .ok (.invokestatic 68, 3) := by decide +kernel
theorem d_Chip_poke_4 : decode c_Chip_poke 4 = .ok (.ifCond .ne 5, 3) := by decide +kernel
theorem d_Chip_poke_7 : decode c_Chip_poke 7 = .ok (.iconst 0, 1) := by decide +kernel
theorem d_Chip_poke_8 : decode c_Chip_poke 8 = .ok (.ireturn, 1) := by decide +kernel
theorem d_Chip_poke_9 : decode c_Chip_poke 9 = .ok (.aload_n 0, 1) := by decide +kernel
theorem d_Chip_poke_10 : decode c_Chip_poke 10 = .ok (.getfield 9, 3) := by decide +kernel
theorem d_Chip_poke_13 : decode c_Chip_poke 13 = .ok (.iload_n 1, 1) := by decide +kernel
theorem d_Chip_poke_14 : decode c_Chip_poke 14 = .ok (.iaload, 1) := by decide +kernel
theorem d_Chip_poke_15 : decode c_Chip_poke 15 = .ok (.istore_n 3, 1) := by decide +kernel
theorem d_Chip_poke_16 : decode c_Chip_poke 16 = .ok (.aload_n 0, 1) := by decide +kernel
theorem d_Chip_poke_17 : decode c_Chip_poke 17 = .ok (.getfield 9, 3) := by decide +kernel
theorem d_Chip_poke_20 : decode c_Chip_poke 20 = .ok (.iload_n 1, 1) := by decide +kernel
theorem d_Chip_poke_21 : decode c_Chip_poke 21 = .ok (.iload_n 2, 1) := by decide +kernel
theorem d_Chip_poke_22 : decode c_Chip_poke 22 = .ok (.iastore, 1) := by decide +kernel
theorem d_Chip_poke_23 : decode c_Chip_poke 23 = .ok (.iload_n 3, 1) := by decide +kernel
theorem d_Chip_poke_24 : decode c_Chip_poke 24 = .ok (.ireturn, 1) := by decide +kernel
abbrev c_Chip_peek : ByteArray := prog_1_method_3_code
def y_Chip_peek : MethodName := ⟨"CycleChip", "peek", "(I)I"⟩
theorem d_Chip_peek_0 : decode c_Chip_peek 0 = .ok (.iload_n 1, 1) := by decide +kernel
theorem d_Chip_peek_1 : decode c_Chip_peek 1 = .ok (.invokestatic 68, 3) := by decide +kernel
theorem d_Chip_peek_4 : decode c_Chip_peek 4 = .ok (.ifCond .eq 12, 3) := by decide +kernel
theorem d_Chip_peek_7 : decode c_Chip_peek 7 = .ok (.aload_n 0, 1) := by decide +kernel
theorem d_Chip_peek_8 : decode c_Chip_peek 8 = .ok (.getfield 9, 3) := by decide +kernel
theorem d_Chip_peek_11 : decode c_Chip_peek 11 = .ok (.iload_n 1, 1) := by decide +kernel
theorem d_Chip_peek_12 : decode c_Chip_peek 12 = .ok (.iaload, 1) := by decide +kernel
theorem d_Chip_peek_13 : decode c_Chip_peek 13 = .ok (.goto 4, 3) := by decide +kernel
theorem d_Chip_peek_16 : decode c_Chip_peek 16 = .ok (.iconst 0, 1) := by decide +kernel
theorem d_Chip_peek_17 : decode c_Chip_peek 17 = .ok (.ireturn, 1) := by decide +kernel
abbrev c_Chip_held : ByteArray := prog_1_method_4_code
def y_Chip_held : MethodName := ⟨"CycleChip", "held", "(ZI)J"⟩
theorem d_Chip_held_0 : decode c_Chip_held 0 = .ok (.iload_n 1, 1) := by decide +kernel
theorem d_Chip_held_1 : decode c_Chip_held 1 = .ok (.ifCond .eq 10, 3) := by decide +kernel
theorem d_Chip_held_4 : decode c_Chip_held 4 = .ok (.aload_n 0, 1) := by decide +kernel
theorem d_Chip_held_5 : decode c_Chip_held 5 = .ok (.getfield 43, 3) := by decide +kernel
theorem d_Chip_held_8 : decode c_Chip_held 8 = .ok (.goto 7, 3) := by decide +kernel
theorem d_Chip_held_11 : decode c_Chip_held 11 = .ok (.aload_n 0, 1) := by decide +kernel
theorem d_Chip_held_12 : decode c_Chip_held 12 = .ok (.getfield 47, 3) := by decide +kernel
theorem d_Chip_held_15 : decode c_Chip_held 15 = .ok (.astore_n 3, 1) := by decide +kernel
theorem d_Chip_held_16 : decode c_Chip_held 16 = .ok (.iload_n 2, 1) := by decide +kernel
theorem d_Chip_held_17 : decode c_Chip_held 17 = .ok (.invokestatic 68, 3) := by decide +kernel
theorem d_Chip_held_20 : decode c_Chip_held 20 = .ok (.ifCond .eq 11, 3) := by decide +kernel
theorem d_Chip_held_23 : decode c_Chip_held 23 = .ok (.aload_n 3, 1) := by decide +kernel
theorem d_Chip_held_24 : decode c_Chip_held 24 = .ok (.iload_n 2, 1) := by decide +kernel
theorem d_Chip_held_25 : decode c_Chip_held 25 = .ok (.invokevirtual 72, 3) := by decide +kernel
theorem d_Chip_held_28 : decode c_Chip_held 28 = .ok (.ifCond .ne 7, 3) := by decide +kernel
theorem d_Chip_held_31 : decode c_Chip_held 31 = .ok (.ldc2_w 75, 3) := by decide +kernel
theorem d_Chip_held_34 : decode c_Chip_held 34 = .ok (.lreturn, 1) := by decide +kernel
theorem d_Chip_held_35 : decode c_Chip_held 35 = .ok (.aload_n 3, 1) := by decide +kernel
theorem d_Chip_held_36 : decode c_Chip_held 36 = .ok (.iload_n 2, 1) := by decide +kernel
theorem d_Chip_held_37 : decode c_Chip_held 37 = .ok (.invokevirtual 77, 3) := by decide +kernel
theorem d_Chip_held_40 : decode c_Chip_held 40 = .ok (.i2l, 1) := by decide +kernel
theorem d_Chip_held_41 : decode c_Chip_held 41 = .ok (.ldc2_w 80, 3) := by decide +kernel
theorem d_Chip_held_44 : decode c_Chip_held 44 = .ok (.land, 1) := by decide +kernel
theorem d_Chip_held_45 : decode c_Chip_held 45 = .ok (.lreturn, 1) := by decide +kernel
abbrev c_Chip_give : ByteArray := prog_1_method_5_code
def y_Chip_give : MethodName := ⟨"CycleChip", "give", "(II)Z"⟩
theorem d_Chip_give_0 : decode c_Chip_give 0 = .ok (.iload_n 1, 1) := by decide +kernel
theorem d_Chip_give_1 : decode c_Chip_give 1 = .ok (.invokestatic 82, 3) := by decide +kernel
theorem d_Chip_give_4 : decode c_Chip_give 4 = .ok (.ifCond .ne 5, 3) := by decide +kernel
theorem d_Chip_give_7 : decode c_Chip_give 7 = .ok (.iconst 0, 1) := by decide +kernel
theorem d_Chip_give_8 : decode c_Chip_give 8 = .ok (.ireturn, 1) := by decide +kernel
theorem d_Chip_give_9 : decode c_Chip_give 9 = .ok (.aload_n 0, 1) := by decide +kernel
theorem d_Chip_give_10 : decode c_Chip_give 10 = .ok (.getfield 64, 3) := by decide +kernel
theorem d_Chip_give_13 : decode c_Chip_give 13 = .ok (.iload_n 1, 1) := by decide +kernel
theorem d_Chip_give_14 : decode c_Chip_give 14 = .ok (.iload_n 2, 1) := by decide +kernel
theorem d_Chip_give_15 : decode c_Chip_give 15 = .ok (.invokevirtual 85, 3) := by decide +kernel
theorem d_Chip_give_18 : decode c_Chip_give 18 = .ok (.iconst 1, 1) := by decide +kernel
theorem d_Chip_give_19 : decode c_Chip_give 19 = .ok (.ireturn, 1) := by decide +kernel
abbrev c_Chip_register : ByteArray := prog_1_method_6_code
def y_Chip_register : MethodName := ⟨"CycleChip", "register", "(I)I"⟩
theorem d_Chip_register_0 : decode c_Chip_register 0 = .ok (.iload_n 1, 1) := by decide +kernel
theorem d_Chip_register_1 : decode c_Chip_register 1 = .ok (.invokestatic 82, 3) := by decide +kernel
theorem d_Chip_register_4 : decode c_Chip_register 4 = .ok (.ifCond .eq 15, 3) := by decide +kernel
theorem d_Chip_register_7 : decode c_Chip_register 7 = .ok (.aload_n 0, 1) := by decide +kernel
theorem d_Chip_register_8 : decode c_Chip_register 8 = .ok (.getfield 64, 3) := by decide +kernel
theorem d_Chip_register_11 : decode c_Chip_register 11 = .ok (.getfield 89, 3) := by decide +kernel
theorem d_Chip_register_14 : decode c_Chip_register 14 = .ok (.iload_n 1, 1) := by decide +kernel
theorem d_Chip_register_15 : decode c_Chip_register 15 = .ok (.iaload, 1) := by decide +kernel
theorem d_Chip_register_16 : decode c_Chip_register 16 = .ok (.goto 4, 3) := by decide +kernel
theorem d_Chip_register_19 : decode c_Chip_register 19 = .ok (.iconst 0, 1) := by decide +kernel
theorem d_Chip_register_20 : decode c_Chip_register 20 = .ok (.ireturn, 1) := by decide +kernel
abbrev c_Chip_pc : ByteArray := prog_1_method_7_code
def y_Chip_pc : MethodName := ⟨"CycleChip", "pc", "()I"⟩
theorem d_Chip_pc_0 : decode c_Chip_pc 0 = .ok (.aload_n 0, 1) := by decide +kernel
theorem d_Chip_pc_1 : decode c_Chip_pc 1 = .ok (.getfield 64, 3) := by decide +kernel
theorem d_Chip_pc_4 : decode c_Chip_pc 4 = .ok (.getfield 92, 3) := by decide +kernel
theorem d_Chip_pc_7 : decode c_Chip_pc 7 = .ok (.ireturn, 1) := by decide +kernel
abbrev c_Chip_control : ByteArray := prog_1_method_8_code
def y_Chip_control : MethodName := ⟨"CycleChip", "control", "(I)I"⟩
theorem d_Chip_control_0 : decode c_Chip_control 0 = .ok (.aload_n 0, 1) := by decide +kernel
theorem d_Chip_control_1 : decode c_Chip_control 1 = .ok (.getfield 64, 3) := by decide +kernel
theorem d_Chip_control_4 : decode c_Chip_control 4 = .ok (.getfield 96, 3) := by decide +kernel
theorem d_Chip_control_7 : decode c_Chip_control 7 = .ok (.iload_n 1, 1) := by decide +kernel
theorem d_Chip_control_8 : decode c_Chip_control 8 = .ok (.aload_n 0, 1) := by decide +kernel
theorem d_Chip_control_9 : decode c_Chip_control 9 = .ok (.getfield 30, 3) := by decide +kernel
theorem d_Chip_control_12 : decode c_Chip_control 12 = .ok (.invokevirtual 100, 3) := by decide +kernel
theorem d_Chip_control_15 : decode c_Chip_control 15 = .ok (.aload_n 0, 1) := by decide +kernel
theorem d_Chip_control_16 : decode c_Chip_control 16 = .ok (.getfield 64, 3) := by decide +kernel
theorem d_Chip_control_19 : decode c_Chip_control 19 = .ok (.getfield 104, 3) := by decide +kernel
theorem d_Chip_control_22 : decode c_Chip_control 22 = .ok (.invokevirtual 107, 3) := by decide +kernel
theorem d_Chip_control_25 : decode c_Chip_control 25 = .ok (.ireturn, 1) := by decide +kernel
abbrev c_Chip_plan : ByteArray := prog_1_method_9_code
def y_Chip_plan : MethodName := ⟨"CycleChip", "plan", "(III)Z"⟩
theorem d_Chip_plan_0 : decode c_Chip_plan 0 = .ok (.iload_n 2, 1) := by decide +kernel
theorem d_Chip_plan_1 : decode c_Chip_plan 1 = .ok (.ifCond .eq 14, 3) := by decide +kernel
theorem d_Chip_plan_4 : decode c_Chip_plan 4 = .ok (.iload_n 2, 1) := by decide +kernel
theorem d_Chip_plan_5 : decode c_Chip_plan 5 = .ok (.iconst 2, 1) := by decide +kernel
theorem d_Chip_plan_6 : decode c_Chip_plan 6 = .ok (.if_icmp .lt 13, 3) := by decide +kernel
theorem d_Chip_plan_9 : decode c_Chip_plan 9 = .ok (.iload_n 2, 1) := by decide +kernel
theorem d_Chip_plan_10 : decode c_Chip_plan 10 = .ok (.bipush 7, 2) := by decide +kernel
theorem d_Chip_plan_12 : decode c_Chip_plan 12 = .ok (.if_icmp .gt 7, 3) := by decide +kernel
theorem d_Chip_plan_15 : decode c_Chip_plan 15 = .ok (.iconst 1, 1) := by decide +kernel
theorem d_Chip_plan_16 : decode c_Chip_plan 16 = .ok (.goto 4, 3) := by decide +kernel
theorem d_Chip_plan_19 : decode c_Chip_plan 19 = .ok (.iconst 0, 1) := by decide +kernel
theorem d_Chip_plan_20 : decode c_Chip_plan 20 = .ok (.istore 4, 2) := by decide +kernel
theorem d_Chip_plan_22 : decode c_Chip_plan 22 = .ok (.iload_n 1, 1) := by decide +kernel
theorem d_Chip_plan_23 : decode c_Chip_plan 23 = .ok (.ifCond .lt 15, 3) := by decide +kernel
theorem d_Chip_plan_26 : decode c_Chip_plan 26 = .ok (.iload_n 1, 1) := by decide +kernel
theorem d_Chip_plan_27 : decode c_Chip_plan 27 = .ok (.sipush 2000, 3) := by decide +kernel
theorem d_Chip_plan_30 : decode c_Chip_plan 30 = .ok (.if_icmp .gt 8, 3) := by decide +kernel
theorem d_Chip_plan_33 : decode c_Chip_plan 33 = .ok (.iload 4, 2) := by decide +kernel
theorem d_Chip_plan_35 : decode c_Chip_plan 35 = .ok (.ifCond .ne 5, 3) := by decide +kernel
theorem d_Chip_plan_38 : decode c_Chip_plan 38 = .ok (.iconst 0, 1) := by decide +kernel
theorem d_Chip_plan_39 : decode c_Chip_plan 39 = .ok (.ireturn, 1) := by decide +kernel
theorem d_Chip_plan_40 : decode c_Chip_plan 40 = .ok (.aload_n 0, 1) := by decide +kernel
theorem d_Chip_plan_41 : decode c_Chip_plan 41 = .ok (.getfield 23, 3) := by decide +kernel
theorem d_Chip_plan_44 : decode c_Chip_plan 44 = .ok (.aload_n 0, 1) := by decide +kernel
theorem d_Chip_plan_45 : decode c_Chip_plan 45 = .ok (.getfield 64, 3) := by decide +kernel
theorem d_Chip_plan_48 : decode c_Chip_plan 48 = .ok (.getfield 104, 3) := by decide +kernel
theorem d_Chip_plan_51 : decode c_Chip_plan 51 = .ok (.iload_n 1, 1) := by decide +kernel
theorem d_Chip_plan_52 : decode c_Chip_plan 52 = .ok (.iadd, 1) := by decide +kernel
theorem d_Chip_plan_53 : decode c_Chip_plan 53 = .ok (.iload_n 2, 1) := by decide +kernel
theorem d_Chip_plan_54 : decode c_Chip_plan 54 = .ok (.iload_n 3, 1) := by decide +kernel
theorem d_Chip_plan_55 : decode c_Chip_plan 55 = .ok (.invokevirtual 115, 3) := by decide +kernel
theorem d_Chip_plan_58 : decode c_Chip_plan 58 = .ok (.ireturn, 1) := by decide +kernel
abbrev c_Chip_planned : ByteArray := prog_1_method_10_code
def y_Chip_planned : MethodName := ⟨"CycleChip", "planned", "()I"⟩
theorem d_Chip_planned_0 : decode c_Chip_planned 0 = .ok (.aload_n 0, 1) := by decide +kernel
theorem d_Chip_planned_1 : decode c_Chip_planned 1 = .ok (.getfield 23, 3) := by decide +kernel
theorem d_Chip_planned_4 : decode c_Chip_planned 4 = .ok (.getfield 119, 3) := by decide +kernel
theorem d_Chip_planned_7 : decode c_Chip_planned 7 = .ok (.ireturn, 1) := by decide +kernel
abbrev c_Chip_run : ByteArray := prog_1_method_11_code
def y_Chip_run : MethodName := ⟨"CycleChip", "run", "(I)I"⟩
theorem d_Chip_run_0 : decode c_Chip_run 0 = .ok (.iload_n 1, 1) := by decide +kernel
theorem d_Chip_run_1 : decode c_Chip_run 1 = .ok (.ifCond .lt 10, 3) := by decide +kernel
theorem d_Chip_run_4 : decode c_Chip_run 4 = .ok (.iload_n 1, 1) := by decide +kernel
theorem d_Chip_run_5 : decode c_Chip_run 5 = .ok (.sipush 1000, 3) := by decide +kernel
theorem d_Chip_run_8 : decode c_Chip_run 8 = .ok (.if_icmp .le 5, 3) := by decide +kernel
theorem d_Chip_run_11 : decode c_Chip_run 11 = .ok (.iconst (-1), 1) := by decide +kernel
theorem d_Chip_run_12 : decode c_Chip_run 12 = .ok (.ireturn, 1) := by decide +kernel
theorem d_Chip_run_13 : decode c_Chip_run 13 = .ok (.aload_n 0, 1) := by decide +kernel
theorem d_Chip_run_14 : decode c_Chip_run 14 = .ok (.getfield 64, 3) := by decide +kernel
theorem d_Chip_run_17 : decode c_Chip_run 17 = .ok (.getfield 122, 3) := by decide +kernel
theorem d_Chip_run_20 : decode c_Chip_run 20 = .ok (.getfield 126, 3) := by decide +kernel
theorem d_Chip_run_23 : decode c_Chip_run 23 = .ok (.istore_n 2, 1) := by decide +kernel
theorem d_Chip_run_24 : decode c_Chip_run 24 = .ok (.iconst 0, 1) := by decide +kernel
theorem d_Chip_run_25 : decode c_Chip_run 25 = .ok (.istore_n 3, 1) := by decide +kernel
theorem d_Chip_run_26 : decode c_Chip_run 26 = .ok (.iload_n 3, 1) := by decide +kernel
theorem d_Chip_run_27 : decode c_Chip_run 27 = .ok (.iload_n 1, 1) := by decide +kernel
theorem d_Chip_run_28 : decode c_Chip_run 28 = .ok (.if_icmp .ge 13, 3) := by decide +kernel
theorem d_Chip_run_31 : decode c_Chip_run 31 = .ok (.aload_n 0, 1) := by decide +kernel
theorem d_Chip_run_32 : decode c_Chip_run 32 = .ok (.invokevirtual 131, 3) := by decide +kernel
theorem d_Chip_run_35 : decode c_Chip_run 35 = .ok (.iinc 3 1, 3) := by decide +kernel
theorem d_Chip_run_38 : decode c_Chip_run 38 = .ok (.goto (-12), 3) := by decide +kernel
theorem d_Chip_run_41 : decode c_Chip_run 41 = .ok (.aload_n 0, 1) := by decide +kernel
theorem d_Chip_run_42 : decode c_Chip_run 42 = .ok (.getfield 64, 3) := by decide +kernel
theorem d_Chip_run_45 : decode c_Chip_run 45 = .ok (.getfield 122, 3) := by decide +kernel
theorem d_Chip_run_48 : decode c_Chip_run 48 = .ok (.getfield 126, 3) := by decide +kernel
theorem d_Chip_run_51 : decode c_Chip_run 51 = .ok (.iload_n 2, 1) := by decide +kernel
theorem d_Chip_run_52 : decode c_Chip_run 52 = .ok (.isub, 1) := by decide +kernel
theorem d_Chip_run_53 : decode c_Chip_run 53 = .ok (.ireturn, 1) := by decide +kernel
abbrev c_Chip_cycles : ByteArray := prog_1_method_12_code
def y_Chip_cycles : MethodName := ⟨"CycleChip", "cycles", "()I"⟩
theorem d_Chip_cycles_0 : decode c_Chip_cycles 0 = .ok (.aload_n 0, 1) := by decide +kernel
theorem d_Chip_cycles_1 : decode c_Chip_cycles 1 = .ok (.getfield 64, 3) := by decide +kernel
theorem d_Chip_cycles_4 : decode c_Chip_cycles 4 = .ok (.getfield 104, 3) := by decide +kernel
theorem d_Chip_cycles_7 : decode c_Chip_cycles 7 = .ok (.ireturn, 1) := by decide +kernel
abbrev c_Chip_traps : ByteArray := prog_1_method_13_code
def y_Chip_traps : MethodName := ⟨"CycleChip", "traps", "()I"⟩
theorem d_Chip_traps_0 : decode c_Chip_traps 0 = .ok (.aload_n 0, 1) := by decide +kernel
theorem d_Chip_traps_1 : decode c_Chip_traps 1 = .ok (.getfield 64, 3) := by decide +kernel
theorem d_Chip_traps_4 : decode c_Chip_traps 4 = .ok (.getfield 134, 3) := by decide +kernel
theorem d_Chip_traps_7 : decode c_Chip_traps 7 = .ok (.ireturn, 1) := by decide +kernel
abbrev c_Chip_actCycle : ByteArray := prog_1_method_14_code
def y_Chip_actCycle : MethodName := ⟨"CycleChip", "actCycle", "(I)I"⟩
theorem d_Chip_actCycle_0 : decode c_Chip_actCycle 0 = .ok (.aload_n 0, 1) := by decide +kernel
theorem d_Chip_actCycle_1 : decode c_Chip_actCycle 1 = .ok (.getfield 64, 3) := by decide +kernel
theorem d_Chip_actCycle_4 : decode c_Chip_actCycle 4 = .ok (.getfield 122, 3) := by decide +kernel
theorem d_Chip_actCycle_7 : decode c_Chip_actCycle 7 = .ok (.iload_n 1, 1) := by decide +kernel
theorem d_Chip_actCycle_8 : decode c_Chip_actCycle 8 = .ok (.invokevirtual 137, 3) := by decide +kernel
theorem d_Chip_actCycle_11 : decode c_Chip_actCycle 11 = .ok (.ifCond .eq 17, 3) := by decide +kernel
theorem d_Chip_actCycle_14 : decode c_Chip_actCycle 14 = .ok (.aload_n 0, 1) := by decide +kernel
theorem d_Chip_actCycle_15 : decode c_Chip_actCycle 15 = .ok (.getfield 64, 3) := by decide +kernel
theorem d_Chip_actCycle_18 : decode c_Chip_actCycle 18 = .ok (.getfield 122, 3) := by decide +kernel
theorem d_Chip_actCycle_21 : decode c_Chip_actCycle 21 = .ok (.iload_n 1, 1) := by decide +kernel
theorem d_Chip_actCycle_22 : decode c_Chip_actCycle 22 = .ok (.invokevirtual 140, 3) := by decide +kernel
theorem d_Chip_actCycle_25 : decode c_Chip_actCycle 25 = .ok (.goto 4, 3) := by decide +kernel
theorem d_Chip_actCycle_28 : decode c_Chip_actCycle 28 = .ok (.iconst (-1), 1) := by decide +kernel
theorem d_Chip_actCycle_29 : decode c_Chip_actCycle 29 = .ok (.ireturn, 1) := by decide +kernel
abbrev c_Chip_actAddress : ByteArray := prog_1_method_15_code
def y_Chip_actAddress : MethodName := ⟨"CycleChip", "actAddress", "(I)I"⟩
theorem d_Chip_actAddress_0 : decode c_Chip_actAddress 0 = .ok (.aload_n 0, 1) := by decide +kernel
theorem d_Chip_actAddress_1 : decode c_Chip_actAddress 1 = .ok (.getfield 64, 3) := by decide +kernel
theorem d_Chip_actAddress_4 : decode c_Chip_actAddress 4 = .ok (.getfield 122, 3) := by decide +kernel
theorem d_Chip_actAddress_7 : decode c_Chip_actAddress 7 = .ok (.iload_n 1, 1) := by decide +kernel
theorem d_Chip_actAddress_8 : decode c_Chip_actAddress 8 = .ok (.invokevirtual 137, 3) := by decide +kernel
theorem d_Chip_actAddress_11 : decode c_Chip_actAddress 11 = .ok (.ifCond .eq 17, 3) := by decide +kernel
theorem d_Chip_actAddress_14 : decode c_Chip_actAddress 14 = .ok (.aload_n 0, 1) := by decide +kernel
theorem d_Chip_actAddress_15 : decode c_Chip_actAddress 15 = .ok (.getfield 64, 3) := by decide +kernel
theorem d_Chip_actAddress_18 : decode c_Chip_actAddress 18 = .ok (.getfield 122, 3) := by decide +kernel
theorem d_Chip_actAddress_21 : decode c_Chip_actAddress 21 = .ok (.iload_n 1, 1) := by decide +kernel
theorem d_Chip_actAddress_22 : decode c_Chip_actAddress 22 = .ok (.invokevirtual 143, 3) := by decide +kernel
theorem d_Chip_actAddress_25 : decode c_Chip_actAddress 25 = .ok (.goto 4, 3) := by decide +kernel
theorem d_Chip_actAddress_28 : decode c_Chip_actAddress 28 = .ok (.iconst (-1), 1) := by decide +kernel
theorem d_Chip_actAddress_29 : decode c_Chip_actAddress 29 = .ok (.ireturn, 1) := by decide +kernel
abbrev c_Chip_sent : ByteArray := prog_1_method_16_code
def y_Chip_sent : MethodName := ⟨"CycleChip", "sent", "(I)J"⟩
theorem d_Chip_sent_0 : decode c_Chip_sent 0 = .ok (.aload_n 0, 1) := by decide +kernel
theorem d_Chip_sent_1 : decode c_Chip_sent 1 = .ok (.getfield 30, 3) := by decide +kernel
theorem d_Chip_sent_4 : decode c_Chip_sent 4 = .ok (.getfield 146, 3) := by decide +kernel
theorem d_Chip_sent_7 : decode c_Chip_sent 7 = .ok (.getfield 150, 3) := by decide +kernel
theorem d_Chip_sent_10 : decode c_Chip_sent 10 = .ok (.astore_n 2, 1) := by decide +kernel
theorem d_Chip_sent_11 : decode c_Chip_sent 11 = .ok (.iload_n 1, 1) := by decide +kernel
theorem d_Chip_sent_12 : decode c_Chip_sent 12 = .ok (.iconst (-1), 1) := by decide +kernel
theorem d_Chip_sent_13 : decode c_Chip_sent 13 = .ok (.if_icmp .ne 9, 3) := by decide +kernel
theorem d_Chip_sent_16 : decode c_Chip_sent 16 = .ok (.aload_n 2, 1) := by decide +kernel
theorem d_Chip_sent_17 : decode c_Chip_sent 17 = .ok (.getfield 126, 3) := by decide +kernel
theorem d_Chip_sent_20 : decode c_Chip_sent 20 = .ok (.i2l, 1) := by decide +kernel
theorem d_Chip_sent_21 : decode c_Chip_sent 21 = .ok (.lreturn, 1) := by decide +kernel
theorem d_Chip_sent_22 : decode c_Chip_sent 22 = .ok (.aload_n 2, 1) := by decide +kernel
theorem d_Chip_sent_23 : decode c_Chip_sent 23 = .ok (.iload_n 1, 1) := by decide +kernel
theorem d_Chip_sent_24 : decode c_Chip_sent 24 = .ok (.invokevirtual 137, 3) := by decide +kernel
theorem d_Chip_sent_27 : decode c_Chip_sent 27 = .ok (.ifCond .eq 23, 3) := by decide +kernel
theorem d_Chip_sent_30 : decode c_Chip_sent 30 = .ok (.aload_n 2, 1) := by decide +kernel
theorem d_Chip_sent_31 : decode c_Chip_sent 31 = .ok (.iload_n 1, 1) := by decide +kernel
theorem d_Chip_sent_32 : decode c_Chip_sent 32 = .ok (.invokevirtual 140, 3) := by decide +kernel
theorem d_Chip_sent_35 : decode c_Chip_sent 35 = .ok (.i2l, 1) := by decide +kernel
theorem d_Chip_sent_36 : decode c_Chip_sent 36 = .ok (.ldc2_w 155, 3) := by decide +kernel
theorem d_Chip_sent_39 : decode c_Chip_sent 39 = .ok (.lmul, 1) := by decide +kernel
theorem d_Chip_sent_40 : decode c_Chip_sent 40 = .ok (.aload_n 2, 1) := by decide +kernel
theorem d_Chip_sent_41 : decode c_Chip_sent 41 = .ok (.iload_n 1, 1) := by decide +kernel
theorem d_Chip_sent_42 : decode c_Chip_sent 42 = .ok (.invokevirtual 143, 3) := by decide +kernel
theorem d_Chip_sent_45 : decode c_Chip_sent 45 = .ok (.i2l, 1) := by decide +kernel
theorem d_Chip_sent_46 : decode c_Chip_sent 46 = .ok (.ladd, 1) := by decide +kernel
theorem d_Chip_sent_47 : decode c_Chip_sent 47 = .ok (.goto 6, 3) := by decide +kernel
theorem d_Chip_sent_50 : decode c_Chip_sent 50 = .ok (.ldc2_w 75, 3) := by decide +kernel
theorem d_Chip_sent_53 : decode c_Chip_sent 53 = .ok (.lreturn, 1) := by decide +kernel
abbrev c_Chip_queued : ByteArray := prog_1_method_17_code
def y_Chip_queued : MethodName := ⟨"CycleChip", "queued", "(Z)I"⟩
theorem d_Chip_queued_0 : decode c_Chip_queued 0 = .ok (.iload_n 1, 1) := by decide +kernel
theorem d_Chip_queued_1 : decode c_Chip_queued 1 = .ok (.ifCond .eq 19, 3) := by decide +kernel
theorem d_Chip_queued_4 : decode c_Chip_queued 4 = .ok (.aload_n 0, 1) := by decide +kernel
theorem d_Chip_queued_5 : decode c_Chip_queued 5 = .ok (.getfield 30, 3) := by decide +kernel
theorem d_Chip_queued_8 : decode c_Chip_queued 8 = .ok (.getfield 146, 3) := by decide +kernel
theorem d_Chip_queued_11 : decode c_Chip_queued 11 = .ok (.getfield 157, 3) := by decide +kernel
theorem d_Chip_queued_14 : decode c_Chip_queued 14 = .ok (.getfield 161, 3) := by decide +kernel
theorem d_Chip_queued_17 : decode c_Chip_queued 17 = .ok (.goto 16, 3) := by decide +kernel
theorem d_Chip_queued_20 : decode c_Chip_queued 20 = .ok (.aload_n 0, 1) := by decide +kernel
theorem d_Chip_queued_21 : decode c_Chip_queued 21 = .ok (.getfield 30, 3) := by decide +kernel
theorem d_Chip_queued_24 : decode c_Chip_queued 24 = .ok (.getfield 146, 3) := by decide +kernel
theorem d_Chip_queued_27 : decode c_Chip_queued 27 = .ok (.getfield 164, 3) := by decide +kernel
theorem d_Chip_queued_30 : decode c_Chip_queued 30 = .ok (.getfield 161, 3) := by decide +kernel
theorem d_Chip_queued_33 : decode c_Chip_queued 33 = .ok (.ireturn, 1) := by decide +kernel
abbrev c_Chip_stores : ByteArray := prog_1_method_18_code
def y_Chip_stores : MethodName := ⟨"CycleChip", "stores", "()I"⟩
theorem d_Chip_stores_0 : decode c_Chip_stores 0 = .ok (.aload_n 0, 1) := by decide +kernel
theorem d_Chip_stores_1 : decode c_Chip_stores 1 = .ok (.getfield 16, 3) := by decide +kernel
theorem d_Chip_stores_4 : decode c_Chip_stores 4 = .ok (.getfield 167, 3) := by decide +kernel
theorem d_Chip_stores_7 : decode c_Chip_stores 7 = .ok (.ireturn, 1) := by decide +kernel
abbrev c_Chip_bus : ByteArray := prog_1_method_19_code
def y_Chip_bus : MethodName := ⟨"CycleChip", "bus", "()I"⟩
theorem d_Chip_bus_0 : decode c_Chip_bus 0 = .ok (.aload_n 0, 1) := by decide +kernel
theorem d_Chip_bus_1 : decode c_Chip_bus 1 = .ok (.getfield 55, 3) := by decide +kernel
theorem d_Chip_bus_4 : decode c_Chip_bus 4 = .ok (.getfield 168, 3) := by decide +kernel
theorem d_Chip_bus_7 : decode c_Chip_bus 7 = .ok (.ireturn, 1) := by decide +kernel
abbrev c_Chip_sources : ByteArray := prog_1_method_20_code
def y_Chip_sources : MethodName := ⟨"CycleChip", "sources", "()I"⟩
theorem d_Chip_sources_0 : decode c_Chip_sources 0 = .ok (.aload_n 0, 1) := by decide +kernel
theorem d_Chip_sources_1 : decode c_Chip_sources 1 = .ok (.getfield 30, 3) := by decide +kernel
theorem d_Chip_sources_4 : decode c_Chip_sources 4 = .ok (.getfield 171, 3) := by decide +kernel
theorem d_Chip_sources_7 : decode c_Chip_sources 7 = .ok (.getfield 175, 3) := by decide +kernel
theorem d_Chip_sources_10 : decode c_Chip_sources 10 = .ok (.sipush 256, 3) := by decide +kernel
theorem d_Chip_sources_13 : decode c_Chip_sources 13 = .ok (.aload_n 0, 1) := by decide +kernel
theorem d_Chip_sources_14 : decode c_Chip_sources 14 = .ok (.getfield 30, 3) := by decide +kernel
theorem d_Chip_sources_17 : decode c_Chip_sources 17 = .ok (.getfield 171, 3) := by decide +kernel
theorem d_Chip_sources_20 : decode c_Chip_sources 20 = .ok (.getfield 178, 3) := by decide +kernel
theorem d_Chip_sources_23 : decode c_Chip_sources 23 = .ok (.imul, 1) := by decide +kernel
theorem d_Chip_sources_24 : decode c_Chip_sources 24 = .ok (.iadd, 1) := by decide +kernel
theorem d_Chip_sources_25 : decode c_Chip_sources 25 = .ok (.ireturn, 1) := by decide +kernel
abbrev c_Chip_oneCycle : ByteArray := prog_1_method_21_code
def y_Chip_oneCycle : MethodName := ⟨"CycleChip", "oneCycle", "()V"⟩
theorem d_Chip_oneCycle_0 : decode c_Chip_oneCycle 0 = .ok (.aload_n 0, 1) := by decide +kernel
theorem d_Chip_oneCycle_1 : decode c_Chip_oneCycle 1 = .ok (.getfield 64, 3) := by decide +kernel
theorem d_Chip_oneCycle_4 : decode c_Chip_oneCycle 4 = .ok (.getfield 104, 3) := by decide +kernel
theorem d_Chip_oneCycle_7 : decode c_Chip_oneCycle 7 = .ok (.istore_n 1, 1) := by decide +kernel
theorem d_Chip_oneCycle_8 : decode c_Chip_oneCycle 8 = .ok (.aload_n 0, 1) := by decide +kernel
theorem d_Chip_oneCycle_9 : decode c_Chip_oneCycle 9 = .ok (.getfield 23, 3) := by decide +kernel
theorem d_Chip_oneCycle_12 : decode c_Chip_oneCycle 12 = .ok (.iload_n 1, 1) := by decide +kernel
theorem d_Chip_oneCycle_13 : decode c_Chip_oneCycle 13 = .ok (.aload_n 0, 1) := by decide +kernel
theorem d_Chip_oneCycle_14 : decode c_Chip_oneCycle 14 = .ok (.getfield 30, 3) := by decide +kernel
theorem d_Chip_oneCycle_17 : decode c_Chip_oneCycle 17 = .ok (.invokevirtual 181, 3) := by decide +kernel
theorem d_Chip_oneCycle_20 : decode c_Chip_oneCycle 20 = .ok (.aload_n 0, 1) := by decide +kernel
theorem d_Chip_oneCycle_21 : decode c_Chip_oneCycle 21 = .ok (.getfield 30, 3) := by decide +kernel
theorem d_Chip_oneCycle_24 : decode c_Chip_oneCycle 24 = .ok (.getfield 146, 3) := by decide +kernel
theorem d_Chip_oneCycle_27 : decode c_Chip_oneCycle 27 = .ok (.iload_n 1, 1) := by decide +kernel
theorem d_Chip_oneCycle_28 : decode c_Chip_oneCycle 28 = .ok (.invokevirtual 185, 3) := by decide +kernel
theorem d_Chip_oneCycle_31 : decode c_Chip_oneCycle 31 = .ok (.aload_n 0, 1) := by decide +kernel
theorem d_Chip_oneCycle_32 : decode c_Chip_oneCycle 32 = .ok (.getfield 30, 3) := by decide +kernel
theorem d_Chip_oneCycle_35 : decode c_Chip_oneCycle 35 = .ok (.getfield 171, 3) := by decide +kernel
theorem d_Chip_oneCycle_38 : decode c_Chip_oneCycle 38 = .ok (.aload_n 0, 1) := by decide +kernel
theorem d_Chip_oneCycle_39 : decode c_Chip_oneCycle 39 = .ok (.getfield 30, 3) := by decide +kernel
theorem d_Chip_oneCycle_42 : decode c_Chip_oneCycle 42 = .ok (.getfield 146, 3) := by decide +kernel
theorem d_Chip_oneCycle_45 : decode c_Chip_oneCycle 45 = .ok (.invokevirtual 188, 3) := by decide +kernel
theorem d_Chip_oneCycle_48 : decode c_Chip_oneCycle 48 = .ok (.invokevirtual 192, 3) := by decide +kernel
theorem d_Chip_oneCycle_51 : decode c_Chip_oneCycle 51 = .ok (.aload_n 0, 1) := by decide +kernel
theorem d_Chip_oneCycle_52 : decode c_Chip_oneCycle 52 = .ok (.getfield 55, 3) := by decide +kernel
theorem d_Chip_oneCycle_55 : decode c_Chip_oneCycle 55 = .ok (.iload_n 1, 1) := by decide +kernel
theorem d_Chip_oneCycle_56 : decode c_Chip_oneCycle 56 = .ok (.invokevirtual 196, 3) := by decide +kernel
theorem d_Chip_oneCycle_59 : decode c_Chip_oneCycle 59 = .ok (.iconst 3, 1) := by decide +kernel
theorem d_Chip_oneCycle_60 : decode c_Chip_oneCycle 60 = .ok (.if_icmp .ne 10, 3) := by decide +kernel
theorem d_Chip_oneCycle_63 : decode c_Chip_oneCycle 63 = .ok (.aload_n 0, 1) := by decide +kernel
theorem d_Chip_oneCycle_64 : decode c_Chip_oneCycle 64 = .ok (.getfield 64, 3) := by decide +kernel
theorem d_Chip_oneCycle_67 : decode c_Chip_oneCycle 67 = .ok (.invokevirtual 199, 3) := by decide +kernel
theorem d_Chip_oneCycle_70 : decode c_Chip_oneCycle 70 = .ok (.aload_n 0, 1) := by decide +kernel
theorem d_Chip_oneCycle_71 : decode c_Chip_oneCycle 71 = .ok (.getfield 55, 3) := by decide +kernel
theorem d_Chip_oneCycle_74 : decode c_Chip_oneCycle 74 = .ok (.iload_n 1, 1) := by decide +kernel
theorem d_Chip_oneCycle_75 : decode c_Chip_oneCycle 75 = .ok (.invokevirtual 202, 3) := by decide +kernel
theorem d_Chip_oneCycle_78 : decode c_Chip_oneCycle 78 = .ok (.aload_n 0, 1) := by decide +kernel
theorem d_Chip_oneCycle_79 : decode c_Chip_oneCycle 79 = .ok (.getfield 64, 3) := by decide +kernel
theorem d_Chip_oneCycle_82 : decode c_Chip_oneCycle 82 = .ok (.invokevirtual 205, 3) := by decide +kernel
theorem d_Chip_oneCycle_85 : decode c_Chip_oneCycle 85 = .ok (.ifCond .eq 10, 3) := by decide +kernel
theorem d_Chip_oneCycle_88 : decode c_Chip_oneCycle 88 = .ok (.aload_n 0, 1) := by decide +kernel
theorem d_Chip_oneCycle_89 : decode c_Chip_oneCycle 89 = .ok (.getfield 64, 3) := by decide +kernel
theorem d_Chip_oneCycle_92 : decode c_Chip_oneCycle 92 = .ok (.invokevirtual 208, 3) := by decide +kernel
theorem d_Chip_oneCycle_95 : decode c_Chip_oneCycle 95 = .ok (.aload_n 0, 1) := by decide +kernel
theorem d_Chip_oneCycle_96 : decode c_Chip_oneCycle 96 = .ok (.getfield 30, 3) := by decide +kernel
theorem d_Chip_oneCycle_99 : decode c_Chip_oneCycle 99 = .ok (.dup, 1) := by decide +kernel
theorem d_Chip_oneCycle_100 : decode c_Chip_oneCycle 100 = .ok (.getfield 211, 3) := by decide +kernel
theorem d_Chip_oneCycle_103 : decode c_Chip_oneCycle 103 = .ok (.lconst 1, 1) := by decide +kernel
theorem d_Chip_oneCycle_104 : decode c_Chip_oneCycle 104 = .ok (.ladd, 1) := by decide +kernel
theorem d_Chip_oneCycle_105 : decode c_Chip_oneCycle 105 = .ok (.putfield 211, 3) := by decide +kernel
theorem d_Chip_oneCycle_108 : decode c_Chip_oneCycle 108 = .ok (.aload_n 0, 1) := by decide +kernel
theorem d_Chip_oneCycle_109 : decode c_Chip_oneCycle 109 = .ok (.getfield 64, 3) := by decide +kernel
theorem d_Chip_oneCycle_112 : decode c_Chip_oneCycle 112 = .ok (.dup, 1) := by decide +kernel
theorem d_Chip_oneCycle_113 : decode c_Chip_oneCycle 113 = .ok (.getfield 104, 3) := by decide +kernel
theorem d_Chip_oneCycle_116 : decode c_Chip_oneCycle 116 = .ok (.iconst 1, 1) := by decide +kernel
theorem d_Chip_oneCycle_117 : decode c_Chip_oneCycle 117 = .ok (.iadd, 1) := by decide +kernel
theorem d_Chip_oneCycle_118 : decode c_Chip_oneCycle 118 = .ok (.putfield 104, 3) := by decide +kernel
theorem d_Chip_oneCycle_121 : decode c_Chip_oneCycle 121 = .ok (.return_, 1) := by decide +kernel
abbrev c_Chip_isWord : ByteArray := prog_1_method_22_code
def y_Chip_isWord : MethodName := ⟨"CycleChip", "isWord", "(I)Z"⟩
theorem d_Chip_isWord_0 : decode c_Chip_isWord 0 = .ok (.iload_n 0, 1) := by decide +kernel
theorem d_Chip_isWord_1 : decode c_Chip_isWord 1 = .ok (.ifCond .lt 14, 3) := by decide +kernel
theorem d_Chip_isWord_4 : decode c_Chip_isWord 4 = .ok (.iload_n 0, 1) := by decide +kernel
theorem d_Chip_isWord_5 : decode c_Chip_isWord 5 = .ok (.sipush 128, 3) := by decide +kernel
theorem d_Chip_isWord_8 : decode c_Chip_isWord 8 = .ok (.if_icmp .ge 7, 3) := by decide +kernel
theorem d_Chip_isWord_11 : decode c_Chip_isWord 11 = .ok (.iconst 1, 1) := by decide +kernel
theorem d_Chip_isWord_12 : decode c_Chip_isWord 12 = .ok (.goto 4, 3) := by decide +kernel
theorem d_Chip_isWord_15 : decode c_Chip_isWord 15 = .ok (.iconst 0, 1) := by decide +kernel
theorem d_Chip_isWord_16 : decode c_Chip_isWord 16 = .ok (.ireturn, 1) := by decide +kernel
abbrev c_Chip_isRegister : ByteArray := prog_1_method_23_code
def y_Chip_isRegister : MethodName := ⟨"CycleChip", "isRegister", "(I)Z"⟩
theorem d_Chip_isRegister_0 : decode c_Chip_isRegister 0 = .ok (.iload_n 0, 1) := by decide +kernel
theorem d_Chip_isRegister_1 : decode c_Chip_isRegister 1 = .ok (.ifCond .lt 13, 3) := by decide +kernel
theorem d_Chip_isRegister_4 : decode c_Chip_isRegister 4 = .ok (.iload_n 0, 1) := by decide +kernel
theorem d_Chip_isRegister_5 : decode c_Chip_isRegister 5 = .ok (.bipush 32, 2) := by decide +kernel
theorem d_Chip_isRegister_7 : decode c_Chip_isRegister 7 = .ok (.if_icmp .ge 7, 3) := by decide +kernel
theorem d_Chip_isRegister_10 : decode c_Chip_isRegister 10 = .ok (.iconst 1, 1) := by decide +kernel
theorem d_Chip_isRegister_11 : decode c_Chip_isRegister 11 = .ok (.goto 4, 3) := by decide +kernel
theorem d_Chip_isRegister_14 : decode c_Chip_isRegister 14 = .ok (.iconst 0, 1) := by decide +kernel
theorem d_Chip_isRegister_15 : decode c_Chip_isRegister 15 = .ok (.ireturn, 1) := by decide +kernel
abbrev c_Chip_oneToEight : ByteArray := prog_1_method_24_code
def y_Chip_oneToEight : MethodName := ⟨"CycleChip", "oneToEight", "(I)I"⟩
theorem d_Chip_oneToEight_0 : decode c_Chip_oneToEight 0 = .ok (.iconst 1, 1) := by decide +kernel
theorem d_Chip_oneToEight_1 : decode c_Chip_oneToEight 1 = .ok (.bipush 8, 2) := by decide +kernel
theorem d_Chip_oneToEight_3 : decode c_Chip_oneToEight 3 = .ok (.iload_n 0, 1) := by decide +kernel
theorem d_Chip_oneToEight_4 : decode c_Chip_oneToEight 4 = .ok (.invokestatic 215, 3) := by decide +kernel
theorem d_Chip_oneToEight_7 : decode c_Chip_oneToEight 7 = .ok (.invokestatic 221, 3) := by decide +kernel
theorem d_Chip_oneToEight_10 : decode c_Chip_oneToEight 10 = .ok (.ireturn, 1) := by decide +kernel
abbrev c_Bus_init : ByteArray := prog_2_method_1_code
def y_Bus_init : MethodName := ⟨"CycleChip$Bus", "<init>", "(I[ILCycleChip$Cache;LCycleChip$Cache;LCycleChip$StoreBuffer;)V"⟩
theorem d_Bus_init_0 : decode c_Bus_init 0 = .ok (.aload_n 0, 1) := by decide +kernel
theorem d_Bus_init_1 : decode c_Bus_init 1 = .ok (.invokespecial 1, 3) := by decide +kernel
theorem d_Bus_init_4 : decode c_Bus_init 4 = .ok (.aload_n 0, 1) := by decide +kernel
theorem d_Bus_init_5 : decode c_Bus_init 5 = .ok (.iconst 0, 1) := by decide +kernel
theorem d_Bus_init_6 : decode c_Bus_init 6 = .ok (.putfield 9, 3) := by decide +kernel
theorem d_Bus_init_9 : decode c_Bus_init 9 = .ok (.aload_n 0, 1) := by decide +kernel
theorem d_Bus_init_10 : decode c_Bus_init 10 = .ok (.iconst 0, 1) := by decide +kernel
theorem d_Bus_init_11 : decode c_Bus_init 11 = .ok (.putfield 13, 3) := by decide +kernel
theorem d_Bus_init_14 : decode c_Bus_init 14 = .ok (.aload_n 0, 1) := by decide +kernel
theorem d_Bus_init_15 : decode c_Bus_init 15 = .ok (.iconst 0, 1) := by decide +kernel
theorem d_Bus_init_16 : decode c_Bus_init 16 = .ok (.putfield 16, 3) := by decide +kernel
theorem d_Bus_init_19 : decode c_Bus_init 19 = .ok (.aload_n 0, 1) := by decide +kernel
theorem d_Bus_init_20 : decode c_Bus_init 20 = .ok (.iload_n 1, 1) := by decide +kernel
theorem d_Bus_init_21 : decode c_Bus_init 21 = .ok (.putfield 19, 3) := by decide +kernel
theorem d_Bus_init_24 : decode c_Bus_init 24 = .ok (.aload_n 0, 1) := by decide +kernel
theorem d_Bus_init_25 : decode c_Bus_init 25 = .ok (.aload_n 2, 1) := by decide +kernel
theorem d_Bus_init_26 : decode c_Bus_init 26 = .ok (.putfield 22, 3) := by decide +kernel
theorem d_Bus_init_29 : decode c_Bus_init 29 = .ok (.aload_n 0, 1) := by decide +kernel
theorem d_Bus_init_30 : decode c_Bus_init 30 = .ok (.aload_n 3, 1) := by decide +kernel
theorem d_Bus_init_31 : decode c_Bus_init 31 = .ok (.putfield 26, 3) := by decide +kernel
theorem d_Bus_init_34 : decode c_Bus_init 34 = .ok (.aload_n 0, 1) := by decide +kernel
theorem d_Bus_init_35 : decode c_Bus_init 35 = .ok (.aload 4, 2) := by decide +kernel
theorem d_Bus_init_37 : decode c_Bus_init 37 = .ok (.putfield 30, 3) := by decide +kernel
theorem d_Bus_init_40 : decode c_Bus_init 40 = .ok (.aload_n 0, 1) := by decide +kernel
theorem d_Bus_init_41 : decode c_Bus_init 41 = .ok (.aload 5, 2) := by decide +kernel
theorem d_Bus_init_43 : decode c_Bus_init 43 = .ok (.putfield 33, 3) := by decide +kernel
theorem d_Bus_init_46 : decode c_Bus_init 46 = .ok (.return_, 1) := by decide +kernel
abbrev c_Bus_want : ByteArray := prog_2_method_2_code
def y_Bus_want : MethodName := ⟨"CycleChip$Bus", "want", "(II)V"⟩
theorem d_Bus_want_0 : decode c_Bus_want 0 = .ok (.aload_n 0, 1) := by decide +kernel
theorem d_Bus_want_1 : decode c_Bus_want 1 = .ok (.iload_n 1, 1) := by decide +kernel
theorem d_Bus_want_2 : decode c_Bus_want 2 = .ok (.putfield 9, 3) := by decide +kernel
theorem d_Bus_want_5 : decode c_Bus_want 5 = .ok (.aload_n 0, 1) := by decide +kernel
theorem d_Bus_want_6 : decode c_Bus_want 6 = .ok (.iload_n 2, 1) := by decide +kernel
theorem d_Bus_want_7 : decode c_Bus_want 7 = .ok (.putfield 37, 3) := by decide +kernel
theorem d_Bus_want_10 : decode c_Bus_want 10 = .ok (.return_, 1) := by decide +kernel
abbrev c_Bus_keepsCoreWaiting : ByteArray := prog_2_method_3_code
def y_Bus_keepsCoreWaiting : MethodName := ⟨"CycleChip$Bus", "keepsCoreWaiting", "()Z"⟩
theorem d_Bus_keepsCoreWaiting_0 : decode c_Bus_keepsCoreWaiting 0 = .ok (.aload_n 0, 1) := by decide +kernel
theorem d_Bus_keepsCoreWaiting_1 : decode c_Bus_keepsCoreWaiting 1 = .ok (.getfield 9, 3) := by decide +kernel
theorem d_Bus_keepsCoreWaiting_4 : decode c_Bus_keepsCoreWaiting 4 = .ok (.ifCond .ne 18, 3) := by decide +kernel
theorem d_Bus_keepsCoreWaiting_7 : decode c_Bus_keepsCoreWaiting 7 = .ok (.aload_n 0, 1) := by decide +kernel
theorem d_Bus_keepsCoreWaiting_8 : decode c_Bus_keepsCoreWaiting 8 = .ok (.getfield 16, 3) := by decide +kernel
theorem d_Bus_keepsCoreWaiting_11 : decode c_Bus_keepsCoreWaiting 11 = .ok (.ifCond .eq 15, 3) := by decide +kernel
theorem d_Bus_keepsCoreWaiting_14 : decode c_Bus_keepsCoreWaiting 14 = .ok (.aload_n 0, 1) := by decide +kernel
theorem d_Bus_keepsCoreWaiting_15 : decode c_Bus_keepsCoreWaiting 15 = .ok (.getfield 16, 3) := by decide +kernel
theorem d_Bus_keepsCoreWaiting_18 : decode c_Bus_keepsCoreWaiting 18 = .ok (.iconst 4, 1) := by decide +kernel
theorem d_Bus_keepsCoreWaiting_19 : decode c_Bus_keepsCoreWaiting 19 = .ok (.if_icmp .eq 7, 3) := by decide +kernel
theorem d_Bus_keepsCoreWaiting_22 : decode c_Bus_keepsCoreWaiting 22 = .ok (.iconst 1, 1) := by decide +kernel
theorem d_Bus_keepsCoreWaiting_23 : decode c_Bus_keepsCoreWaiting 23 = .ok (.goto 4, 3) := by decide +kernel
theorem d_Bus_keepsCoreWaiting_26 : decode c_Bus_keepsCoreWaiting 26 = .ok (.iconst 0, 1) := by decide +kernel
theorem d_Bus_keepsCoreWaiting_27 : decode c_Bus_keepsCoreWaiting 27 = .ok (.ireturn, 1) := by decide +kernel
abbrev c_Bus_finish : ByteArray := prog_2_method_4_code
def y_Bus_finish : MethodName := ⟨"CycleChip$Bus", "finish", "(I)I"⟩
theorem d_Bus_finish_0 : decode c_Bus_finish 0 = .ok (.aload_n 0, 1) := by decide +kernel
theorem d_Bus_finish_1 : decode c_Bus_finish 1 = .ok (.getfield 16, 3) := by decide +kernel
theorem d_Bus_finish_4 : decode c_Bus_finish 4 = .ok (.ifCond .eq 11, 3) := by decide +kernel
theorem d_Bus_finish_7 : decode c_Bus_finish 7 = .ok (.aload_n 0, 1) := by decide +kernel
theorem d_Bus_finish_8 : decode c_Bus_finish 8 = .ok (.getfield 40, 3) := by decide +kernel
theorem d_Bus_finish_11 : decode c_Bus_finish 11 = .ok (.iload_n 1, 1) := by decide +kernel
theorem d_Bus_finish_12 : decode c_Bus_finish 12 = .ok (.if_icmp .eq 5, 3) := by decide +kernel
theorem d_Bus_finish_15 : decode c_Bus_finish 15 = .ok (.iconst 0, 1) := by decide +kernel
theorem d_Bus_finish_16 : decode c_Bus_finish 16 = .ok (.ireturn, 1) := by decide +kernel
theorem d_Bus_finish_17 : decode c_Bus_finish 17 = .ok (.aload_n 0, 1) := by decide +kernel
theorem d_Bus_finish_18 : decode c_Bus_finish 18 = .ok (.getfield 16, 3) := by decide +kernel
theorem d_Bus_finish_21 : decode c_Bus_finish 21 = .ok (.istore_n 2, 1) := by decide +kernel
theorem d_Bus_finish_22 : decode c_Bus_finish 22 = .ok (.aload_n 0, 1) := by decide +kernel
theorem d_Bus_finish_23 : decode c_Bus_finish 23 = .ok (.iconst 0, 1) := by decide +kernel
theorem d_Bus_finish_24 : decode c_Bus_finish 24 = .ok (.putfield 16, 3) := by decide +kernel
theorem d_Bus_finish_27 : decode c_Bus_finish 27 = .ok (.iload_n 2, 1) := by decide +kernel
theorem d_Bus_finish_28 : decode c_Bus_finish 28 = .ok (.iconst 4, 1) := by decide +kernel
theorem d_Bus_finish_29 : decode c_Bus_finish 29 = .ok (.if_icmp .ne 17, 3) := by decide +kernel
theorem d_Bus_finish_32 : decode c_Bus_finish 32 = .ok (.aload_n 0, 1) := by decide +kernel
theorem d_Bus_finish_33 : decode c_Bus_finish 33 = .ok (.getfield 33, 3) := by decide +kernel
theorem d_Bus_finish_36 : decode c_Bus_finish 36 = .ok (.aload_n 0, 1) := by decide +kernel
theorem d_Bus_finish_37 : decode c_Bus_finish 37 = .ok (.getfield 22, 3) := by decide +kernel
theorem d_Bus_finish_40 : decode c_Bus_finish 40 = .ok (.invokevirtual 43, 3) := by decide +kernel
theorem d_Bus_finish_43 : decode c_Bus_finish 43 = .ok (.goto 46, 3) := by decide +kernel
theorem d_Bus_finish_46 : decode c_Bus_finish 46 = .ok (.iload_n 2, 1) := by decide +kernel
theorem d_Bus_finish_47 : decode c_Bus_finish 47 = .ok (.iconst 1, 1) := by decide +kernel
theorem d_Bus_finish_48 : decode c_Bus_finish 48 = .ok (.if_icmp .ne 21, 3) := by decide +kernel
theorem d_Bus_finish_51 : decode c_Bus_finish 51 = .ok (.aload_n 0, 1) := by decide +kernel
theorem d_Bus_finish_52 : decode c_Bus_finish 52 = .ok (.getfield 26, 3) := by decide +kernel
theorem d_Bus_finish_55 : decode c_Bus_finish 55 = .ok (.aload_n 0, 1) := by decide +kernel
theorem d_Bus_finish_56 : decode c_Bus_finish 56 = .ok (.getfield 37, 3) := by decide +kernel
theorem d_Bus_finish_59 : decode c_Bus_finish 59 = .ok (.aload_n 0, 1) := by decide +kernel
theorem d_Bus_finish_60 : decode c_Bus_finish 60 = .ok (.getfield 22, 3) := by decide +kernel
theorem d_Bus_finish_63 : decode c_Bus_finish 63 = .ok (.invokevirtual 49, 3) := by decide +kernel
theorem d_Bus_finish_66 : decode c_Bus_finish 66 = .ok (.goto 23, 3) := by decide +kernel
theorem d_Bus_finish_69 : decode c_Bus_finish 69 = .ok (.iload_n 2, 1) := by decide +kernel
theorem d_Bus_finish_70 : decode c_Bus_finish 70 = .ok (.iconst 2, 1) := by decide +kernel
theorem d_Bus_finish_71 : decode c_Bus_finish 71 = .ok (.if_icmp .ne 18, 3) := by decide +kernel
theorem d_Bus_finish_74 : decode c_Bus_finish 74 = .ok (.aload_n 0, 1) := by decide +kernel
theorem d_Bus_finish_75 : decode c_Bus_finish 75 = .ok (.getfield 30, 3) := by decide +kernel
theorem d_Bus_finish_78 : decode c_Bus_finish 78 = .ok (.aload_n 0, 1) := by decide +kernel
theorem d_Bus_finish_79 : decode c_Bus_finish 79 = .ok (.getfield 37, 3) := by decide +kernel
theorem d_Bus_finish_82 : decode c_Bus_finish 82 = .ok (.aload_n 0, 1) := by decide +kernel
theorem d_Bus_finish_83 : decode c_Bus_finish 83 = .ok (.getfield 22, 3) := by decide +kernel
theorem d_Bus_finish_86 : decode c_Bus_finish 86 = .ok (.invokevirtual 49, 3) := by decide +kernel
theorem d_Bus_finish_89 : decode c_Bus_finish 89 = .ok (.iload_n 2, 1) := by decide +kernel
theorem d_Bus_finish_90 : decode c_Bus_finish 90 = .ok (.ireturn, 1) := by decide +kernel
abbrev c_Bus_begin : ByteArray := prog_2_method_5_code
def y_Bus_begin : MethodName := ⟨"CycleChip$Bus", "begin", "(I)V"⟩
theorem d_Bus_begin_0 : decode c_Bus_begin 0 = .ok (.aload_n 0, 1) := by decide +kernel
theorem d_Bus_begin_1 : decode c_Bus_begin 1 = .ok (.getfield 33, 3) := by decide +kernel
theorem d_Bus_begin_4 : decode c_Bus_begin 4 = .ok (.getfield 55, 3) := by decide +kernel
theorem d_Bus_begin_7 : decode c_Bus_begin 7 = .ok (.ifCond .le 7, 3) := by decide +kernel
theorem d_Bus_begin_10 : decode c_Bus_begin 10 = .ok (.iconst 1, 1) := by decide +kernel
theorem d_Bus_begin_11 : decode c_Bus_begin 11 = .ok (.goto 4, 3) := by decide +kernel
theorem d_Bus_begin_14 : decode c_Bus_begin 14 = .ok (.iconst 0, 1) := by decide +kernel
theorem d_Bus_begin_15 : decode c_Bus_begin 15 = .ok (.istore_n 2, 1) := by decide +kernel
theorem d_Bus_begin_16 : decode c_Bus_begin 16 = .ok (.aload_n 0, 1) := by decide +kernel
theorem d_Bus_begin_17 : decode c_Bus_begin 17 = .ok (.getfield 16, 3) := by decide +kernel
theorem d_Bus_begin_20 : decode c_Bus_begin 20 = .ok (.ifCond .ne 14, 3) := by decide +kernel
theorem d_Bus_begin_23 : decode c_Bus_begin 23 = .ok (.aload_n 0, 1) := by decide +kernel
theorem d_Bus_begin_24 : decode c_Bus_begin 24 = .ok (.getfield 9, 3) := by decide +kernel
theorem d_Bus_begin_27 : decode c_Bus_begin 27 = .ok (.ifCond .ne 8, 3) := by decide +kernel
theorem d_Bus_begin_30 : decode c_Bus_begin 30 = .ok (.iload_n 2, 1) := by decide +kernel
theorem d_Bus_begin_31 : decode c_Bus_begin 31 = .ok (.ifCond .ne 4, 3) := by decide +kernel
theorem d_Bus_begin_34 : decode c_Bus_begin 34 = .ok (.return_, 1) := by decide +kernel
theorem d_Bus_begin_35 : decode c_Bus_begin 35 = .ok (.aload_n 0, 1) := by decide +kernel
theorem d_Bus_begin_36 : decode c_Bus_begin 36 = .ok (.getfield 13, 3) := by decide +kernel
theorem d_Bus_begin_39 : decode c_Bus_begin 39 = .ok (.iconst 4, 1) := by decide +kernel
theorem d_Bus_begin_40 : decode c_Bus_begin 40 = .ok (.if_icmp .eq 10, 3) := by decide +kernel
theorem d_Bus_begin_43 : decode c_Bus_begin 43 = .ok (.aload_n 0, 1) := by decide +kernel
theorem d_Bus_begin_44 : decode c_Bus_begin 44 = .ok (.getfield 13, 3) := by decide +kernel
theorem d_Bus_begin_47 : decode c_Bus_begin 47 = .ok (.ifCond .ne 7, 3) := by decide +kernel
theorem d_Bus_begin_50 : decode c_Bus_begin 50 = .ok (.iconst 1, 1) := by decide +kernel
theorem d_Bus_begin_51 : decode c_Bus_begin 51 = .ok (.goto 4, 3) := by decide +kernel
theorem d_Bus_begin_54 : decode c_Bus_begin 54 = .ok (.iconst 0, 1) := by decide +kernel
theorem d_Bus_begin_55 : decode c_Bus_begin 55 = .ok (.istore_n 3, 1) := by decide +kernel
theorem d_Bus_begin_56 : decode c_Bus_begin 56 = .ok (.aload_n 0, 1) := by decide +kernel
theorem d_Bus_begin_57 : decode c_Bus_begin 57 = .ok (.getfield 9, 3) := by decide +kernel
theorem d_Bus_begin_60 : decode c_Bus_begin 60 = .ok (.ifCond .eq 27, 3) := by decide +kernel
theorem d_Bus_begin_63 : decode c_Bus_begin 63 = .ok (.iload_n 3, 1) := by decide +kernel
theorem d_Bus_begin_64 : decode c_Bus_begin 64 = .ok (.ifCond .ne 7, 3) := by decide +kernel
theorem d_Bus_begin_67 : decode c_Bus_begin 67 = .ok (.iload_n 2, 1) := by decide +kernel
theorem d_Bus_begin_68 : decode c_Bus_begin 68 = .ok (.ifCond .ne 19, 3) := by decide +kernel
theorem d_Bus_begin_71 : decode c_Bus_begin 71 = .ok (.aload_n 0, 1) := by decide +kernel
theorem d_Bus_begin_72 : decode c_Bus_begin 72 = .ok (.aload_n 0, 1) := by decide +kernel
theorem d_Bus_begin_73 : decode c_Bus_begin 73 = .ok (.getfield 9, 3) := by decide +kernel
theorem d_Bus_begin_76 : decode c_Bus_begin 76 = .ok (.putfield 16, 3) := by decide +kernel
theorem d_Bus_begin_79 : decode c_Bus_begin 79 = .ok (.aload_n 0, 1) := by decide +kernel
theorem d_Bus_begin_80 : decode c_Bus_begin 80 = .ok (.iconst 0, 1) := by decide +kernel
theorem d_Bus_begin_81 : decode c_Bus_begin 81 = .ok (.putfield 9, 3) := by decide +kernel
theorem d_Bus_begin_84 : decode c_Bus_begin 84 = .ok (.goto 8, 3) := by decide +kernel
theorem d_Bus_begin_87 : decode c_Bus_begin 87 = .ok (.aload_n 0, 1) := by decide +kernel
theorem d_Bus_begin_88 : decode c_Bus_begin 88 = .ok (.iconst 4, 1) := by decide +kernel
theorem d_Bus_begin_89 : decode c_Bus_begin 89 = .ok (.putfield 16, 3) := by decide +kernel
theorem d_Bus_begin_92 : decode c_Bus_begin 92 = .ok (.aload_n 0, 1) := by decide +kernel
theorem d_Bus_begin_93 : decode c_Bus_begin 93 = .ok (.aload_n 0, 1) := by decide +kernel
theorem d_Bus_begin_94 : decode c_Bus_begin 94 = .ok (.getfield 16, 3) := by decide +kernel
theorem d_Bus_begin_97 : decode c_Bus_begin 97 = .ok (.putfield 13, 3) := by decide +kernel
theorem d_Bus_begin_100 : decode c_Bus_begin 100 = .ok (.aload_n 0, 1) := by decide +kernel
theorem d_Bus_begin_101 : decode c_Bus_begin 101 = .ok (.iload_n 1, 1) := by decide +kernel
theorem d_Bus_begin_102 : decode c_Bus_begin 102 = .ok (.aload_n 0, 1) := by decide +kernel
theorem d_Bus_begin_103 : decode c_Bus_begin 103 = .ok (.aload_n 0, 1) := by decide +kernel
theorem d_Bus_begin_104 : decode c_Bus_begin 104 = .ok (.getfield 16, 3) := by decide +kernel
theorem d_Bus_begin_107 : decode c_Bus_begin 107 = .ok (.invokevirtual 58, 3) := by decide +kernel
theorem d_Bus_begin_110 : decode c_Bus_begin 110 = .ok (.iadd, 1) := by decide +kernel
theorem d_Bus_begin_111 : decode c_Bus_begin 111 = .ok (.putfield 40, 3) := by decide +kernel
theorem d_Bus_begin_114 : decode c_Bus_begin 114 = .ok (.return_, 1) := by decide +kernel
abbrev c_Bus_duration : ByteArray := prog_2_method_6_code
def y_Bus_duration : MethodName := ⟨"CycleChip$Bus", "duration", "(I)I"⟩
theorem d_Bus_duration_0 : decode c_Bus_duration 0 = .ok (.iload_n 1, 1) := by decide +kernel
theorem d_Bus_duration_1 : decode c_Bus_duration 1 = .ok (.iconst 3, 1) := by decide +kernel
theorem d_Bus_duration_2 : decode c_Bus_duration 2 = .ok (.if_icmp .ne 5, 3) := by decide +kernel
theorem d_Bus_duration_5 : decode c_Bus_duration 5 = .ok (.iconst 1, 1) := by decide +kernel
theorem d_Bus_duration_6 : decode c_Bus_duration 6 = .ok (.ireturn, 1) := by decide +kernel
theorem d_Bus_duration_7 : decode c_Bus_duration 7 = .ok (.iload_n 1, 1) := by decide +kernel
theorem d_Bus_duration_8 : decode c_Bus_duration 8 = .ok (.iconst 4, 1) := by decide +kernel
theorem d_Bus_duration_9 : decode c_Bus_duration 9 = .ok (.if_icmp .ne 10, 3) := by decide +kernel
theorem d_Bus_duration_12 : decode c_Bus_duration 12 = .ok (.aload_n 0, 1) := by decide +kernel
theorem d_Bus_duration_13 : decode c_Bus_duration 13 = .ok (.getfield 19, 3) := by decide +kernel
theorem d_Bus_duration_16 : decode c_Bus_duration 16 = .ok (.goto 9, 3) := by decide +kernel
theorem d_Bus_duration_19 : decode c_Bus_duration 19 = .ok (.iconst 4, 1) := by decide +kernel
theorem d_Bus_duration_20 : decode c_Bus_duration 20 = .ok (.aload_n 0, 1) := by decide +kernel
theorem d_Bus_duration_21 : decode c_Bus_duration 21 = .ok (.getfield 19, 3) := by decide +kernel
theorem d_Bus_duration_24 : decode c_Bus_duration 24 = .ok (.imul, 1) := by decide +kernel
theorem d_Bus_duration_25 : decode c_Bus_duration 25 = .ok (.ireturn, 1) := by decide +kernel
abbrev c_ByteQueue_init : ByteArray := prog_3_method_1_code
def y_ByteQueue_init : MethodName := ⟨"CycleChip$ByteQueue", "<init>", "()V"⟩
theorem d_ByteQueue_init_0 : decode c_ByteQueue_init 0 = .ok (.aload_n 0, 1) := by decide +kernel
theorem d_ByteQueue_init_1 : decode c_ByteQueue_init 1 = .ok (.invokespecial 1, 3) := by decide +kernel
theorem d_ByteQueue_init_4 : decode c_ByteQueue_init 4 = .ok (.aload_n 0, 1) := by decide +kernel
theorem d_ByteQueue_init_5 : decode c_ByteQueue_init 5 = .ok (.bipush 8, 2) := by decide +kernel
theorem d_ByteQueue_init_7 : decode c_ByteQueue_init 7 = .ok (.newarray .int, 2) := by decide +kernel
theorem d_ByteQueue_init_9 : decode c_ByteQueue_init 9 = .ok (.putfield 9, 3) := by decide +kernel
theorem d_ByteQueue_init_12 : decode c_ByteQueue_init 12 = .ok (.return_, 1) := by decide +kernel
abbrev c_ByteQueue_isFull : ByteArray := prog_3_method_2_code
def y_ByteQueue_isFull : MethodName := ⟨"CycleChip$ByteQueue", "isFull", "()Z"⟩
theorem d_ByteQueue_isFull_0 : decode c_ByteQueue_isFull 0 = .ok (.aload_n 0, 1) := by decide +kernel
theorem d_ByteQueue_isFull_1 : decode c_ByteQueue_isFull 1 = .ok (.getfield 13, 3) := by decide +kernel
theorem d_ByteQueue_isFull_4 : decode c_ByteQueue_isFull 4 = .ok (.bipush 8, 2) := by decide +kernel
theorem d_ByteQueue_isFull_6 : decode c_ByteQueue_isFull 6 = .ok (.if_icmp .ne 7, 3) := by decide +kernel
theorem d_ByteQueue_isFull_9 : decode c_ByteQueue_isFull 9 = .ok (.iconst 1, 1) := by decide +kernel
theorem d_ByteQueue_isFull_10 : decode c_ByteQueue_isFull 10 = .ok (.goto 4, 3) := by decide +kernel
theorem d_ByteQueue_isFull_13 : decode c_ByteQueue_isFull 13 = .ok (.iconst 0, 1) := by decide +kernel
theorem d_ByteQueue_isFull_14 : decode c_ByteQueue_isFull 14 = .ok (.ireturn, 1) := by decide +kernel
abbrev c_ByteQueue_isEmpty : ByteArray := prog_3_method_3_code
def y_ByteQueue_isEmpty : MethodName := ⟨"CycleChip$ByteQueue", "isEmpty", "()Z"⟩
theorem d_ByteQueue_isEmpty_0 : decode c_ByteQueue_isEmpty 0 = .ok (.aload_n 0, 1) := by decide +kernel
theorem d_ByteQueue_isEmpty_1 : decode c_ByteQueue_isEmpty 1 = .ok (.getfield 13, 3) := by decide +kernel
theorem d_ByteQueue_isEmpty_4 : decode c_ByteQueue_isEmpty 4 = .ok (.ifCond .ne 7, 3) := by decide +kernel
theorem d_ByteQueue_isEmpty_7 : decode c_ByteQueue_isEmpty 7 = .ok (.iconst 1, 1) := by decide +kernel
theorem d_ByteQueue_isEmpty_8 : decode c_ByteQueue_isEmpty 8 = .ok (.goto 4, 3) := by decide +kernel
theorem d_ByteQueue_isEmpty_11 : decode c_ByteQueue_isEmpty 11 = .ok (.iconst 0, 1) := by decide +kernel
theorem d_ByteQueue_isEmpty_12 : decode c_ByteQueue_isEmpty 12 = .ok (.ireturn, 1) := by decide +kernel
abbrev c_ByteQueue_put : ByteArray := prog_3_method_4_code
def y_ByteQueue_put : MethodName := ⟨"CycleChip$ByteQueue", "put", "(I)V"⟩
theorem d_ByteQueue_put_0 : decode c_ByteQueue_put 0 = .ok (.aload_n 0, 1) := by decide +kernel
theorem d_ByteQueue_put_1 : decode c_ByteQueue_put 1 = .ok (.invokevirtual 17, 3) := by decide +kernel
theorem d_ByteQueue_put_4 : decode c_ByteQueue_put 4 = .ok (.ifCond .ne 35, 3) := by decide +kernel
theorem d_ByteQueue_put_7 : decode c_ByteQueue_put 7 = .ok (.aload_n 0, 1) := by decide +kernel
theorem d_ByteQueue_put_8 : decode c_ByteQueue_put 8 = .ok (.getfield 9, 3) := by decide +kernel
theorem d_ByteQueue_put_11 : decode c_ByteQueue_put 11 = .ok (.aload_n 0, 1) := by decide +kernel
theorem d_ByteQueue_put_12 : decode c_ByteQueue_put 12 = .ok (.getfield 21, 3) := by decide +kernel
theorem d_ByteQueue_put_15 : decode c_ByteQueue_put 15 = .ok (.aload_n 0, 1) := by decide +kernel
theorem d_ByteQueue_put_16 : decode c_ByteQueue_put 16 = .ok (.getfield 13, 3) := by decide +kernel
theorem d_ByteQueue_put_19 : decode c_ByteQueue_put 19 = .ok (.iadd, 1) := by decide +kernel
theorem d_ByteQueue_put_20 : decode c_ByteQueue_put 20 = .ok (.bipush 7, 2) := by decide +kernel
theorem d_ByteQueue_put_22 : decode c_ByteQueue_put 22 = .ok (.iand, 1) := by decide +kernel
theorem d_ByteQueue_put_23 : decode c_ByteQueue_put 23 = .ok (.iload_n 1, 1) := by decide +kernel
theorem d_ByteQueue_put_24 : decode c_ByteQueue_put 24 = .ok (.sipush 255, 3) := by decide +kernel
theorem d_ByteQueue_put_27 : decode c_ByteQueue_put 27 = .ok (.iand, 1) := by decide +kernel
theorem d_ByteQueue_put_28 : decode c_ByteQueue_put 28 = .ok (.iastore, 1) := by decide +kernel
theorem d_ByteQueue_put_29 : decode c_ByteQueue_put 29 = .ok (.aload_n 0, 1) := by decide +kernel
theorem d_ByteQueue_put_30 : decode c_ByteQueue_put 30 = .ok (.dup, 1) := by decide +kernel
theorem d_ByteQueue_put_31 : decode c_ByteQueue_put 31 = .ok (.getfield 13, 3) := by decide +kernel
theorem d_ByteQueue_put_34 : decode c_ByteQueue_put 34 = .ok (.iconst 1, 1) := by decide +kernel
theorem d_ByteQueue_put_35 : decode c_ByteQueue_put 35 = .ok (.iadd, 1) := by decide +kernel
theorem d_ByteQueue_put_36 : decode c_ByteQueue_put 36 = .ok (.putfield 13, 3) := by decide +kernel
theorem d_ByteQueue_put_39 : decode c_ByteQueue_put 39 = .ok (.return_, 1) := by decide +kernel
abbrev c_ByteQueue_take : ByteArray := prog_3_method_5_code
def y_ByteQueue_take : MethodName := ⟨"CycleChip$ByteQueue", "take", "()I"⟩
theorem d_ByteQueue_take_0 : decode c_ByteQueue_take 0 = .ok (.aload_n 0, 1) := by decide +kernel
theorem d_ByteQueue_take_1 : decode c_ByteQueue_take 1 = .ok (.invokevirtual 24, 3) := by decide +kernel
theorem d_ByteQueue_take_4 : decode c_ByteQueue_take 4 = .ok (.ifCond .eq 5, 3) := by decide +kernel
theorem d_ByteQueue_take_7 : decode c_ByteQueue_take 7 = .ok (.iconst (-1), 1) := by decide +kernel
theorem d_ByteQueue_take_8 : decode c_ByteQueue_take 8 = .ok (.ireturn, 1) := by decide +kernel
theorem d_ByteQueue_take_9 : decode c_ByteQueue_take 9 = .ok (.aload_n 0, 1) := by decide +kernel
theorem d_ByteQueue_take_10 : decode c_ByteQueue_take 10 = .ok (.getfield 9, 3) := by decide +kernel
theorem d_ByteQueue_take_13 : decode c_ByteQueue_take 13 = .ok (.aload_n 0, 1) := by decide +kernel
theorem d_ByteQueue_take_14 : decode c_ByteQueue_take 14 = .ok (.getfield 21, 3) := by decide +kernel
theorem d_ByteQueue_take_17 : decode c_ByteQueue_take 17 = .ok (.iaload, 1) := by decide +kernel
theorem d_ByteQueue_take_18 : decode c_ByteQueue_take 18 = .ok (.istore_n 1, 1) := by decide +kernel
theorem d_ByteQueue_take_19 : decode c_ByteQueue_take 19 = .ok (.aload_n 0, 1) := by decide +kernel
theorem d_ByteQueue_take_20 : decode c_ByteQueue_take 20 = .ok (.aload_n 0, 1) := by decide +kernel
theorem d_ByteQueue_take_21 : decode c_ByteQueue_take 21 = .ok (.getfield 21, 3) := by decide +kernel
theorem d_ByteQueue_take_24 : decode c_ByteQueue_take 24 = .ok (.iconst 1, 1) := by decide +kernel
theorem d_ByteQueue_take_25 : decode c_ByteQueue_take 25 = .ok (.iadd, 1) := by decide +kernel
theorem d_ByteQueue_take_26 : decode c_ByteQueue_take 26 = .ok (.bipush 7, 2) := by decide +kernel
theorem d_ByteQueue_take_28 : decode c_ByteQueue_take 28 = .ok (.iand, 1) := by decide +kernel
theorem d_ByteQueue_take_29 : decode c_ByteQueue_take 29 = .ok (.putfield 21, 3) := by decide +kernel
theorem d_ByteQueue_take_32 : decode c_ByteQueue_take 32 = .ok (.aload_n 0, 1) := by decide +kernel
theorem d_ByteQueue_take_33 : decode c_ByteQueue_take 33 = .ok (.dup, 1) := by decide +kernel
theorem d_ByteQueue_take_34 : decode c_ByteQueue_take 34 = .ok (.getfield 13, 3) := by decide +kernel
theorem d_ByteQueue_take_37 : decode c_ByteQueue_take 37 = .ok (.iconst 1, 1) := by decide +kernel
theorem d_ByteQueue_take_38 : decode c_ByteQueue_take 38 = .ok (.isub, 1) := by decide +kernel
theorem d_ByteQueue_take_39 : decode c_ByteQueue_take 39 = .ok (.putfield 13, 3) := by decide +kernel
theorem d_ByteQueue_take_42 : decode c_ByteQueue_take 42 = .ok (.iload_n 1, 1) := by decide +kernel
theorem d_ByteQueue_take_43 : decode c_ByteQueue_take 43 = .ok (.ireturn, 1) := by decide +kernel
abbrev c_Cache_init : ByteArray := prog_4_method_1_code
def y_Cache_init : MethodName := ⟨"CycleChip$Cache", "<init>", "(I)V"⟩
theorem d_Cache_init_0 : decode c_Cache_init 0 = .ok (.aload_n 0, 1) := by decide +kernel
theorem d_Cache_init_1 : decode c_Cache_init 1 = .ok (.invokespecial 1, 3) := by decide +kernel
theorem d_Cache_init_4 : decode c_Cache_init 4 = .ok (.aload_n 0, 1) := by decide +kernel
theorem d_Cache_init_5 : decode c_Cache_init 5 = .ok (.iload_n 1, 1) := by decide +kernel
theorem d_Cache_init_6 : decode c_Cache_init 6 = .ok (.putfield 7, 3) := by decide +kernel
theorem d_Cache_init_9 : decode c_Cache_init 9 = .ok (.aload_n 0, 1) := by decide +kernel
theorem d_Cache_init_10 : decode c_Cache_init 10 = .ok (.iload_n 1, 1) := by decide +kernel
theorem d_Cache_init_11 : decode c_Cache_init 11 = .ok (.newarray .int, 2) := by decide +kernel
theorem d_Cache_init_13 : decode c_Cache_init 13 = .ok (.putfield 13, 3) := by decide +kernel
theorem d_Cache_init_16 : decode c_Cache_init 16 = .ok (.aload_n 0, 1) := by decide +kernel
theorem d_Cache_init_17 : decode c_Cache_init 17 = .ok (.iconst 4, 1) := by decide +kernel
theorem d_Cache_init_18 : decode c_Cache_init 18 = .ok (.iload_n 1, 1) := by decide +kernel
theorem d_Cache_init_19 : decode c_Cache_init 19 = .ok (.imul, 1) := by decide +kernel
theorem d_Cache_init_20 : decode c_Cache_init 20 = .ok (.newarray .int, 2) := by decide +kernel
theorem d_Cache_init_22 : decode c_Cache_init 22 = .ok (.putfield 17, 3) := by decide +kernel
theorem d_Cache_init_25 : decode c_Cache_init 25 = .ok (.aload_n 0, 1) := by decide +kernel
theorem d_Cache_init_26 : decode c_Cache_init 26 = .ok (.getfield 13, 3) := by decide +kernel
theorem d_Cache_init_29 : decode c_Cache_init 29 = .ok (.iconst (-1), 1) := by decide +kernel
theorem d_Cache_init_30 : decode c_Cache_init 30 = .ok (.invokestatic 20, 3) := by decide +kernel
theorem d_Cache_init_33 : decode c_Cache_init 33 = .ok (.return_, 1) := by decide +kernel
abbrev c_Cache_holds : ByteArray := prog_4_method_2_code
def y_Cache_holds : MethodName := ⟨"CycleChip$Cache", "holds", "(I)Z"⟩
theorem d_Cache_holds_0 : decode c_Cache_holds 0 = .ok (.aload_n 0, 1) := by decide +kernel
theorem d_Cache_holds_1 : decode c_Cache_holds 1 = .ok (.getfield 13, 3) := by decide +kernel
theorem d_Cache_holds_4 : decode c_Cache_holds 4 = .ok (.iload_n 1, 1) := by decide +kernel
theorem d_Cache_holds_5 : decode c_Cache_holds 5 = .ok (.iconst 2, 1) := by decide +kernel
theorem d_Cache_holds_6 : decode c_Cache_holds 6 = .ok (.ishr, 1) := by decide +kernel
theorem d_Cache_holds_7 : decode c_Cache_holds 7 = .ok (.aload_n 0, 1) := by decide +kernel
theorem d_Cache_holds_8 : decode c_Cache_holds 8 = .ok (.getfield 7, 3) := by decide +kernel
theorem d_Cache_holds_11 : decode c_Cache_holds 11 = .ok (.irem, 1) := by decide +kernel
theorem d_Cache_holds_12 : decode c_Cache_holds 12 = .ok (.iaload, 1) := by decide +kernel
theorem d_Cache_holds_13 : decode c_Cache_holds 13 = .ok (.iload_n 1, 1) := by decide +kernel
theorem d_Cache_holds_14 : decode c_Cache_holds 14 = .ok (.iconst 2, 1) := by decide +kernel
theorem d_Cache_holds_15 : decode c_Cache_holds 15 = .ok (.ishr, 1) := by decide +kernel
theorem d_Cache_holds_16 : decode c_Cache_holds 16 = .ok (.if_icmp .ne 7, 3) := by decide +kernel
theorem d_Cache_holds_19 : decode c_Cache_holds 19 = .ok (.iconst 1, 1) := by decide +kernel
theorem d_Cache_holds_20 : decode c_Cache_holds 20 = .ok (.goto 4, 3) := by decide +kernel
theorem d_Cache_holds_23 : decode c_Cache_holds 23 = .ok (.iconst 0, 1) := by decide +kernel
theorem d_Cache_holds_24 : decode c_Cache_holds 24 = .ok (.ireturn, 1) := by decide +kernel
abbrev c_Cache_word : ByteArray := prog_4_method_3_code
def y_Cache_word : MethodName := ⟨"CycleChip$Cache", "word", "(I)I"⟩
theorem d_Cache_word_0 : decode c_Cache_word 0 = .ok (.aload_n 0, 1) := by decide +kernel
theorem d_Cache_word_1 : decode c_Cache_word 1 = .ok (.getfield 17, 3) := by decide +kernel
theorem d_Cache_word_4 : decode c_Cache_word 4 = .ok (.aload_n 0, 1) := by decide +kernel
theorem d_Cache_word_5 : decode c_Cache_word 5 = .ok (.iload_n 1, 1) := by decide +kernel
theorem d_Cache_word_6 : decode c_Cache_word 6 = .ok (.invokevirtual 26, 3) := by decide +kernel
theorem d_Cache_word_9 : decode c_Cache_word 9 = .ok (.iaload, 1) := by decide +kernel
theorem d_Cache_word_10 : decode c_Cache_word 10 = .ok (.ireturn, 1) := by decide +kernel
abbrev c_Cache_change : ByteArray := prog_4_method_4_code
def y_Cache_change : MethodName := ⟨"CycleChip$Cache", "change", "(II)V"⟩
theorem d_Cache_change_0 : decode c_Cache_change 0 = .ok (.aload_n 0, 1) := by decide +kernel
theorem d_Cache_change_1 : decode c_Cache_change 1 = .ok (.iload_n 1, 1) := by decide +kernel
theorem d_Cache_change_2 : decode c_Cache_change 2 = .ok (.invokevirtual 30, 3) := by decide +kernel
theorem d_Cache_change_5 : decode c_Cache_change 5 = .ok (.ifCond .eq 14, 3) := by decide +kernel
theorem d_Cache_change_8 : decode c_Cache_change 8 = .ok (.aload_n 0, 1) := by decide +kernel
theorem d_Cache_change_9 : decode c_Cache_change 9 = .ok (.getfield 17, 3) := by decide +kernel
theorem d_Cache_change_12 : decode c_Cache_change 12 = .ok (.aload_n 0, 1) := by decide +kernel
theorem d_Cache_change_13 : decode c_Cache_change 13 = .ok (.iload_n 1, 1) := by decide +kernel
theorem d_Cache_change_14 : decode c_Cache_change 14 = .ok (.invokevirtual 26, 3) := by decide +kernel
theorem d_Cache_change_17 : decode c_Cache_change 17 = .ok (.iload_n 2, 1) := by decide +kernel
theorem d_Cache_change_18 : decode c_Cache_change 18 = .ok (.iastore, 1) := by decide +kernel
theorem d_Cache_change_19 : decode c_Cache_change 19 = .ok (.return_, 1) := by decide +kernel
abbrev c_Cache_fill : ByteArray := prog_4_method_5_code
def y_Cache_fill : MethodName := ⟨"CycleChip$Cache", "fill", "(I[I)V"⟩
theorem d_Cache_fill_0 : decode c_Cache_fill 0 = .ok (.aload_n 0, 1) := by decide +kernel
theorem d_Cache_fill_1 : decode c_Cache_fill 1 = .ok (.getfield 13, 3) := by decide +kernel
theorem d_Cache_fill_4 : decode c_Cache_fill 4 = .ok (.iload_n 1, 1) := by decide +kernel
theorem d_Cache_fill_5 : decode c_Cache_fill 5 = .ok (.aload_n 0, 1) := by decide +kernel
theorem d_Cache_fill_6 : decode c_Cache_fill 6 = .ok (.getfield 7, 3) := by decide +kernel
theorem d_Cache_fill_9 : decode c_Cache_fill 9 = .ok (.irem, 1) := by decide +kernel
theorem d_Cache_fill_10 : decode c_Cache_fill 10 = .ok (.iload_n 1, 1) := by decide +kernel
theorem d_Cache_fill_11 : decode c_Cache_fill 11 = .ok (.iastore, 1) := by decide +kernel
theorem d_Cache_fill_12 : decode c_Cache_fill 12 = .ok (.aload_n 2, 1) := by decide +kernel
theorem d_Cache_fill_13 : decode c_Cache_fill 13 = .ok (.iconst 4, 1) := by decide +kernel
theorem d_Cache_fill_14 : decode c_Cache_fill 14 = .ok (.iload_n 1, 1) := by decide +kernel
theorem d_Cache_fill_15 : decode c_Cache_fill 15 = .ok (.imul, 1) := by decide +kernel
theorem d_Cache_fill_16 : decode c_Cache_fill 16 = .ok (.aload_n 0, 1) := by decide +kernel
theorem d_Cache_fill_17 : decode c_Cache_fill 17 = .ok (.getfield 17, 3) := by decide +kernel
theorem d_Cache_fill_20 : decode c_Cache_fill 20 = .ok (.aload_n 0, 1) := by decide +kernel
theorem d_Cache_fill_21 : decode c_Cache_fill 21 = .ok (.iconst 4, 1) := by decide +kernel
theorem d_Cache_fill_22 : decode c_Cache_fill 22 = .ok (.iload_n 1, 1) := by decide +kernel
theorem d_Cache_fill_23 : decode c_Cache_fill 23 = .ok (.imul, 1) := by decide +kernel
theorem d_Cache_fill_24 : decode c_Cache_fill 24 = .ok (.invokevirtual 26, 3) := by decide +kernel
theorem d_Cache_fill_27 : decode c_Cache_fill 27 = .ok (.iconst 4, 1) := by decide +kernel
theorem d_Cache_fill_28 : decode c_Cache_fill 28 = .ok (.invokestatic 34, 3) := by decide +kernel
theorem d_Cache_fill_31 : decode c_Cache_fill 31 = .ok (.return_, 1) := by decide +kernel
abbrev c_Cache_drop : ByteArray := prog_4_method_6_code
def y_Cache_drop : MethodName := ⟨"CycleChip$Cache", "drop", "()V"⟩
theorem d_Cache_drop_0 : decode c_Cache_drop 0 = .ok (.aload_n 0, 1) := by decide +kernel
theorem d_Cache_drop_1 : decode c_Cache_drop 1 = .ok (.getfield 13, 3) := by decide +kernel
theorem d_Cache_drop_4 : decode c_Cache_drop 4 = .ok (.iconst (-1), 1) := by decide +kernel
theorem d_Cache_drop_5 : decode c_Cache_drop 5 = .ok (.invokestatic 20, 3) := by decide +kernel
theorem d_Cache_drop_8 : decode c_Cache_drop 8 = .ok (.return_, 1) := by decide +kernel
abbrev c_Cache_place : ByteArray := prog_4_method_7_code
def y_Cache_place : MethodName := ⟨"CycleChip$Cache", "place", "(I)I"⟩
theorem d_Cache_place_0 : decode c_Cache_place 0 = .ok (.iload_n 1, 1) := by decide +kernel
theorem d_Cache_place_1 : decode c_Cache_place 1 = .ok (.iconst 2, 1) := by decide +kernel
theorem d_Cache_place_2 : decode c_Cache_place 2 = .ok (.ishr, 1) := by decide +kernel
theorem d_Cache_place_3 : decode c_Cache_place 3 = .ok (.aload_n 0, 1) := by decide +kernel
theorem d_Cache_place_4 : decode c_Cache_place 4 = .ok (.getfield 7, 3) := by decide +kernel
theorem d_Cache_place_7 : decode c_Cache_place 7 = .ok (.irem, 1) := by decide +kernel
theorem d_Cache_place_8 : decode c_Cache_place 8 = .ok (.iconst 4, 1) := by decide +kernel
theorem d_Cache_place_9 : decode c_Cache_place 9 = .ok (.imul, 1) := by decide +kernel
theorem d_Cache_place_10 : decode c_Cache_place 10 = .ok (.iload_n 1, 1) := by decide +kernel
theorem d_Cache_place_11 : decode c_Cache_place 11 = .ok (.iconst 3, 1) := by decide +kernel
theorem d_Cache_place_12 : decode c_Cache_place 12 = .ok (.iand, 1) := by decide +kernel
theorem d_Cache_place_13 : decode c_Cache_place 13 = .ok (.iadd, 1) := by decide +kernel
theorem d_Cache_place_14 : decode c_Cache_place 14 = .ok (.ireturn, 1) := by decide +kernel
abbrev c_Control_init : ByteArray := prog_5_method_1_code
def y_Control_init : MethodName := ⟨"CycleChip$Control", "<init>", "()V"⟩
theorem d_Control_init_0 : decode c_Control_init 0 = .ok (.aload_n 0, 1) := by decide +kernel
theorem d_Control_init_1 : decode c_Control_init 1 = .ok (.invokespecial 1, 3) := by decide +kernel
theorem d_Control_init_4 : decode c_Control_init 4 = .ok (.return_, 1) := by decide +kernel
abbrev c_Control_exists : ByteArray := prog_5_method_2_code
def y_Control_exists : MethodName := ⟨"CycleChip$Control", "exists", "(I)Z"⟩
theorem d_Control_exists_0 : decode c_Control_exists 0 = .ok (.iload_n 0, 1) := by decide +kernel
theorem d_Control_exists_1 : decode c_Control_exists 1 = .ok (.lookupswitch 85 #[(768, 83), (772, 83), (773, 83), (832, 83), (833, 83), (834, 83), (835, 83), (836, 83), (3072, 83)], 83) := by decide +kernel
theorem d_Control_exists_84 : decode c_Control_exists 84 = .ok (.iconst 1, 1) := by decide +kernel
theorem d_Control_exists_85 : decode c_Control_exists 85 = .ok (.ireturn, 1) := by decide +kernel
theorem d_Control_exists_86 : decode c_Control_exists 86 = .ok (.iconst 0, 1) := by decide +kernel
theorem d_Control_exists_87 : decode c_Control_exists 87 = .ok (.ireturn, 1) := by decide +kernel
abbrev c_Control_read : ByteArray := prog_5_method_3_code
def y_Control_read : MethodName := ⟨"CycleChip$Control", "read", "(III)I"⟩
theorem d_Control_read_0 : decode c_Control_read 0 = .ok (.iload_n 1, 1) := by decide +kernel
theorem d_Control_read_1 : decode c_Control_read 1 = .ok (.lookupswitch 122 #[(768, 83), (772, 88), (773, 93), (832, 98), (833, 103), (834, 108), (835, 113), (836, 118), (3072, 120)], 83) := by decide +kernel
theorem d_Control_read_84 : decode c_Control_read 84 = .ok (.aload_n 0, 1) := by decide +kernel
theorem d_Control_read_85 : decode c_Control_read 85 = .ok (.getfield 7, 3) := by decide +kernel
theorem d_Control_read_88 : decode c_Control_read 88 = .ok (.ireturn, 1) := by decide +kernel
theorem d_Control_read_89 : decode c_Control_read 89 = .ok (.aload_n 0, 1) := by decide +kernel
theorem d_Control_read_90 : decode c_Control_read 90 = .ok (.getfield 13, 3) := by decide +kernel
theorem d_Control_read_93 : decode c_Control_read 93 = .ok (.ireturn, 1) := by decide +kernel
theorem d_Control_read_94 : decode c_Control_read 94 = .ok (.aload_n 0, 1) := by decide +kernel
theorem d_Control_read_95 : decode c_Control_read 95 = .ok (.getfield 16, 3) := by decide +kernel
theorem d_Control_read_98 : decode c_Control_read 98 = .ok (.ireturn, 1) := by decide +kernel
theorem d_Control_read_99 : decode c_Control_read 99 = .ok (.aload_n 0, 1) := by decide +kernel
theorem d_Control_read_100 : decode c_Control_read 100 = .ok (.getfield 19, 3) := by decide +kernel
theorem d_Control_read_103 : decode c_Control_read 103 = .ok (.ireturn, 1) := by decide +kernel
theorem d_Control_read_104 : decode c_Control_read 104 = .ok (.aload_n 0, 1) := by decide +kernel
theorem d_Control_read_105 : decode c_Control_read 105 = .ok (.getfield 22, 3) := by decide +kernel
theorem d_Control_read_108 : decode c_Control_read 108 = .ok (.ireturn, 1) := by decide +kernel
theorem d_Control_read_109 : decode c_Control_read 109 = .ok (.aload_n 0, 1) := by decide +kernel
theorem d_Control_read_110 : decode c_Control_read 110 = .ok (.getfield 25, 3) := by decide +kernel
theorem d_Control_read_113 : decode c_Control_read 113 = .ok (.ireturn, 1) := by decide +kernel
theorem d_Control_read_114 : decode c_Control_read 114 = .ok (.aload_n 0, 1) := by decide +kernel
theorem d_Control_read_115 : decode c_Control_read 115 = .ok (.getfield 28, 3) := by decide +kernel
theorem d_Control_read_118 : decode c_Control_read 118 = .ok (.ireturn, 1) := by decide +kernel
theorem d_Control_read_119 : decode c_Control_read 119 = .ok (.iload_n 2, 1) := by decide +kernel
theorem d_Control_read_120 : decode c_Control_read 120 = .ok (.ireturn, 1) := by decide +kernel
theorem d_Control_read_121 : decode c_Control_read 121 = .ok (.iload_n 3, 1) := by decide +kernel
theorem d_Control_read_122 : decode c_Control_read 122 = .ok (.ireturn, 1) := by decide +kernel
theorem d_Control_read_123 : decode c_Control_read 123 = .ok (.iconst 0, 1) := by decide +kernel
theorem d_Control_read_124 : decode c_Control_read 124 = .ok (.ireturn, 1) := by decide +kernel
abbrev c_Control_write : ByteArray := prog_5_method_4_code
def y_Control_write : MethodName := ⟨"CycleChip$Control", "write", "(II)V"⟩
theorem d_Control_write_0 : decode c_Control_write 0 = .ok (.iload_n 1, 1) := by decide +kernel
theorem d_Control_write_1 : decode c_Control_write 1 = .ok (.lookupswitch 137 #[(768, 67), (772, 79), (773, 91), (832, 102), (833, 110), (834, 121), (835, 129)], 67) := by decide +kernel
theorem d_Control_write_68 : decode c_Control_write 68 = .ok (.aload_n 0, 1) := by decide +kernel
theorem d_Control_write_69 : decode c_Control_write 69 = .ok (.iload_n 2, 1) := by decide +kernel
theorem d_Control_write_70 : decode c_Control_write 70 = .ok (.sipush 136, 3) := by decide +kernel
theorem d_Control_write_73 : decode c_Control_write 73 = .ok (.iand, 1) := by decide +kernel
theorem d_Control_write_74 : decode c_Control_write 74 = .ok (.putfield 7, 3) := by decide +kernel
theorem d_Control_write_77 : decode c_Control_write 77 = .ok (.goto 61, 3) := by decide +kernel
theorem d_Control_write_80 : decode c_Control_write 80 = .ok (.aload_n 0, 1) := by decide +kernel
theorem d_Control_write_81 : decode c_Control_write 81 = .ok (.iload_n 2, 1) := by decide +kernel
theorem d_Control_write_82 : decode c_Control_write 82 = .ok (.sipush 2176, 3) := by decide +kernel
theorem d_Control_write_85 : decode c_Control_write 85 = .ok (.iand, 1) := by decide +kernel
theorem d_Control_write_86 : decode c_Control_write 86 = .ok (.putfield 13, 3) := by decide +kernel
theorem d_Control_write_89 : decode c_Control_write 89 = .ok (.goto 49, 3) := by decide +kernel
theorem d_Control_write_92 : decode c_Control_write 92 = .ok (.aload_n 0, 1) := by decide +kernel
theorem d_Control_write_93 : decode c_Control_write 93 = .ok (.iload_n 2, 1) := by decide +kernel
theorem d_Control_write_94 : decode c_Control_write 94 = .ok (.bipush (-3), 2) := by decide +kernel
theorem d_Control_write_96 : decode c_Control_write 96 = .ok (.iand, 1) := by decide +kernel
theorem d_Control_write_97 : decode c_Control_write 97 = .ok (.putfield 16, 3) := by decide +kernel
theorem d_Control_write_100 : decode c_Control_write 100 = .ok (.goto 38, 3) := by decide +kernel
theorem d_Control_write_103 : decode c_Control_write 103 = .ok (.aload_n 0, 1) := by decide +kernel
theorem d_Control_write_104 : decode c_Control_write 104 = .ok (.iload_n 2, 1) := by decide +kernel
theorem d_Control_write_105 : decode c_Control_write 105 = .ok (.putfield 19, 3) := by decide +kernel
theorem d_Control_write_108 : decode c_Control_write 108 = .ok (.goto 30, 3) := by decide +kernel
theorem d_Control_write_111 : decode c_Control_write 111 = .ok (.aload_n 0, 1) := by decide +kernel
theorem d_Control_write_112 : decode c_Control_write 112 = .ok (.iload_n 2, 1) := by decide +kernel
theorem d_Control_write_113 : decode c_Control_write 113 = .ok (.bipush (-4), 2) := by decide +kernel
theorem d_Control_write_115 : decode c_Control_write 115 = .ok (.iand, 1) := by decide +kernel
theorem d_Control_write_116 : decode c_Control_write 116 = .ok (.putfield 22, 3) := by decide +kernel
theorem d_Control_write_119 : decode c_Control_write 119 = .ok (.goto 19, 3) := by decide +kernel
theorem d_Control_write_122 : decode c_Control_write 122 = .ok (.aload_n 0, 1) := by decide +kernel
theorem d_Control_write_123 : decode c_Control_write 123 = .ok (.iload_n 2, 1) := by decide +kernel
theorem d_Control_write_124 : decode c_Control_write 124 = .ok (.putfield 25, 3) := by decide +kernel
theorem d_Control_write_127 : decode c_Control_write 127 = .ok (.goto 11, 3) := by decide +kernel
theorem d_Control_write_130 : decode c_Control_write 130 = .ok (.aload_n 0, 1) := by decide +kernel
theorem d_Control_write_131 : decode c_Control_write 131 = .ok (.iload_n 2, 1) := by decide +kernel
theorem d_Control_write_132 : decode c_Control_write 132 = .ok (.putfield 28, 3) := by decide +kernel
theorem d_Control_write_135 : decode c_Control_write 135 = .ok (.goto 3, 3) := by decide +kernel
theorem d_Control_write_138 : decode c_Control_write 138 = .ok (.return_, 1) := by decide +kernel
abbrev c_Control_interruptsAreOn : ByteArray := prog_5_method_5_code
def y_Control_interruptsAreOn : MethodName := ⟨"CycleChip$Control", "interruptsAreOn", "()Z"⟩
theorem d_Control_interruptsAreOn_0 : decode c_Control_interruptsAreOn 0 = .ok (.aload_n 0, 1) := by decide +kernel
theorem d_Control_interruptsAreOn_1 : decode c_Control_interruptsAreOn 1 = .ok (.getfield 7, 3) := by decide +kernel
theorem d_Control_interruptsAreOn_4 : decode c_Control_interruptsAreOn 4 = .ok (.bipush 8, 2) := by decide +kernel
theorem d_Control_interruptsAreOn_6 : decode c_Control_interruptsAreOn 6 = .ok (.iand, 1) := by decide +kernel
theorem d_Control_interruptsAreOn_7 : decode c_Control_interruptsAreOn 7 = .ok (.ifCond .eq 7, 3) := by decide +kernel
theorem d_Control_interruptsAreOn_10 : decode c_Control_interruptsAreOn 10 = .ok (.iconst 1, 1) := by decide +kernel
theorem d_Control_interruptsAreOn_11 : decode c_Control_interruptsAreOn 11 = .ok (.goto 4, 3) := by decide +kernel
theorem d_Control_interruptsAreOn_14 : decode c_Control_interruptsAreOn 14 = .ok (.iconst 0, 1) := by decide +kernel
theorem d_Control_interruptsAreOn_15 : decode c_Control_interruptsAreOn 15 = .ok (.ireturn, 1) := by decide +kernel
abbrev c_Control_enabledOf : ByteArray := prog_5_method_6_code
def y_Control_enabledOf : MethodName := ⟨"CycleChip$Control", "enabledOf", "(I)I"⟩
theorem d_Control_enabledOf_0 : decode c_Control_enabledOf 0 = .ok (.iload_n 1, 1) := by decide +kernel
theorem d_Control_enabledOf_1 : decode c_Control_enabledOf 1 = .ok (.aload_n 0, 1) := by decide +kernel
theorem d_Control_enabledOf_2 : decode c_Control_enabledOf 2 = .ok (.getfield 13, 3) := by decide +kernel
theorem d_Control_enabledOf_5 : decode c_Control_enabledOf 5 = .ok (.iand, 1) := by decide +kernel
theorem d_Control_enabledOf_6 : decode c_Control_enabledOf 6 = .ok (.ireturn, 1) := by decide +kernel
abbrev c_Control_enterTrap : ByteArray := prog_5_method_7_code
def y_Control_enterTrap : MethodName := ⟨"CycleChip$Control", "enterTrap", "(III)V"⟩
theorem d_Control_enterTrap_0 : decode c_Control_enterTrap 0 = .ok (.aload_n 0, 1) := by decide +kernel
theorem d_Control_enterTrap_1 : decode c_Control_enterTrap 1 = .ok (.iload_n 3, 1) := by decide +kernel
theorem d_Control_enterTrap_2 : decode c_Control_enterTrap 2 = .ok (.putfield 22, 3) := by decide +kernel
theorem d_Control_enterTrap_5 : decode c_Control_enterTrap 5 = .ok (.aload_n 0, 1) := by decide +kernel
theorem d_Control_enterTrap_6 : decode c_Control_enterTrap 6 = .ok (.iload_n 1, 1) := by decide +kernel
theorem d_Control_enterTrap_7 : decode c_Control_enterTrap 7 = .ok (.putfield 25, 3) := by decide +kernel
theorem d_Control_enterTrap_10 : decode c_Control_enterTrap 10 = .ok (.aload_n 0, 1) := by decide +kernel
theorem d_Control_enterTrap_11 : decode c_Control_enterTrap 11 = .ok (.iload_n 2, 1) := by decide +kernel
theorem d_Control_enterTrap_12 : decode c_Control_enterTrap 12 = .ok (.putfield 28, 3) := by decide +kernel
theorem d_Control_enterTrap_15 : decode c_Control_enterTrap 15 = .ok (.aload_n 0, 1) := by decide +kernel
theorem d_Control_enterTrap_16 : decode c_Control_enterTrap 16 = .ok (.aload_n 0, 1) := by decide +kernel
theorem d_Control_enterTrap_17 : decode c_Control_enterTrap 17 = .ok (.getfield 7, 3) := by decide +kernel
theorem d_Control_enterTrap_20 : decode c_Control_enterTrap 20 = .ok (.bipush 8, 2) := by decide +kernel
theorem d_Control_enterTrap_22 : decode c_Control_enterTrap 22 = .ok (.iand, 1) := by decide +kernel
theorem d_Control_enterTrap_23 : decode c_Control_enterTrap 23 = .ok (.ifCond .eq 9, 3) := by decide +kernel
theorem d_Control_enterTrap_26 : decode c_Control_enterTrap 26 = .ok (.sipush 128, 3) := by decide +kernel
theorem d_Control_enterTrap_29 : decode c_Control_enterTrap 29 = .ok (.goto 4, 3) := by decide +kernel
theorem d_Control_enterTrap_32 : decode c_Control_enterTrap 32 = .ok (.iconst 0, 1) := by decide +kernel
theorem d_Control_enterTrap_33 : decode c_Control_enterTrap 33 = .ok (.putfield 7, 3) := by decide +kernel
theorem d_Control_enterTrap_36 : decode c_Control_enterTrap 36 = .ok (.return_, 1) := by decide +kernel
abbrev c_Control_leaveTrap : ByteArray := prog_5_method_8_code
def y_Control_leaveTrap : MethodName := ⟨"CycleChip$Control", "leaveTrap", "()V"⟩
theorem d_Control_leaveTrap_0 : decode c_Control_leaveTrap 0 = .ok (.aload_n 0, 1) := by decide +kernel
theorem d_Control_leaveTrap_1 : decode c_Control_leaveTrap 1 = .ok (.aload_n 0, 1) := by decide +kernel
theorem d_Control_leaveTrap_2 : decode c_Control_leaveTrap 2 = .ok (.getfield 7, 3) := by decide +kernel
theorem d_Control_leaveTrap_5 : decode c_Control_leaveTrap 5 = .ok (.sipush 128, 3) := by decide +kernel
theorem d_Control_leaveTrap_8 : decode c_Control_leaveTrap 8 = .ok (.iand, 1) := by decide +kernel
theorem d_Control_leaveTrap_9 : decode c_Control_leaveTrap 9 = .ok (.ifCond .eq 9, 3) := by decide +kernel
theorem d_Control_leaveTrap_12 : decode c_Control_leaveTrap 12 = .ok (.sipush 136, 3) := by decide +kernel
theorem d_Control_leaveTrap_15 : decode c_Control_leaveTrap 15 = .ok (.goto 6, 3) := by decide +kernel
theorem d_Control_leaveTrap_18 : decode c_Control_leaveTrap 18 = .ok (.sipush 128, 3) := by decide +kernel
theorem d_Control_leaveTrap_21 : decode c_Control_leaveTrap 21 = .ok (.putfield 7, 3) := by decide +kernel
theorem d_Control_leaveTrap_24 : decode c_Control_leaveTrap 24 = .ok (.return_, 1) := by decide +kernel
abbrev c_Control_trapAddress : ByteArray := prog_5_method_9_code
def y_Control_trapAddress : MethodName := ⟨"CycleChip$Control", "trapAddress", "()I"⟩
theorem d_Control_trapAddress_0 : decode c_Control_trapAddress 0 = .ok (.aload_n 0, 1) := by decide +kernel
theorem d_Control_trapAddress_1 : decode c_Control_trapAddress 1 = .ok (.getfield 16, 3) := by decide +kernel
theorem d_Control_trapAddress_4 : decode c_Control_trapAddress 4 = .ok (.bipush (-4), 2) := by decide +kernel
theorem d_Control_trapAddress_6 : decode c_Control_trapAddress 6 = .ok (.iand, 1) := by decide +kernel
theorem d_Control_trapAddress_7 : decode c_Control_trapAddress 7 = .ok (.ireturn, 1) := by decide +kernel
abbrev c_Control_interruptAddress : ByteArray := prog_5_method_10_code
def y_Control_interruptAddress : MethodName := ⟨"CycleChip$Control", "interruptAddress", "(I)I"⟩
theorem d_Control_interruptAddress_0 : decode c_Control_interruptAddress 0 = .ok (.aload_n 0, 1) := by decide +kernel
theorem d_Control_interruptAddress_1 : decode c_Control_interruptAddress 1 = .ok (.getfield 16, 3) := by decide +kernel
theorem d_Control_interruptAddress_4 : decode c_Control_interruptAddress 4 = .ok (.iconst 1, 1) := by decide +kernel
theorem d_Control_interruptAddress_5 : decode c_Control_interruptAddress 5 = .ok (.iand, 1) := by decide +kernel
theorem d_Control_interruptAddress_6 : decode c_Control_interruptAddress 6 = .ok (.ifCond .eq 14, 3) := by decide +kernel
theorem d_Control_interruptAddress_9 : decode c_Control_interruptAddress 9 = .ok (.aload_n 0, 1) := by decide +kernel
theorem d_Control_interruptAddress_10 : decode c_Control_interruptAddress 10 = .ok (.invokevirtual 31, 3) := by decide +kernel
theorem d_Control_interruptAddress_13 : decode c_Control_interruptAddress 13 = .ok (.iconst 4, 1) := by decide +kernel
theorem d_Control_interruptAddress_14 : decode c_Control_interruptAddress 14 = .ok (.iload_n 1, 1) := by decide +kernel
theorem d_Control_interruptAddress_15 : decode c_Control_interruptAddress 15 = .ok (.imul, 1) := by decide +kernel
theorem d_Control_interruptAddress_16 : decode c_Control_interruptAddress 16 = .ok (.iadd, 1) := by decide +kernel
theorem d_Control_interruptAddress_17 : decode c_Control_interruptAddress 17 = .ok (.goto 7, 3) := by decide +kernel
theorem d_Control_interruptAddress_20 : decode c_Control_interruptAddress 20 = .ok (.aload_n 0, 1) := by decide +kernel
theorem d_Control_interruptAddress_21 : decode c_Control_interruptAddress 21 = .ok (.invokevirtual 31, 3) := by decide +kernel
theorem d_Control_interruptAddress_24 : decode c_Control_interruptAddress 24 = .ok (.ireturn, 1) := by decide +kernel
abbrev c_Devices_init : ByteArray := prog_7_method_1_code
def y_Devices_init : MethodName := ⟨"CycleChip$Devices", "<init>", "()V"⟩
theorem d_Devices_init_0 : decode c_Devices_init 0 = .ok (.aload_n 0, 1) := by decide +kernel
theorem d_Devices_init_1 : decode c_Devices_init 1 = .ok (.invokespecial 1, 3) := by decide +kernel
theorem d_Devices_init_4 : decode c_Devices_init 4 = .ok (.aload_n 0, 1) := by decide +kernel
theorem d_Devices_init_5 : decode c_Devices_init 5 = .ok (.new 7, 3) := by decide +kernel
theorem d_Devices_init_8 : decode c_Devices_init 8 = .ok (.dup, 1) := by decide +kernel
theorem d_Devices_init_9 : decode c_Devices_init 9 = .ok (.invokespecial 9, 3) := by decide +kernel
theorem d_Devices_init_12 : decode c_Devices_init 12 = .ok (.putfield 10, 3) := by decide +kernel
theorem d_Devices_init_15 : decode c_Devices_init 15 = .ok (.aload_n 0, 1) := by decide +kernel
theorem d_Devices_init_16 : decode c_Devices_init 16 = .ok (.new 16, 3) := by decide +kernel
theorem d_Devices_init_19 : decode c_Devices_init 19 = .ok (.dup, 1) := by decide +kernel
theorem d_Devices_init_20 : decode c_Devices_init 20 = .ok (.invokespecial 18, 3) := by decide +kernel
theorem d_Devices_init_23 : decode c_Devices_init 23 = .ok (.putfield 19, 3) := by decide +kernel
theorem d_Devices_init_26 : decode c_Devices_init 26 = .ok (.aload_n 0, 1) := by decide +kernel
theorem d_Devices_init_27 : decode c_Devices_init 27 = .ok (.ldc2_w 23, 3) := by decide +kernel
theorem d_Devices_init_30 : decode c_Devices_init 30 = .ok (.putfield 25, 3) := by decide +kernel
theorem d_Devices_init_33 : decode c_Devices_init 33 = .ok (.return_, 1) := by decide +kernel
abbrev c_Devices_happen : ByteArray := prog_7_method_2_code
def y_Devices_happen : MethodName := ⟨"CycleChip$Devices", "happen", "(II)V"⟩
theorem d_Devices_happen_0 : decode c_Devices_happen 0 = .ok (.iload_n 1, 1) := by decide +kernel
theorem d_Devices_happen_1 : decode c_Devices_happen 1 = .ok (.ifCond .ne 14, 3) := by decide +kernel
theorem d_Devices_happen_4 : decode c_Devices_happen 4 = .ok (.aload_n 0, 1) := by decide +kernel
theorem d_Devices_happen_5 : decode c_Devices_happen 5 = .ok (.getfield 19, 3) := by decide +kernel
theorem d_Devices_happen_8 : decode c_Devices_happen 8 = .ok (.iload_n 2, 1) := by decide +kernel
theorem d_Devices_happen_9 : decode c_Devices_happen 9 = .ok (.invokevirtual 29, 3) := by decide +kernel
theorem d_Devices_happen_12 : decode c_Devices_happen 12 = .ok (.goto 20, 3) := by decide +kernel
theorem d_Devices_happen_15 : decode c_Devices_happen 15 = .ok (.aload_n 0, 1) := by decide +kernel
theorem d_Devices_happen_16 : decode c_Devices_happen 16 = .ok (.getfield 10, 3) := by decide +kernel
theorem d_Devices_happen_19 : decode c_Devices_happen 19 = .ok (.iload_n 1, 1) := by decide +kernel
theorem d_Devices_happen_20 : decode c_Devices_happen 20 = .ok (.iload_n 2, 1) := by decide +kernel
theorem d_Devices_happen_21 : decode c_Devices_happen 21 = .ok (.ifCond .eq 7, 3) := by decide +kernel
theorem d_Devices_happen_24 : decode c_Devices_happen 24 = .ok (.iconst 1, 1) := by decide +kernel
theorem d_Devices_happen_25 : decode c_Devices_happen 25 = .ok (.goto 4, 3) := by decide +kernel
theorem d_Devices_happen_28 : decode c_Devices_happen 28 = .ok (.iconst 0, 1) := by decide +kernel
theorem d_Devices_happen_29 : decode c_Devices_happen 29 = .ok (.invokevirtual 33, 3) := by decide +kernel
theorem d_Devices_happen_32 : decode c_Devices_happen 32 = .ok (.return_, 1) := by decide +kernel
abbrev c_Devices_interruptBits : ByteArray := prog_7_method_3_code
def y_Devices_interruptBits : MethodName := ⟨"CycleChip$Devices", "interruptBits", "()I"⟩
theorem d_Devices_interruptBits_0 : decode c_Devices_interruptBits 0 = .ok (.aload_n 0, 1) := by decide +kernel
theorem d_Devices_interruptBits_1 : decode c_Devices_interruptBits 1 = .ok (.getfield 37, 3) := by decide +kernel
theorem d_Devices_interruptBits_4 : decode c_Devices_interruptBits 4 = .ok (.aload_n 0, 1) := by decide +kernel
theorem d_Devices_interruptBits_5 : decode c_Devices_interruptBits 5 = .ok (.getfield 25, 3) := by decide +kernel
theorem d_Devices_interruptBits_8 : decode c_Devices_interruptBits 8 = .ok (.invokestatic 40, 3) := by decide +kernel
theorem d_Devices_interruptBits_11 : decode c_Devices_interruptBits 11 = .ok (.ifCond .lt 9, 3) := by decide +kernel
theorem d_Devices_interruptBits_14 : decode c_Devices_interruptBits 14 = .ok (.sipush 128, 3) := by decide +kernel
theorem d_Devices_interruptBits_17 : decode c_Devices_interruptBits 17 = .ok (.goto 4, 3) := by decide +kernel
theorem d_Devices_interruptBits_20 : decode c_Devices_interruptBits 20 = .ok (.iconst 0, 1) := by decide +kernel
theorem d_Devices_interruptBits_21 : decode c_Devices_interruptBits 21 = .ok (.istore_n 1, 1) := by decide +kernel
theorem d_Devices_interruptBits_22 : decode c_Devices_interruptBits 22 = .ok (.aload_n 0, 1) := by decide +kernel
theorem d_Devices_interruptBits_23 : decode c_Devices_interruptBits 23 = .ok (.getfield 10, 3) := by decide +kernel
theorem d_Devices_interruptBits_26 : decode c_Devices_interruptBits 26 = .ok (.invokevirtual 48, 3) := by decide +kernel
theorem d_Devices_interruptBits_29 : decode c_Devices_interruptBits 29 = .ok (.ifCond .eq 9, 3) := by decide +kernel
theorem d_Devices_interruptBits_32 : decode c_Devices_interruptBits 32 = .ok (.sipush 2048, 3) := by decide +kernel
theorem d_Devices_interruptBits_35 : decode c_Devices_interruptBits 35 = .ok (.goto 4, 3) := by decide +kernel
theorem d_Devices_interruptBits_38 : decode c_Devices_interruptBits 38 = .ok (.iconst 0, 1) := by decide +kernel
theorem d_Devices_interruptBits_39 : decode c_Devices_interruptBits 39 = .ok (.istore_n 2, 1) := by decide +kernel
theorem d_Devices_interruptBits_40 : decode c_Devices_interruptBits 40 = .ok (.iload_n 1, 1) := by decide +kernel
theorem d_Devices_interruptBits_41 : decode c_Devices_interruptBits 41 = .ok (.iload_n 2, 1) := by decide +kernel
theorem d_Devices_interruptBits_42 : decode c_Devices_interruptBits 42 = .ok (.ior, 1) := by decide +kernel
theorem d_Devices_interruptBits_43 : decode c_Devices_interruptBits 43 = .ok (.ireturn, 1) := by decide +kernel
abbrev c_Devices_load : ByteArray := prog_7_method_4_code
def y_Devices_load : MethodName := ⟨"CycleChip$Devices", "load", "(I)I"⟩
theorem d_Devices_load_0 : decode c_Devices_load 0 = .ok (.iload_n 1, 1) := by decide +kernel
theorem d_Devices_load_1 : decode c_Devices_load 1 = .ok (.tableswitch 127 0 15 #[79, 85, 94, 100, 109, 109, 109, 109, 109, 127, 127, 127, 118, 118, 118, 118], 79) := by decide +kernel
theorem d_Devices_load_80 : decode c_Devices_load 80 = .ok (.aload_n 0, 1) := by decide +kernel
theorem d_Devices_load_81 : decode c_Devices_load 81 = .ok (.getfield 37, 3) := by decide +kernel
theorem d_Devices_load_84 : decode c_Devices_load 84 = .ok (.l2i, 1) := by decide +kernel
theorem d_Devices_load_85 : decode c_Devices_load 85 = .ok (.ireturn, 1) := by decide +kernel
theorem d_Devices_load_86 : decode c_Devices_load 86 = .ok (.aload_n 0, 1) := by decide +kernel
theorem d_Devices_load_87 : decode c_Devices_load 87 = .ok (.getfield 37, 3) := by decide +kernel
theorem d_Devices_load_90 : decode c_Devices_load 90 = .ok (.bipush 32, 2) := by decide +kernel
theorem d_Devices_load_92 : decode c_Devices_load 92 = .ok (.lshr, 1) := by decide +kernel
theorem d_Devices_load_93 : decode c_Devices_load 93 = .ok (.l2i, 1) := by decide +kernel
theorem d_Devices_load_94 : decode c_Devices_load 94 = .ok (.ireturn, 1) := by decide +kernel
theorem d_Devices_load_95 : decode c_Devices_load 95 = .ok (.aload_n 0, 1) := by decide +kernel
theorem d_Devices_load_96 : decode c_Devices_load 96 = .ok (.getfield 25, 3) := by decide +kernel
theorem d_Devices_load_99 : decode c_Devices_load 99 = .ok (.l2i, 1) := by decide +kernel
theorem d_Devices_load_100 : decode c_Devices_load 100 = .ok (.ireturn, 1) := by decide +kernel
theorem d_Devices_load_101 : decode c_Devices_load 101 = .ok (.aload_n 0, 1) := by decide +kernel
theorem d_Devices_load_102 : decode c_Devices_load 102 = .ok (.getfield 25, 3) := by decide +kernel
theorem d_Devices_load_105 : decode c_Devices_load 105 = .ok (.bipush 32, 2) := by decide +kernel
theorem d_Devices_load_107 : decode c_Devices_load 107 = .ok (.lshr, 1) := by decide +kernel
theorem d_Devices_load_108 : decode c_Devices_load 108 = .ok (.l2i, 1) := by decide +kernel
theorem d_Devices_load_109 : decode c_Devices_load 109 = .ok (.ireturn, 1) := by decide +kernel
theorem d_Devices_load_110 : decode c_Devices_load 110 = .ok (.aload_n 0, 1) := by decide +kernel
theorem d_Devices_load_111 : decode c_Devices_load 111 = .ok (.getfield 10, 3) := by decide +kernel
theorem d_Devices_load_114 : decode c_Devices_load 114 = .ok (.iload_n 1, 1) := by decide +kernel
theorem d_Devices_load_115 : decode c_Devices_load 115 = .ok (.invokevirtual 52, 3) := by decide +kernel
theorem d_Devices_load_118 : decode c_Devices_load 118 = .ok (.ireturn, 1) := by decide +kernel
theorem d_Devices_load_119 : decode c_Devices_load 119 = .ok (.aload_n 0, 1) := by decide +kernel
theorem d_Devices_load_120 : decode c_Devices_load 120 = .ok (.getfield 19, 3) := by decide +kernel
theorem d_Devices_load_123 : decode c_Devices_load 123 = .ok (.iload_n 1, 1) := by decide +kernel
theorem d_Devices_load_124 : decode c_Devices_load 124 = .ok (.invokevirtual 56, 3) := by decide +kernel
theorem d_Devices_load_127 : decode c_Devices_load 127 = .ok (.ireturn, 1) := by decide +kernel
theorem d_Devices_load_128 : decode c_Devices_load 128 = .ok (.iconst 0, 1) := by decide +kernel
theorem d_Devices_load_129 : decode c_Devices_load 129 = .ok (.ireturn, 1) := by decide +kernel
abbrev c_Devices_store : ByteArray := prog_7_method_5_code
def y_Devices_store : MethodName := ⟨"CycleChip$Devices", "store", "(II)V"⟩
theorem d_Devices_store_0 : decode c_Devices_store 0 = .ok (.iload_n 1, 1) := by decide +kernel
theorem d_Devices_store_1 : decode c_Devices_store 1 = .ok (.tableswitch 163 0 15 #[79, 94, 109, 124, 139, 139, 139, 139, 139, 163, 163, 163, 151, 151, 151, 151], 79) := by decide +kernel
theorem d_Devices_store_80 : decode c_Devices_store 80 = .ok (.aload_n 0, 1) := by decide +kernel
theorem d_Devices_store_81 : decode c_Devices_store 81 = .ok (.aload_n 0, 1) := by decide +kernel
theorem d_Devices_store_82 : decode c_Devices_store 82 = .ok (.getfield 37, 3) := by decide +kernel
theorem d_Devices_store_85 : decode c_Devices_store 85 = .ok (.iload_n 2, 1) := by decide +kernel
theorem d_Devices_store_86 : decode c_Devices_store 86 = .ok (.invokestatic 57, 3) := by decide +kernel
theorem d_Devices_store_89 : decode c_Devices_store 89 = .ok (.putfield 37, 3) := by decide +kernel
theorem d_Devices_store_92 : decode c_Devices_store 92 = .ok (.goto 72, 3) := by decide +kernel
theorem d_Devices_store_95 : decode c_Devices_store 95 = .ok (.aload_n 0, 1) := by decide +kernel
theorem d_Devices_store_96 : decode c_Devices_store 96 = .ok (.aload_n 0, 1) := by decide +kernel
theorem d_Devices_store_97 : decode c_Devices_store 97 = .ok (.getfield 37, 3) := by decide +kernel
theorem d_Devices_store_100 : decode c_Devices_store 100 = .ok (.iload_n 2, 1) := by decide +kernel
theorem d_Devices_store_101 : decode c_Devices_store 101 = .ok (.invokestatic 61, 3) := by decide +kernel
theorem d_Devices_store_104 : decode c_Devices_store 104 = .ok (.putfield 37, 3) := by decide +kernel
theorem d_Devices_store_107 : decode c_Devices_store 107 = .ok (.goto 57, 3) := by decide +kernel
theorem d_Devices_store_110 : decode c_Devices_store 110 = .ok (.aload_n 0, 1) := by decide +kernel
theorem d_Devices_store_111 : decode c_Devices_store 111 = .ok (.aload_n 0, 1) := by decide +kernel
theorem d_Devices_store_112 : decode c_Devices_store 112 = .ok (.getfield 25, 3) := by decide +kernel
theorem d_Devices_store_115 : decode c_Devices_store 115 = .ok (.iload_n 2, 1) := by decide +kernel
theorem d_Devices_store_116 : decode c_Devices_store 116 = .ok (.invokestatic 57, 3) := by decide +kernel
theorem d_Devices_store_119 : decode c_Devices_store 119 = .ok (.putfield 25, 3) := by decide +kernel
theorem d_Devices_store_122 : decode c_Devices_store 122 = .ok (.goto 42, 3) := by decide +kernel
theorem d_Devices_store_125 : decode c_Devices_store 125 = .ok (.aload_n 0, 1) := by decide +kernel
theorem d_Devices_store_126 : decode c_Devices_store 126 = .ok (.aload_n 0, 1) := by decide +kernel
theorem d_Devices_store_127 : decode c_Devices_store 127 = .ok (.getfield 25, 3) := by decide +kernel
theorem d_Devices_store_130 : decode c_Devices_store 130 = .ok (.iload_n 2, 1) := by decide +kernel
theorem d_Devices_store_131 : decode c_Devices_store 131 = .ok (.invokestatic 61, 3) := by decide +kernel
theorem d_Devices_store_134 : decode c_Devices_store 134 = .ok (.putfield 25, 3) := by decide +kernel
theorem d_Devices_store_137 : decode c_Devices_store 137 = .ok (.goto 27, 3) := by decide +kernel
theorem d_Devices_store_140 : decode c_Devices_store 140 = .ok (.aload_n 0, 1) := by decide +kernel
theorem d_Devices_store_141 : decode c_Devices_store 141 = .ok (.getfield 10, 3) := by decide +kernel
theorem d_Devices_store_144 : decode c_Devices_store 144 = .ok (.iload_n 1, 1) := by decide +kernel
theorem d_Devices_store_145 : decode c_Devices_store 145 = .ok (.iload_n 2, 1) := by decide +kernel
theorem d_Devices_store_146 : decode c_Devices_store 146 = .ok (.invokevirtual 64, 3) := by decide +kernel
theorem d_Devices_store_149 : decode c_Devices_store 149 = .ok (.goto 15, 3) := by decide +kernel
theorem d_Devices_store_152 : decode c_Devices_store 152 = .ok (.aload_n 0, 1) := by decide +kernel
theorem d_Devices_store_153 : decode c_Devices_store 153 = .ok (.getfield 19, 3) := by decide +kernel
theorem d_Devices_store_156 : decode c_Devices_store 156 = .ok (.iload_n 1, 1) := by decide +kernel
theorem d_Devices_store_157 : decode c_Devices_store 157 = .ok (.iload_n 2, 1) := by decide +kernel
theorem d_Devices_store_158 : decode c_Devices_store 158 = .ok (.invokevirtual 68, 3) := by decide +kernel
theorem d_Devices_store_161 : decode c_Devices_store 161 = .ok (.goto 3, 3) := by decide +kernel
theorem d_Devices_store_164 : decode c_Devices_store 164 = .ok (.return_, 1) := by decide +kernel
abbrev c_Devices_withLow : ByteArray := prog_7_method_6_code
def y_Devices_withLow : MethodName := ⟨"CycleChip$Devices", "withLow", "(JI)J"⟩
theorem d_Devices_withLow_0 : decode c_Devices_withLow 0 = .ok (.lload_n 0, 1) := by decide +kernel
theorem d_Devices_withLow_1 : decode c_Devices_withLow 1 = .ok (.ldc2_w 69, 3) := by decide +kernel
theorem d_Devices_withLow_4 : decode c_Devices_withLow 4 = .ok (.land, 1) := by decide +kernel
theorem d_Devices_withLow_5 : decode c_Devices_withLow 5 = .ok (.iload_n 2, 1) := by decide +kernel
theorem d_Devices_withLow_6 : decode c_Devices_withLow 6 = .ok (.i2l, 1) := by decide +kernel
theorem d_Devices_withLow_7 : decode c_Devices_withLow 7 = .ok (.ldc2_w 71, 3) := by decide +kernel
theorem d_Devices_withLow_10 : decode c_Devices_withLow 10 = .ok (.land, 1) := by decide +kernel
theorem d_Devices_withLow_11 : decode c_Devices_withLow 11 = .ok (.lor, 1) := by decide +kernel
theorem d_Devices_withLow_12 : decode c_Devices_withLow 12 = .ok (.lreturn, 1) := by decide +kernel
abbrev c_Devices_withHigh : ByteArray := prog_7_method_7_code
def y_Devices_withHigh : MethodName := ⟨"CycleChip$Devices", "withHigh", "(JI)J"⟩
theorem d_Devices_withHigh_0 : decode c_Devices_withHigh 0 = .ok (.lload_n 0, 1) := by decide +kernel
theorem d_Devices_withHigh_1 : decode c_Devices_withHigh 1 = .ok (.ldc2_w 71, 3) := by decide +kernel
theorem d_Devices_withHigh_4 : decode c_Devices_withHigh 4 = .ok (.land, 1) := by decide +kernel
theorem d_Devices_withHigh_5 : decode c_Devices_withHigh 5 = .ok (.iload_n 2, 1) := by decide +kernel
theorem d_Devices_withHigh_6 : decode c_Devices_withHigh 6 = .ok (.i2l, 1) := by decide +kernel
theorem d_Devices_withHigh_7 : decode c_Devices_withHigh 7 = .ok (.bipush 32, 2) := by decide +kernel
theorem d_Devices_withHigh_9 : decode c_Devices_withHigh 9 = .ok (.lshl, 1) := by decide +kernel
theorem d_Devices_withHigh_10 : decode c_Devices_withHigh 10 = .ok (.lor, 1) := by decide +kernel
theorem d_Devices_withHigh_11 : decode c_Devices_withHigh 11 = .ok (.lreturn, 1) := by decide +kernel
abbrev c_Events_init : ByteArray := prog_8_method_1_code
def y_Events_init : MethodName := ⟨"CycleChip$Events", "<init>", "()V"⟩
theorem d_Events_init_0 : decode c_Events_init 0 = .ok (.aload_n 0, 1) := by decide +kernel
theorem d_Events_init_1 : decode c_Events_init 1 = .ok (.invokespecial 1, 3) := by decide +kernel
theorem d_Events_init_4 : decode c_Events_init 4 = .ok (.aload_n 0, 1) := by decide +kernel
theorem d_Events_init_5 : decode c_Events_init 5 = .ok (.bipush 16, 2) := by decide +kernel
theorem d_Events_init_7 : decode c_Events_init 7 = .ok (.newarray .int, 2) := by decide +kernel
theorem d_Events_init_9 : decode c_Events_init 9 = .ok (.putfield 9, 3) := by decide +kernel
theorem d_Events_init_12 : decode c_Events_init 12 = .ok (.aload_n 0, 1) := by decide +kernel
theorem d_Events_init_13 : decode c_Events_init 13 = .ok (.bipush 16, 2) := by decide +kernel
theorem d_Events_init_15 : decode c_Events_init 15 = .ok (.newarray .int, 2) := by decide +kernel
theorem d_Events_init_17 : decode c_Events_init 17 = .ok (.putfield 13, 3) := by decide +kernel
theorem d_Events_init_20 : decode c_Events_init 20 = .ok (.aload_n 0, 1) := by decide +kernel
theorem d_Events_init_21 : decode c_Events_init 21 = .ok (.bipush 16, 2) := by decide +kernel
theorem d_Events_init_23 : decode c_Events_init 23 = .ok (.newarray .int, 2) := by decide +kernel
theorem d_Events_init_25 : decode c_Events_init 25 = .ok (.putfield 16, 3) := by decide +kernel
theorem d_Events_init_28 : decode c_Events_init 28 = .ok (.return_, 1) := by decide +kernel
abbrev c_Events_add : ByteArray := prog_8_method_2_code
def y_Events_add : MethodName := ⟨"CycleChip$Events", "add", "(III)Z"⟩
theorem d_Events_add_0 : decode c_Events_add 0 = .ok (.aload_n 0, 1) := by decide +kernel
theorem d_Events_add_1 : decode c_Events_add 1 = .ok (.getfield 19, 3) := by decide +kernel
theorem d_Events_add_4 : decode c_Events_add 4 = .ok (.bipush 16, 2) := by decide +kernel
theorem d_Events_add_6 : decode c_Events_add 6 = .ok (.if_icmp .lt 5, 3) := by decide +kernel
theorem d_Events_add_9 : decode c_Events_add 9 = .ok (.iconst 0, 1) := by decide +kernel
theorem d_Events_add_10 : decode c_Events_add 10 = .ok (.ireturn, 1) := by decide +kernel
theorem d_Events_add_11 : decode c_Events_add 11 = .ok (.aload_n 0, 1) := by decide +kernel
theorem d_Events_add_12 : decode c_Events_add 12 = .ok (.getfield 9, 3) := by decide +kernel
theorem d_Events_add_15 : decode c_Events_add 15 = .ok (.aload_n 0, 1) := by decide +kernel
theorem d_Events_add_16 : decode c_Events_add 16 = .ok (.getfield 19, 3) := by decide +kernel
theorem d_Events_add_19 : decode c_Events_add 19 = .ok (.iload_n 1, 1) := by decide +kernel
theorem d_Events_add_20 : decode c_Events_add 20 = .ok (.iastore, 1) := by decide +kernel
theorem d_Events_add_21 : decode c_Events_add 21 = .ok (.aload_n 0, 1) := by decide +kernel
theorem d_Events_add_22 : decode c_Events_add 22 = .ok (.getfield 13, 3) := by decide +kernel
theorem d_Events_add_25 : decode c_Events_add 25 = .ok (.aload_n 0, 1) := by decide +kernel
theorem d_Events_add_26 : decode c_Events_add 26 = .ok (.getfield 19, 3) := by decide +kernel
theorem d_Events_add_29 : decode c_Events_add 29 = .ok (.iload_n 2, 1) := by decide +kernel
theorem d_Events_add_30 : decode c_Events_add 30 = .ok (.iastore, 1) := by decide +kernel
theorem d_Events_add_31 : decode c_Events_add 31 = .ok (.aload_n 0, 1) := by decide +kernel
theorem d_Events_add_32 : decode c_Events_add 32 = .ok (.getfield 16, 3) := by decide +kernel
theorem d_Events_add_35 : decode c_Events_add 35 = .ok (.aload_n 0, 1) := by decide +kernel
theorem d_Events_add_36 : decode c_Events_add 36 = .ok (.getfield 19, 3) := by decide +kernel
theorem d_Events_add_39 : decode c_Events_add 39 = .ok (.iload_n 3, 1) := by decide +kernel
theorem d_Events_add_40 : decode c_Events_add 40 = .ok (.iastore, 1) := by decide +kernel
theorem d_Events_add_41 : decode c_Events_add 41 = .ok (.aload_n 0, 1) := by decide +kernel
theorem d_Events_add_42 : decode c_Events_add 42 = .ok (.dup, 1) := by decide +kernel
theorem d_Events_add_43 : decode c_Events_add 43 = .ok (.getfield 19, 3) := by decide +kernel
theorem d_Events_add_46 : decode c_Events_add 46 = .ok (.iconst 1, 1) := by decide +kernel
theorem d_Events_add_47 : decode c_Events_add 47 = .ok (.iadd, 1) := by decide +kernel
theorem d_Events_add_48 : decode c_Events_add 48 = .ok (.putfield 19, 3) := by decide +kernel
theorem d_Events_add_51 : decode c_Events_add 51 = .ok (.iconst 1, 1) := by decide +kernel
theorem d_Events_add_52 : decode c_Events_add 52 = .ok (.ireturn, 1) := by decide +kernel
abbrev c_Events_happen : ByteArray := prog_8_method_3_code
def y_Events_happen : MethodName := ⟨"CycleChip$Events", "happen", "(ILCycleChip$Devices;)V"⟩
theorem d_Events_happen_0 : decode c_Events_happen 0 = .ok (.iconst 0, 1) := by decide +kernel
theorem d_Events_happen_1 : decode c_Events_happen 1 = .ok (.istore_n 3, 1) := by decide +kernel
theorem d_Events_happen_2 : decode c_Events_happen 2 = .ok (.iconst 0, 1) := by decide +kernel
theorem d_Events_happen_3 : decode c_Events_happen 3 = .ok (.istore 4, 2) := by decide +kernel
theorem d_Events_happen_5 : decode c_Events_happen 5 = .ok (.iload 4, 2) := by decide +kernel
theorem d_Events_happen_7 : decode c_Events_happen 7 = .ok (.aload_n 0, 1) := by decide +kernel
theorem d_Events_happen_8 : decode c_Events_happen 8 = .ok (.getfield 19, 3) := by decide +kernel
theorem d_Events_happen_11 : decode c_Events_happen 11 = .ok (.if_icmp .ge 83, 3) := by decide +kernel
theorem d_Events_happen_14 : decode c_Events_happen 14 = .ok (.aload_n 0, 1) := by decide +kernel
theorem d_Events_happen_15 : decode c_Events_happen 15 = .ok (.getfield 9, 3) := by decide +kernel
theorem d_Events_happen_18 : decode c_Events_happen 18 = .ok (.iload 4, 2) := by decide +kernel
theorem d_Events_happen_20 : decode c_Events_happen 20 = .ok (.iaload, 1) := by decide +kernel
theorem d_Events_happen_21 : decode c_Events_happen 21 = .ok (.iload_n 1, 1) := by decide +kernel
theorem d_Events_happen_22 : decode c_Events_happen 22 = .ok (.if_icmp .ne 24, 3) := by decide +kernel
theorem d_Events_happen_25 : decode c_Events_happen 25 = .ok (.aload_n 2, 1) := by decide +kernel
theorem d_Events_happen_26 : decode c_Events_happen 26 = .ok (.aload_n 0, 1) := by decide +kernel
theorem d_Events_happen_27 : decode c_Events_happen 27 = .ok (.getfield 13, 3) := by decide +kernel
theorem d_Events_happen_30 : decode c_Events_happen 30 = .ok (.iload 4, 2) := by decide +kernel
theorem d_Events_happen_32 : decode c_Events_happen 32 = .ok (.iaload, 1) := by decide +kernel
theorem d_Events_happen_33 : decode c_Events_happen 33 = .ok (.aload_n 0, 1) := by decide +kernel
theorem d_Events_happen_34 : decode c_Events_happen 34 = .ok (.getfield 16, 3) := by decide +kernel
theorem d_Events_happen_37 : decode c_Events_happen 37 = .ok (.iload 4, 2) := by decide +kernel
theorem d_Events_happen_39 : decode c_Events_happen 39 = .ok (.iaload, 1) := by decide +kernel
theorem d_Events_happen_40 : decode c_Events_happen 40 = .ok (.invokevirtual 23, 3) := by decide +kernel
theorem d_Events_happen_43 : decode c_Events_happen 43 = .ok (.goto 45, 3) := by decide +kernel
theorem d_Events_happen_46 : decode c_Events_happen 46 = .ok (.aload_n 0, 1) := by decide +kernel
theorem d_Events_happen_47 : decode c_Events_happen 47 = .ok (.getfield 9, 3) := by decide +kernel
theorem d_Events_happen_50 : decode c_Events_happen 50 = .ok (.iload_n 3, 1) := by decide +kernel
theorem d_Events_happen_51 : decode c_Events_happen 51 = .ok (.aload_n 0, 1) := by decide +kernel
theorem d_Events_happen_52 : decode c_Events_happen 52 = .ok (.getfield 9, 3) := by decide +kernel
theorem d_Events_happen_55 : decode c_Events_happen 55 = .ok (.iload 4, 2) := by decide +kernel
theorem d_Events_happen_57 : decode c_Events_happen 57 = .ok (.iaload, 1) := by decide +kernel
theorem d_Events_happen_58 : decode c_Events_happen 58 = .ok (.iastore, 1) := by decide +kernel
theorem d_Events_happen_59 : decode c_Events_happen 59 = .ok (.aload_n 0, 1) := by decide +kernel
theorem d_Events_happen_60 : decode c_Events_happen 60 = .ok (.getfield 13, 3) := by decide +kernel
theorem d_Events_happen_63 : decode c_Events_happen 63 = .ok (.iload_n 3, 1) := by decide +kernel
theorem d_Events_happen_64 : decode c_Events_happen 64 = .ok (.aload_n 0, 1) := by decide +kernel
theorem d_Events_happen_65 : decode c_Events_happen 65 = .ok (.getfield 13, 3) := by decide +kernel
theorem d_Events_happen_68 : decode c_Events_happen 68 = .ok (.iload 4, 2) := by decide +kernel
theorem d_Events_happen_70 : decode c_Events_happen 70 = .ok (.iaload, 1) := by decide +kernel
theorem d_Events_happen_71 : decode c_Events_happen 71 = .ok (.iastore, 1) := by decide +kernel
theorem d_Events_happen_72 : decode c_Events_happen 72 = .ok (.aload_n 0, 1) := by decide +kernel
theorem d_Events_happen_73 : decode c_Events_happen 73 = .ok (.getfield 16, 3) := by decide +kernel
theorem d_Events_happen_76 : decode c_Events_happen 76 = .ok (.iload_n 3, 1) := by decide +kernel
theorem d_Events_happen_77 : decode c_Events_happen 77 = .ok (.aload_n 0, 1) := by decide +kernel
theorem d_Events_happen_78 : decode c_Events_happen 78 = .ok (.getfield 16, 3) := by decide +kernel
theorem d_Events_happen_81 : decode c_Events_happen 81 = .ok (.iload 4, 2) := by decide +kernel
theorem d_Events_happen_83 : decode c_Events_happen 83 = .ok (.iaload, 1) := by decide +kernel
theorem d_Events_happen_84 : decode c_Events_happen 84 = .ok (.iastore, 1) := by decide +kernel
theorem d_Events_happen_85 : decode c_Events_happen 85 = .ok (.iinc 3 1, 3) := by decide +kernel
theorem d_Events_happen_88 : decode c_Events_happen 88 = .ok (.iinc 4 1, 3) := by decide +kernel
theorem d_Events_happen_91 : decode c_Events_happen 91 = .ok (.goto (-86), 3) := by decide +kernel
theorem d_Events_happen_94 : decode c_Events_happen 94 = .ok (.aload_n 0, 1) := by decide +kernel
theorem d_Events_happen_95 : decode c_Events_happen 95 = .ok (.iload_n 3, 1) := by decide +kernel
theorem d_Events_happen_96 : decode c_Events_happen 96 = .ok (.putfield 19, 3) := by decide +kernel
theorem d_Events_happen_99 : decode c_Events_happen 99 = .ok (.return_, 1) := by decide +kernel
abbrev c_Interrupts_init : ByteArray := prog_9_method_1_code
def y_Interrupts_init : MethodName := ⟨"CycleChip$Interrupts", "<init>", "()V"⟩
theorem d_Interrupts_init_0 : decode c_Interrupts_init 0 = .ok (.aload_n 0, 1) := by decide +kernel
theorem d_Interrupts_init_1 : decode c_Interrupts_init 1 = .ok (.invokespecial 1, 3) := by decide +kernel
theorem d_Interrupts_init_4 : decode c_Interrupts_init 4 = .ok (.return_, 1) := by decide +kernel
abbrev c_Interrupts_setLine : ByteArray := prog_9_method_2_code
def y_Interrupts_setLine : MethodName := ⟨"CycleChip$Interrupts", "setLine", "(IZ)V"⟩
theorem d_Interrupts_setLine_0 : decode c_Interrupts_setLine 0 = .ok (.aload_n 0, 1) := by decide +kernel
theorem d_Interrupts_setLine_1 : decode c_Interrupts_setLine 1 = .ok (.iload_n 2, 1) := by decide +kernel
theorem d_Interrupts_setLine_2 : decode c_Interrupts_setLine 2 = .ok (.ifCond .eq 14, 3) := by decide +kernel
theorem d_Interrupts_setLine_5 : decode c_Interrupts_setLine 5 = .ok (.aload_n 0, 1) := by decide +kernel
theorem d_Interrupts_setLine_6 : decode c_Interrupts_setLine 6 = .ok (.getfield 7, 3) := by decide +kernel
theorem d_Interrupts_setLine_9 : decode c_Interrupts_setLine 9 = .ok (.iconst 1, 1) := by decide +kernel
theorem d_Interrupts_setLine_10 : decode c_Interrupts_setLine 10 = .ok (.iload_n 1, 1) := by decide +kernel
theorem d_Interrupts_setLine_11 : decode c_Interrupts_setLine 11 = .ok (.ishl, 1) := by decide +kernel
theorem d_Interrupts_setLine_12 : decode c_Interrupts_setLine 12 = .ok (.ior, 1) := by decide +kernel
theorem d_Interrupts_setLine_13 : decode c_Interrupts_setLine 13 = .ok (.goto 13, 3) := by decide +kernel
theorem d_Interrupts_setLine_16 : decode c_Interrupts_setLine 16 = .ok (.aload_n 0, 1) := by decide +kernel
theorem d_Interrupts_setLine_17 : decode c_Interrupts_setLine 17 = .ok (.getfield 7, 3) := by decide +kernel
theorem d_Interrupts_setLine_20 : decode c_Interrupts_setLine 20 = .ok (.iconst 1, 1) := by decide +kernel
theorem d_Interrupts_setLine_21 : decode c_Interrupts_setLine 21 = .ok (.iload_n 1, 1) := by decide +kernel
theorem d_Interrupts_setLine_22 : decode c_Interrupts_setLine 22 = .ok (.ishl, 1) := by decide +kernel
theorem d_Interrupts_setLine_23 : decode c_Interrupts_setLine 23 = .ok (.iconst (-1), 1) := by decide +kernel
theorem d_Interrupts_setLine_24 : decode c_Interrupts_setLine 24 = .ok (.ixor, 1) := by decide +kernel
theorem d_Interrupts_setLine_25 : decode c_Interrupts_setLine 25 = .ok (.iand, 1) := by decide +kernel
theorem d_Interrupts_setLine_26 : decode c_Interrupts_setLine 26 = .ok (.putfield 7, 3) := by decide +kernel
theorem d_Interrupts_setLine_29 : decode c_Interrupts_setLine 29 = .ok (.return_, 1) := by decide +kernel
abbrev c_Interrupts_gather : ByteArray := prog_9_method_3_code
def y_Interrupts_gather : MethodName := ⟨"CycleChip$Interrupts", "gather", "(Z)V"⟩
theorem d_Interrupts_gather_0 : decode c_Interrupts_gather 0 = .ok (.aload_n 0, 1) := by decide +kernel
theorem d_Interrupts_gather_1 : decode c_Interrupts_gather 1 = .ok (.getfield 7, 3) := by decide +kernel
theorem d_Interrupts_gather_4 : decode c_Interrupts_gather 4 = .ok (.iload_n 1, 1) := by decide +kernel
theorem d_Interrupts_gather_5 : decode c_Interrupts_gather 5 = .ok (.ifCond .eq 7, 3) := by decide +kernel
theorem d_Interrupts_gather_8 : decode c_Interrupts_gather 8 = .ok (.iconst 2, 1) := by decide +kernel
theorem d_Interrupts_gather_9 : decode c_Interrupts_gather 9 = .ok (.goto 4, 3) := by decide +kernel
theorem d_Interrupts_gather_12 : decode c_Interrupts_gather 12 = .ok (.iconst 0, 1) := by decide +kernel
theorem d_Interrupts_gather_13 : decode c_Interrupts_gather 13 = .ok (.ior, 1) := by decide +kernel
theorem d_Interrupts_gather_14 : decode c_Interrupts_gather 14 = .ok (.istore_n 2, 1) := by decide +kernel
theorem d_Interrupts_gather_15 : decode c_Interrupts_gather 15 = .ok (.aload_n 0, 1) := by decide +kernel
theorem d_Interrupts_gather_16 : decode c_Interrupts_gather 16 = .ok (.dup, 1) := by decide +kernel
theorem d_Interrupts_gather_17 : decode c_Interrupts_gather 17 = .ok (.getfield 13, 3) := by decide +kernel
theorem d_Interrupts_gather_20 : decode c_Interrupts_gather 20 = .ok (.iload_n 2, 1) := by decide +kernel
theorem d_Interrupts_gather_21 : decode c_Interrupts_gather 21 = .ok (.aload_n 0, 1) := by decide +kernel
theorem d_Interrupts_gather_22 : decode c_Interrupts_gather 22 = .ok (.getfield 16, 3) := by decide +kernel
theorem d_Interrupts_gather_25 : decode c_Interrupts_gather 25 = .ok (.iconst (-1), 1) := by decide +kernel
theorem d_Interrupts_gather_26 : decode c_Interrupts_gather 26 = .ok (.ixor, 1) := by decide +kernel
theorem d_Interrupts_gather_27 : decode c_Interrupts_gather 27 = .ok (.iand, 1) := by decide +kernel
theorem d_Interrupts_gather_28 : decode c_Interrupts_gather 28 = .ok (.ior, 1) := by decide +kernel
theorem d_Interrupts_gather_29 : decode c_Interrupts_gather 29 = .ok (.putfield 13, 3) := by decide +kernel
theorem d_Interrupts_gather_32 : decode c_Interrupts_gather 32 = .ok (.return_, 1) := by decide +kernel
abbrev c_Interrupts_firstRaised : ByteArray := prog_9_method_4_code
def y_Interrupts_firstRaised : MethodName := ⟨"CycleChip$Interrupts", "firstRaised", "()I"⟩
theorem d_Interrupts_firstRaised_0 : decode c_Interrupts_firstRaised 0 = .ok (.aload_n 0, 1) := by decide +kernel
theorem d_Interrupts_firstRaised_1 : decode c_Interrupts_firstRaised 1 = .ok (.getfield 13, 3) := by decide +kernel
theorem d_Interrupts_firstRaised_4 : decode c_Interrupts_firstRaised 4 = .ok (.aload_n 0, 1) := by decide +kernel
theorem d_Interrupts_firstRaised_5 : decode c_Interrupts_firstRaised 5 = .ok (.getfield 19, 3) := by decide +kernel
theorem d_Interrupts_firstRaised_8 : decode c_Interrupts_firstRaised 8 = .ok (.iand, 1) := by decide +kernel
theorem d_Interrupts_firstRaised_9 : decode c_Interrupts_firstRaised 9 = .ok (.istore_n 1, 1) := by decide +kernel
theorem d_Interrupts_firstRaised_10 : decode c_Interrupts_firstRaised 10 = .ok (.iconst 0, 1) := by decide +kernel
theorem d_Interrupts_firstRaised_11 : decode c_Interrupts_firstRaised 11 = .ok (.istore_n 2, 1) := by decide +kernel
theorem d_Interrupts_firstRaised_12 : decode c_Interrupts_firstRaised 12 = .ok (.aload_n 0, 1) := by decide +kernel
theorem d_Interrupts_firstRaised_13 : decode c_Interrupts_firstRaised 13 = .ok (.getfield 22, 3) := by decide +kernel
theorem d_Interrupts_firstRaised_16 : decode c_Interrupts_firstRaised 16 = .ok (.istore_n 3, 1) := by decide +kernel
theorem d_Interrupts_firstRaised_17 : decode c_Interrupts_firstRaised 17 = .ok (.iconst 1, 1) := by decide +kernel
theorem d_Interrupts_firstRaised_18 : decode c_Interrupts_firstRaised 18 = .ok (.istore 4, 2) := by decide +kernel
theorem d_Interrupts_firstRaised_20 : decode c_Interrupts_firstRaised 20 = .ok (.iload 4, 2) := by decide +kernel
theorem d_Interrupts_firstRaised_22 : decode c_Interrupts_firstRaised 22 = .ok (.bipush 7, 2) := by decide +kernel
theorem d_Interrupts_firstRaised_24 : decode c_Interrupts_firstRaised 24 = .ok (.if_icmp .gt 48, 3) := by decide +kernel
theorem d_Interrupts_firstRaised_27 : decode c_Interrupts_firstRaised 27 = .ok (.iload_n 1, 1) := by decide +kernel
theorem d_Interrupts_firstRaised_28 : decode c_Interrupts_firstRaised 28 = .ok (.ifCond .eq 44, 3) := by decide +kernel
theorem d_Interrupts_firstRaised_31 : decode c_Interrupts_firstRaised 31 = .ok (.aload_n 0, 1) := by decide +kernel
theorem d_Interrupts_firstRaised_32 : decode c_Interrupts_firstRaised 32 = .ok (.getfield 25, 3) := by decide +kernel
theorem d_Interrupts_firstRaised_35 : decode c_Interrupts_firstRaised 35 = .ok (.iconst 4, 1) := by decide +kernel
theorem d_Interrupts_firstRaised_36 : decode c_Interrupts_firstRaised 36 = .ok (.iload 4, 2) := by decide +kernel
theorem d_Interrupts_firstRaised_38 : decode c_Interrupts_firstRaised 38 = .ok (.imul, 1) := by decide +kernel
theorem d_Interrupts_firstRaised_39 : decode c_Interrupts_firstRaised 39 = .ok (.ishr, 1) := by decide +kernel
theorem d_Interrupts_firstRaised_40 : decode c_Interrupts_firstRaised 40 = .ok (.bipush 7, 2) := by decide +kernel
theorem d_Interrupts_firstRaised_42 : decode c_Interrupts_firstRaised 42 = .ok (.iand, 1) := by decide +kernel
theorem d_Interrupts_firstRaised_43 : decode c_Interrupts_firstRaised 43 = .ok (.istore 5, 2) := by decide +kernel
theorem d_Interrupts_firstRaised_45 : decode c_Interrupts_firstRaised 45 = .ok (.iload_n 1, 1) := by decide +kernel
theorem d_Interrupts_firstRaised_46 : decode c_Interrupts_firstRaised 46 = .ok (.iload 4, 2) := by decide +kernel
theorem d_Interrupts_firstRaised_48 : decode c_Interrupts_firstRaised 48 = .ok (.ishr, 1) := by decide +kernel
theorem d_Interrupts_firstRaised_49 : decode c_Interrupts_firstRaised 49 = .ok (.iconst 1, 1) := by decide +kernel
theorem d_Interrupts_firstRaised_50 : decode c_Interrupts_firstRaised 50 = .ok (.iand, 1) := by decide +kernel
theorem d_Interrupts_firstRaised_51 : decode c_Interrupts_firstRaised 51 = .ok (.ifCond .eq 15, 3) := by decide +kernel
theorem d_Interrupts_firstRaised_54 : decode c_Interrupts_firstRaised 54 = .ok (.iload 5, 2) := by decide +kernel
theorem d_Interrupts_firstRaised_56 : decode c_Interrupts_firstRaised 56 = .ok (.iload_n 3, 1) := by decide +kernel
theorem d_Interrupts_firstRaised_57 : decode c_Interrupts_firstRaised 57 = .ok (.if_icmp .le 9, 3) := by decide +kernel
theorem d_Interrupts_firstRaised_60 : decode c_Interrupts_firstRaised 60 = .ok (.iload 4, 2) := by decide +kernel
theorem d_Interrupts_firstRaised_62 : decode c_Interrupts_firstRaised 62 = .ok (.istore_n 2, 1) := by decide +kernel
theorem d_Interrupts_firstRaised_63 : decode c_Interrupts_firstRaised 63 = .ok (.iload 5, 2) := by decide +kernel
theorem d_Interrupts_firstRaised_65 : decode c_Interrupts_firstRaised 65 = .ok (.istore_n 3, 1) := by decide +kernel
theorem d_Interrupts_firstRaised_66 : decode c_Interrupts_firstRaised 66 = .ok (.iinc 4 1, 3) := by decide +kernel
theorem d_Interrupts_firstRaised_69 : decode c_Interrupts_firstRaised 69 = .ok (.goto (-49), 3) := by decide +kernel
theorem d_Interrupts_firstRaised_72 : decode c_Interrupts_firstRaised 72 = .ok (.iload_n 2, 1) := by decide +kernel
theorem d_Interrupts_firstRaised_73 : decode c_Interrupts_firstRaised 73 = .ok (.ireturn, 1) := by decide +kernel
abbrev c_Interrupts_load : ByteArray := prog_9_method_5_code
def y_Interrupts_load : MethodName := ⟨"CycleChip$Interrupts", "load", "(I)I"⟩
theorem d_Interrupts_load_0 : decode c_Interrupts_load 0 = .ok (.iload_n 1, 1) := by decide +kernel
theorem d_Interrupts_load_1 : decode c_Interrupts_load 1 = .ok (.tableswitch 51 4 7 #[31, 36, 41, 46], 31) := by decide +kernel
theorem d_Interrupts_load_32 : decode c_Interrupts_load 32 = .ok (.aload_n 0, 1) := by decide +kernel
theorem d_Interrupts_load_33 : decode c_Interrupts_load 33 = .ok (.getfield 19, 3) := by decide +kernel
theorem d_Interrupts_load_36 : decode c_Interrupts_load 36 = .ok (.ireturn, 1) := by decide +kernel
theorem d_Interrupts_load_37 : decode c_Interrupts_load 37 = .ok (.aload_n 0, 1) := by decide +kernel
theorem d_Interrupts_load_38 : decode c_Interrupts_load 38 = .ok (.getfield 22, 3) := by decide +kernel
theorem d_Interrupts_load_41 : decode c_Interrupts_load 41 = .ok (.ireturn, 1) := by decide +kernel
theorem d_Interrupts_load_42 : decode c_Interrupts_load 42 = .ok (.aload_n 0, 1) := by decide +kernel
theorem d_Interrupts_load_43 : decode c_Interrupts_load 43 = .ok (.invokevirtual 28, 3) := by decide +kernel
theorem d_Interrupts_load_46 : decode c_Interrupts_load 46 = .ok (.ireturn, 1) := by decide +kernel
theorem d_Interrupts_load_47 : decode c_Interrupts_load 47 = .ok (.aload_n 0, 1) := by decide +kernel
theorem d_Interrupts_load_48 : decode c_Interrupts_load 48 = .ok (.getfield 13, 3) := by decide +kernel
theorem d_Interrupts_load_51 : decode c_Interrupts_load 51 = .ok (.ireturn, 1) := by decide +kernel
theorem d_Interrupts_load_52 : decode c_Interrupts_load 52 = .ok (.aload_n 0, 1) := by decide +kernel
theorem d_Interrupts_load_53 : decode c_Interrupts_load 53 = .ok (.getfield 25, 3) := by decide +kernel
theorem d_Interrupts_load_56 : decode c_Interrupts_load 56 = .ok (.ireturn, 1) := by decide +kernel
abbrev c_Interrupts_store : ByteArray := prog_9_method_6_code
def y_Interrupts_store : MethodName := ⟨"CycleChip$Interrupts", "store", "(II)V"⟩
theorem d_Interrupts_store_0 : decode c_Interrupts_store 0 = .ok (.iload_n 1, 1) := by decide +kernel
theorem d_Interrupts_store_1 : decode c_Interrupts_store 1 = .ok (.tableswitch 77 4 8 #[35, 47, 58, 77, 66], 35) := by decide +kernel
theorem d_Interrupts_store_36 : decode c_Interrupts_store 36 = .ok (.aload_n 0, 1) := by decide +kernel
theorem d_Interrupts_store_37 : decode c_Interrupts_store 37 = .ok (.iload_n 2, 1) := by decide +kernel
theorem d_Interrupts_store_38 : decode c_Interrupts_store 38 = .ok (.sipush 254, 3) := by decide +kernel
theorem d_Interrupts_store_41 : decode c_Interrupts_store 41 = .ok (.iand, 1) := by decide +kernel
theorem d_Interrupts_store_42 : decode c_Interrupts_store 42 = .ok (.putfield 19, 3) := by decide +kernel
theorem d_Interrupts_store_45 : decode c_Interrupts_store 45 = .ok (.goto 33, 3) := by decide +kernel
theorem d_Interrupts_store_48 : decode c_Interrupts_store 48 = .ok (.aload_n 0, 1) := by decide +kernel
theorem d_Interrupts_store_49 : decode c_Interrupts_store 49 = .ok (.iload_n 2, 1) := by decide +kernel
theorem d_Interrupts_store_50 : decode c_Interrupts_store 50 = .ok (.bipush 7, 2) := by decide +kernel
theorem d_Interrupts_store_52 : decode c_Interrupts_store 52 = .ok (.iand, 1) := by decide +kernel
theorem d_Interrupts_store_53 : decode c_Interrupts_store 53 = .ok (.putfield 22, 3) := by decide +kernel
theorem d_Interrupts_store_56 : decode c_Interrupts_store 56 = .ok (.goto 22, 3) := by decide +kernel
theorem d_Interrupts_store_59 : decode c_Interrupts_store 59 = .ok (.aload_n 0, 1) := by decide +kernel
theorem d_Interrupts_store_60 : decode c_Interrupts_store 60 = .ok (.iload_n 2, 1) := by decide +kernel
theorem d_Interrupts_store_61 : decode c_Interrupts_store 61 = .ok (.invokevirtual 32, 3) := by decide +kernel
theorem d_Interrupts_store_64 : decode c_Interrupts_store 64 = .ok (.goto 14, 3) := by decide +kernel
theorem d_Interrupts_store_67 : decode c_Interrupts_store 67 = .ok (.aload_n 0, 1) := by decide +kernel
theorem d_Interrupts_store_68 : decode c_Interrupts_store 68 = .ok (.iload_n 2, 1) := by decide +kernel
theorem d_Interrupts_store_69 : decode c_Interrupts_store 69 = .ok (.ldc 36, 2) := by decide +kernel
theorem d_Interrupts_store_71 : decode c_Interrupts_store 71 = .ok (.iand, 1) := by decide +kernel
theorem d_Interrupts_store_72 : decode c_Interrupts_store 72 = .ok (.putfield 25, 3) := by decide +kernel
theorem d_Interrupts_store_75 : decode c_Interrupts_store 75 = .ok (.goto 3, 3) := by decide +kernel
theorem d_Interrupts_store_78 : decode c_Interrupts_store 78 = .ok (.return_, 1) := by decide +kernel
abbrev c_Interrupts_claim : ByteArray := prog_9_method_7_code
def y_Interrupts_claim : MethodName := ⟨"CycleChip$Interrupts", "claim", "()I"⟩
theorem d_Interrupts_claim_0 : decode c_Interrupts_claim 0 = .ok (.aload_n 0, 1) := by decide +kernel
theorem d_Interrupts_claim_1 : decode c_Interrupts_claim 1 = .ok (.invokevirtual 37, 3) := by decide +kernel
theorem d_Interrupts_claim_4 : decode c_Interrupts_claim 4 = .ok (.istore_n 1, 1) := by decide +kernel
theorem d_Interrupts_claim_5 : decode c_Interrupts_claim 5 = .ok (.iload_n 1, 1) := by decide +kernel
theorem d_Interrupts_claim_6 : decode c_Interrupts_claim 6 = .ok (.ifCond .eq 29, 3) := by decide +kernel
theorem d_Interrupts_claim_9 : decode c_Interrupts_claim 9 = .ok (.aload_n 0, 1) := by decide +kernel
theorem d_Interrupts_claim_10 : decode c_Interrupts_claim 10 = .ok (.dup, 1) := by decide +kernel
theorem d_Interrupts_claim_11 : decode c_Interrupts_claim 11 = .ok (.getfield 13, 3) := by decide +kernel
theorem d_Interrupts_claim_14 : decode c_Interrupts_claim 14 = .ok (.iconst 1, 1) := by decide +kernel
theorem d_Interrupts_claim_15 : decode c_Interrupts_claim 15 = .ok (.iload_n 1, 1) := by decide +kernel
theorem d_Interrupts_claim_16 : decode c_Interrupts_claim 16 = .ok (.ishl, 1) := by decide +kernel
theorem d_Interrupts_claim_17 : decode c_Interrupts_claim 17 = .ok (.iconst (-1), 1) := by decide +kernel
theorem d_Interrupts_claim_18 : decode c_Interrupts_claim 18 = .ok (.ixor, 1) := by decide +kernel
theorem d_Interrupts_claim_19 : decode c_Interrupts_claim 19 = .ok (.iand, 1) := by decide +kernel
theorem d_Interrupts_claim_20 : decode c_Interrupts_claim 20 = .ok (.putfield 13, 3) := by decide +kernel
theorem d_Interrupts_claim_23 : decode c_Interrupts_claim 23 = .ok (.aload_n 0, 1) := by decide +kernel
theorem d_Interrupts_claim_24 : decode c_Interrupts_claim 24 = .ok (.dup, 1) := by decide +kernel
theorem d_Interrupts_claim_25 : decode c_Interrupts_claim 25 = .ok (.getfield 16, 3) := by decide +kernel
theorem d_Interrupts_claim_28 : decode c_Interrupts_claim 28 = .ok (.iconst 1, 1) := by decide +kernel
theorem d_Interrupts_claim_29 : decode c_Interrupts_claim 29 = .ok (.iload_n 1, 1) := by decide +kernel
theorem d_Interrupts_claim_30 : decode c_Interrupts_claim 30 = .ok (.ishl, 1) := by decide +kernel
theorem d_Interrupts_claim_31 : decode c_Interrupts_claim 31 = .ok (.ior, 1) := by decide +kernel
theorem d_Interrupts_claim_32 : decode c_Interrupts_claim 32 = .ok (.putfield 16, 3) := by decide +kernel
theorem d_Interrupts_claim_35 : decode c_Interrupts_claim 35 = .ok (.iload_n 1, 1) := by decide +kernel
theorem d_Interrupts_claim_36 : decode c_Interrupts_claim 36 = .ok (.ireturn, 1) := by decide +kernel
abbrev c_Interrupts_endService : ByteArray := prog_9_method_8_code
def y_Interrupts_endService : MethodName := ⟨"CycleChip$Interrupts", "endService", "(I)V"⟩
theorem d_Interrupts_endService_0 : decode c_Interrupts_endService 0 = .ok (.iload_n 1, 1) := by decide +kernel
theorem d_Interrupts_endService_1 : decode c_Interrupts_endService 1 = .ok (.iconst 1, 1) := by decide +kernel
theorem d_Interrupts_endService_2 : decode c_Interrupts_endService 2 = .ok (.if_icmp .lt 23, 3) := by decide +kernel
theorem d_Interrupts_endService_5 : decode c_Interrupts_endService 5 = .ok (.iload_n 1, 1) := by decide +kernel
theorem d_Interrupts_endService_6 : decode c_Interrupts_endService 6 = .ok (.bipush 7, 2) := by decide +kernel
theorem d_Interrupts_endService_8 : decode c_Interrupts_endService 8 = .ok (.if_icmp .gt 17, 3) := by decide +kernel
theorem d_Interrupts_endService_11 : decode c_Interrupts_endService 11 = .ok (.aload_n 0, 1) := by decide +kernel
theorem d_Interrupts_endService_12 : decode c_Interrupts_endService 12 = .ok (.dup, 1) := by decide +kernel
theorem d_Interrupts_endService_13 : decode c_Interrupts_endService 13 = .ok (.getfield 16, 3) := by decide +kernel
theorem d_Interrupts_endService_16 : decode c_Interrupts_endService 16 = .ok (.iconst 1, 1) := by decide +kernel
theorem d_Interrupts_endService_17 : decode c_Interrupts_endService 17 = .ok (.iload_n 1, 1) := by decide +kernel
theorem d_Interrupts_endService_18 : decode c_Interrupts_endService 18 = .ok (.ishl, 1) := by decide +kernel
theorem d_Interrupts_endService_19 : decode c_Interrupts_endService 19 = .ok (.iconst (-1), 1) := by decide +kernel
theorem d_Interrupts_endService_20 : decode c_Interrupts_endService 20 = .ok (.ixor, 1) := by decide +kernel
theorem d_Interrupts_endService_21 : decode c_Interrupts_endService 21 = .ok (.iand, 1) := by decide +kernel
theorem d_Interrupts_endService_22 : decode c_Interrupts_endService 22 = .ok (.putfield 16, 3) := by decide +kernel
theorem d_Interrupts_endService_25 : decode c_Interrupts_endService 25 = .ok (.return_, 1) := by decide +kernel
abbrev c_Log_init : ByteArray := prog_10_method_1_code
def y_Log_init : MethodName := ⟨"CycleChip$Log", "<init>", "()V"⟩
theorem d_Log_init_0 : decode c_Log_init 0 = .ok (.aload_n 0, 1) := by decide +kernel
theorem d_Log_init_1 : decode c_Log_init 1 = .ok (.invokespecial 1, 3) := by decide +kernel
theorem d_Log_init_4 : decode c_Log_init 4 = .ok (.aload_n 0, 1) := by decide +kernel
theorem d_Log_init_5 : decode c_Log_init 5 = .ok (.bipush 16, 2) := by decide +kernel
theorem d_Log_init_7 : decode c_Log_init 7 = .ok (.newarray .int, 2) := by decide +kernel
theorem d_Log_init_9 : decode c_Log_init 9 = .ok (.putfield 9, 3) := by decide +kernel
theorem d_Log_init_12 : decode c_Log_init 12 = .ok (.aload_n 0, 1) := by decide +kernel
theorem d_Log_init_13 : decode c_Log_init 13 = .ok (.bipush 16, 2) := by decide +kernel
theorem d_Log_init_15 : decode c_Log_init 15 = .ok (.newarray .int, 2) := by decide +kernel
theorem d_Log_init_17 : decode c_Log_init 17 = .ok (.putfield 13, 3) := by decide +kernel
theorem d_Log_init_20 : decode c_Log_init 20 = .ok (.return_, 1) := by decide +kernel
abbrev c_Log_add : ByteArray := prog_10_method_2_code
def y_Log_add : MethodName := ⟨"CycleChip$Log", "add", "(II)V"⟩
theorem d_Log_add_0 : decode c_Log_add 0 = .ok (.aload_n 0, 1) := by decide +kernel
theorem d_Log_add_1 : decode c_Log_add 1 = .ok (.getfield 16, 3) := by decide +kernel
theorem d_Log_add_4 : decode c_Log_add 4 = .ok (.bipush 15, 2) := by decide +kernel
theorem d_Log_add_6 : decode c_Log_add 6 = .ok (.iand, 1) := by decide +kernel
theorem d_Log_add_7 : decode c_Log_add 7 = .ok (.istore_n 3, 1) := by decide +kernel
theorem d_Log_add_8 : decode c_Log_add 8 = .ok (.aload_n 0, 1) := by decide +kernel
theorem d_Log_add_9 : decode c_Log_add 9 = .ok (.getfield 9, 3) := by decide +kernel
theorem d_Log_add_12 : decode c_Log_add 12 = .ok (.iload_n 3, 1) := by decide +kernel
theorem d_Log_add_13 : decode c_Log_add 13 = .ok (.iload_n 1, 1) := by decide +kernel
theorem d_Log_add_14 : decode c_Log_add 14 = .ok (.iastore, 1) := by decide +kernel
theorem d_Log_add_15 : decode c_Log_add 15 = .ok (.aload_n 0, 1) := by decide +kernel
theorem d_Log_add_16 : decode c_Log_add 16 = .ok (.getfield 13, 3) := by decide +kernel
theorem d_Log_add_19 : decode c_Log_add 19 = .ok (.iload_n 3, 1) := by decide +kernel
theorem d_Log_add_20 : decode c_Log_add 20 = .ok (.iload_n 2, 1) := by decide +kernel
theorem d_Log_add_21 : decode c_Log_add 21 = .ok (.iastore, 1) := by decide +kernel
theorem d_Log_add_22 : decode c_Log_add 22 = .ok (.aload_n 0, 1) := by decide +kernel
theorem d_Log_add_23 : decode c_Log_add 23 = .ok (.dup, 1) := by decide +kernel
theorem d_Log_add_24 : decode c_Log_add 24 = .ok (.getfield 16, 3) := by decide +kernel
theorem d_Log_add_27 : decode c_Log_add 27 = .ok (.iconst 1, 1) := by decide +kernel
theorem d_Log_add_28 : decode c_Log_add 28 = .ok (.iadd, 1) := by decide +kernel
theorem d_Log_add_29 : decode c_Log_add 29 = .ok (.putfield 16, 3) := by decide +kernel
theorem d_Log_add_32 : decode c_Log_add 32 = .ok (.return_, 1) := by decide +kernel
abbrev c_Log_has : ByteArray := prog_10_method_3_code
def y_Log_has : MethodName := ⟨"CycleChip$Log", "has", "(I)Z"⟩
theorem d_Log_has_0 : decode c_Log_has 0 = .ok (.iload_n 1, 1) := by decide +kernel
theorem d_Log_has_1 : decode c_Log_has 1 = .ok (.ifCond .lt 21, 3) := by decide +kernel
theorem d_Log_has_4 : decode c_Log_has 4 = .ok (.iload_n 1, 1) := by decide +kernel
theorem d_Log_has_5 : decode c_Log_has 5 = .ok (.bipush 16, 2) := by decide +kernel
theorem d_Log_has_7 : decode c_Log_has 7 = .ok (.if_icmp .ge 15, 3) := by decide +kernel
theorem d_Log_has_10 : decode c_Log_has 10 = .ok (.iload_n 1, 1) := by decide +kernel
theorem d_Log_has_11 : decode c_Log_has 11 = .ok (.aload_n 0, 1) := by decide +kernel
theorem d_Log_has_12 : decode c_Log_has 12 = .ok (.getfield 16, 3) := by decide +kernel
theorem d_Log_has_15 : decode c_Log_has 15 = .ok (.if_icmp .ge 7, 3) := by decide +kernel
theorem d_Log_has_18 : decode c_Log_has 18 = .ok (.iconst 1, 1) := by decide +kernel
theorem d_Log_has_19 : decode c_Log_has 19 = .ok (.goto 4, 3) := by decide +kernel
theorem d_Log_has_22 : decode c_Log_has 22 = .ok (.iconst 0, 1) := by decide +kernel
theorem d_Log_has_23 : decode c_Log_has 23 = .ok (.ireturn, 1) := by decide +kernel
abbrev c_Log_cycleOf : ByteArray := prog_10_method_4_code
def y_Log_cycleOf : MethodName := ⟨"CycleChip$Log", "cycleOf", "(I)I"⟩
theorem d_Log_cycleOf_0 : decode c_Log_cycleOf 0 = .ok (.aload_n 0, 1) := by decide +kernel
theorem d_Log_cycleOf_1 : decode c_Log_cycleOf 1 = .ok (.getfield 9, 3) := by decide +kernel
theorem d_Log_cycleOf_4 : decode c_Log_cycleOf 4 = .ok (.aload_n 0, 1) := by decide +kernel
theorem d_Log_cycleOf_5 : decode c_Log_cycleOf 5 = .ok (.getfield 16, 3) := by decide +kernel
theorem d_Log_cycleOf_8 : decode c_Log_cycleOf 8 = .ok (.iconst 1, 1) := by decide +kernel
theorem d_Log_cycleOf_9 : decode c_Log_cycleOf 9 = .ok (.isub, 1) := by decide +kernel
theorem d_Log_cycleOf_10 : decode c_Log_cycleOf 10 = .ok (.iload_n 1, 1) := by decide +kernel
theorem d_Log_cycleOf_11 : decode c_Log_cycleOf 11 = .ok (.isub, 1) := by decide +kernel
theorem d_Log_cycleOf_12 : decode c_Log_cycleOf 12 = .ok (.bipush 15, 2) := by decide +kernel
theorem d_Log_cycleOf_14 : decode c_Log_cycleOf 14 = .ok (.iand, 1) := by decide +kernel
theorem d_Log_cycleOf_15 : decode c_Log_cycleOf 15 = .ok (.iaload, 1) := by decide +kernel
theorem d_Log_cycleOf_16 : decode c_Log_cycleOf 16 = .ok (.ireturn, 1) := by decide +kernel
abbrev c_Log_valueOf : ByteArray := prog_10_method_5_code
def y_Log_valueOf : MethodName := ⟨"CycleChip$Log", "valueOf", "(I)I"⟩
theorem d_Log_valueOf_0 : decode c_Log_valueOf 0 = .ok (.aload_n 0, 1) := by decide +kernel
theorem d_Log_valueOf_1 : decode c_Log_valueOf 1 = .ok (.getfield 13, 3) := by decide +kernel
theorem d_Log_valueOf_4 : decode c_Log_valueOf 4 = .ok (.aload_n 0, 1) := by decide +kernel
theorem d_Log_valueOf_5 : decode c_Log_valueOf 5 = .ok (.getfield 16, 3) := by decide +kernel
theorem d_Log_valueOf_8 : decode c_Log_valueOf 8 = .ok (.iconst 1, 1) := by decide +kernel
theorem d_Log_valueOf_9 : decode c_Log_valueOf 9 = .ok (.isub, 1) := by decide +kernel
theorem d_Log_valueOf_10 : decode c_Log_valueOf 10 = .ok (.iload_n 1, 1) := by decide +kernel
theorem d_Log_valueOf_11 : decode c_Log_valueOf 11 = .ok (.isub, 1) := by decide +kernel
theorem d_Log_valueOf_12 : decode c_Log_valueOf 12 = .ok (.bipush 15, 2) := by decide +kernel
theorem d_Log_valueOf_14 : decode c_Log_valueOf 14 = .ok (.iand, 1) := by decide +kernel
theorem d_Log_valueOf_15 : decode c_Log_valueOf 15 = .ok (.iaload, 1) := by decide +kernel
theorem d_Log_valueOf_16 : decode c_Log_valueOf 16 = .ok (.ireturn, 1) := by decide +kernel
abbrev c_Serial_init : ByteArray := prog_11_method_1_code
def y_Serial_init : MethodName := ⟨"CycleChip$Serial", "<init>", "()V"⟩
theorem d_Serial_init_0 : decode c_Serial_init 0 = .ok (.aload_n 0, 1) := by decide +kernel
theorem d_Serial_init_1 : decode c_Serial_init 1 = .ok (.invokespecial 1, 3) := by decide +kernel
theorem d_Serial_init_4 : decode c_Serial_init 4 = .ok (.aload_n 0, 1) := by decide +kernel
theorem d_Serial_init_5 : decode c_Serial_init 5 = .ok (.new 7, 3) := by decide +kernel
theorem d_Serial_init_8 : decode c_Serial_init 8 = .ok (.dup, 1) := by decide +kernel
theorem d_Serial_init_9 : decode c_Serial_init 9 = .ok (.invokespecial 9, 3) := by decide +kernel
theorem d_Serial_init_12 : decode c_Serial_init 12 = .ok (.putfield 10, 3) := by decide +kernel
theorem d_Serial_init_15 : decode c_Serial_init 15 = .ok (.aload_n 0, 1) := by decide +kernel
theorem d_Serial_init_16 : decode c_Serial_init 16 = .ok (.new 7, 3) := by decide +kernel
theorem d_Serial_init_19 : decode c_Serial_init 19 = .ok (.dup, 1) := by decide +kernel
theorem d_Serial_init_20 : decode c_Serial_init 20 = .ok (.invokespecial 9, 3) := by decide +kernel
theorem d_Serial_init_23 : decode c_Serial_init 23 = .ok (.putfield 16, 3) := by decide +kernel
theorem d_Serial_init_26 : decode c_Serial_init 26 = .ok (.aload_n 0, 1) := by decide +kernel
theorem d_Serial_init_27 : decode c_Serial_init 27 = .ok (.new 19, 3) := by decide +kernel
theorem d_Serial_init_30 : decode c_Serial_init 30 = .ok (.dup, 1) := by decide +kernel
theorem d_Serial_init_31 : decode c_Serial_init 31 = .ok (.invokespecial 21, 3) := by decide +kernel
theorem d_Serial_init_34 : decode c_Serial_init 34 = .ok (.putfield 22, 3) := by decide +kernel
theorem d_Serial_init_37 : decode c_Serial_init 37 = .ok (.aload_n 0, 1) := by decide +kernel
theorem d_Serial_init_38 : decode c_Serial_init 38 = .ok (.iconst 1, 1) := by decide +kernel
theorem d_Serial_init_39 : decode c_Serial_init 39 = .ok (.putfield 26, 3) := by decide +kernel
theorem d_Serial_init_42 : decode c_Serial_init 42 = .ok (.return_, 1) := by decide +kernel
abbrev c_Serial_arrive : ByteArray := prog_11_method_2_code
def y_Serial_arrive : MethodName := ⟨"CycleChip$Serial", "arrive", "(I)V"⟩
theorem d_Serial_arrive_0 : decode c_Serial_arrive 0 = .ok (.aload_n 0, 1) := by decide +kernel
theorem d_Serial_arrive_1 : decode c_Serial_arrive 1 = .ok (.getfield 10, 3) := by decide +kernel
theorem d_Serial_arrive_4 : decode c_Serial_arrive 4 = .ok (.invokevirtual 30, 3) := by decide +kernel
theorem d_Serial_arrive_7 : decode c_Serial_arrive 7 = .ok (.ifCond .eq 11, 3) := by decide +kernel
theorem d_Serial_arrive_10 : decode c_Serial_arrive 10 = .ok (.aload_n 0, 1) := by decide +kernel
theorem d_Serial_arrive_11 : decode c_Serial_arrive 11 = .ok (.iconst 1, 1) := by decide +kernel
theorem d_Serial_arrive_12 : decode c_Serial_arrive 12 = .ok (.putfield 34, 3) := by decide +kernel
theorem d_Serial_arrive_15 : decode c_Serial_arrive 15 = .ok (.goto 11, 3) := by decide +kernel
theorem d_Serial_arrive_18 : decode c_Serial_arrive 18 = .ok (.aload_n 0, 1) := by decide +kernel
theorem d_Serial_arrive_19 : decode c_Serial_arrive 19 = .ok (.getfield 10, 3) := by decide +kernel
theorem d_Serial_arrive_22 : decode c_Serial_arrive 22 = .ok (.iload_n 1, 1) := by decide +kernel
theorem d_Serial_arrive_23 : decode c_Serial_arrive 23 = .ok (.invokevirtual 38, 3) := by decide +kernel
theorem d_Serial_arrive_26 : decode c_Serial_arrive 26 = .ok (.return_, 1) := by decide +kernel
abbrev c_Serial_advanceSender : ByteArray := prog_11_method_3_code
def y_Serial_advanceSender : MethodName := ⟨"CycleChip$Serial", "advanceSender", "(I)V"⟩
theorem d_Serial_advanceSender_0 : decode c_Serial_advanceSender 0 = .ok (.aload_n 0, 1) := by decide +kernel
theorem d_Serial_advanceSender_1 : decode c_Serial_advanceSender 1 = .ok (.getfield 42, 3) := by decide +kernel
theorem d_Serial_advanceSender_4 : decode c_Serial_advanceSender 4 = .ok (.ifCond .eq 28, 3) := by decide +kernel
theorem d_Serial_advanceSender_7 : decode c_Serial_advanceSender 7 = .ok (.aload_n 0, 1) := by decide +kernel
theorem d_Serial_advanceSender_8 : decode c_Serial_advanceSender 8 = .ok (.getfield 45, 3) := by decide +kernel
theorem d_Serial_advanceSender_11 : decode c_Serial_advanceSender 11 = .ok (.iload_n 1, 1) := by decide +kernel
theorem d_Serial_advanceSender_12 : decode c_Serial_advanceSender 12 = .ok (.if_icmp .ne 20, 3) := by decide +kernel
theorem d_Serial_advanceSender_15 : decode c_Serial_advanceSender 15 = .ok (.aload_n 0, 1) := by decide +kernel
theorem d_Serial_advanceSender_16 : decode c_Serial_advanceSender 16 = .ok (.getfield 22, 3) := by decide +kernel
theorem d_Serial_advanceSender_19 : decode c_Serial_advanceSender 19 = .ok (.iload_n 1, 1) := by decide +kernel
theorem d_Serial_advanceSender_20 : decode c_Serial_advanceSender 20 = .ok (.aload_n 0, 1) := by decide +kernel
theorem d_Serial_advanceSender_21 : decode c_Serial_advanceSender 21 = .ok (.getfield 48, 3) := by decide +kernel
theorem d_Serial_advanceSender_24 : decode c_Serial_advanceSender 24 = .ok (.invokevirtual 51, 3) := by decide +kernel
theorem d_Serial_advanceSender_27 : decode c_Serial_advanceSender 27 = .ok (.aload_n 0, 1) := by decide +kernel
theorem d_Serial_advanceSender_28 : decode c_Serial_advanceSender 28 = .ok (.iconst 0, 1) := by decide +kernel
theorem d_Serial_advanceSender_29 : decode c_Serial_advanceSender 29 = .ok (.putfield 42, 3) := by decide +kernel
theorem d_Serial_advanceSender_32 : decode c_Serial_advanceSender 32 = .ok (.aload_n 0, 1) := by decide +kernel
theorem d_Serial_advanceSender_33 : decode c_Serial_advanceSender 33 = .ok (.getfield 42, 3) := by decide +kernel
theorem d_Serial_advanceSender_36 : decode c_Serial_advanceSender 36 = .ok (.ifCond .ne 42, 3) := by decide +kernel
theorem d_Serial_advanceSender_39 : decode c_Serial_advanceSender 39 = .ok (.aload_n 0, 1) := by decide +kernel
theorem d_Serial_advanceSender_40 : decode c_Serial_advanceSender 40 = .ok (.getfield 16, 3) := by decide +kernel
theorem d_Serial_advanceSender_43 : decode c_Serial_advanceSender 43 = .ok (.invokevirtual 55, 3) := by decide +kernel
theorem d_Serial_advanceSender_46 : decode c_Serial_advanceSender 46 = .ok (.ifCond .ne 32, 3) := by decide +kernel
theorem d_Serial_advanceSender_49 : decode c_Serial_advanceSender 49 = .ok (.aload_n 0, 1) := by decide +kernel
theorem d_Serial_advanceSender_50 : decode c_Serial_advanceSender 50 = .ok (.aload_n 0, 1) := by decide +kernel
theorem d_Serial_advanceSender_51 : decode c_Serial_advanceSender 51 = .ok (.getfield 16, 3) := by decide +kernel
theorem d_Serial_advanceSender_54 : decode c_Serial_advanceSender 54 = .ok (.invokevirtual 58, 3) := by decide +kernel
theorem d_Serial_advanceSender_57 : decode c_Serial_advanceSender 57 = .ok (.putfield 48, 3) := by decide +kernel
theorem d_Serial_advanceSender_60 : decode c_Serial_advanceSender 60 = .ok (.aload_n 0, 1) := by decide +kernel
theorem d_Serial_advanceSender_61 : decode c_Serial_advanceSender 61 = .ok (.iload_n 1, 1) := by decide +kernel
theorem d_Serial_advanceSender_62 : decode c_Serial_advanceSender 62 = .ok (.bipush 10, 2) := by decide +kernel
theorem d_Serial_advanceSender_64 : decode c_Serial_advanceSender 64 = .ok (.aload_n 0, 1) := by decide +kernel
theorem d_Serial_advanceSender_65 : decode c_Serial_advanceSender 65 = .ok (.getfield 26, 3) := by decide +kernel
theorem d_Serial_advanceSender_68 : decode c_Serial_advanceSender 68 = .ok (.imul, 1) := by decide +kernel
theorem d_Serial_advanceSender_69 : decode c_Serial_advanceSender 69 = .ok (.iadd, 1) := by decide +kernel
theorem d_Serial_advanceSender_70 : decode c_Serial_advanceSender 70 = .ok (.putfield 45, 3) := by decide +kernel
theorem d_Serial_advanceSender_73 : decode c_Serial_advanceSender 73 = .ok (.aload_n 0, 1) := by decide +kernel
theorem d_Serial_advanceSender_74 : decode c_Serial_advanceSender 74 = .ok (.iconst 1, 1) := by decide +kernel
theorem d_Serial_advanceSender_75 : decode c_Serial_advanceSender 75 = .ok (.putfield 42, 3) := by decide +kernel
theorem d_Serial_advanceSender_78 : decode c_Serial_advanceSender 78 = .ok (.return_, 1) := by decide +kernel
abbrev c_Serial_isLineHigh : ByteArray := prog_11_method_4_code
def y_Serial_isLineHigh : MethodName := ⟨"CycleChip$Serial", "isLineHigh", "()Z"⟩
theorem d_Serial_isLineHigh_0 : decode c_Serial_isLineHigh 0 = .ok (.aload_n 0, 1) := by decide +kernel
theorem d_Serial_isLineHigh_1 : decode c_Serial_isLineHigh 1 = .ok (.getfield 62, 3) := by decide +kernel
theorem d_Serial_isLineHigh_4 : decode c_Serial_isLineHigh 4 = .ok (.iconst 1, 1) := by decide +kernel
theorem d_Serial_isLineHigh_5 : decode c_Serial_isLineHigh 5 = .ok (.iand, 1) := by decide +kernel
theorem d_Serial_isLineHigh_6 : decode c_Serial_isLineHigh 6 = .ok (.ifCond .eq 13, 3) := by decide +kernel
theorem d_Serial_isLineHigh_9 : decode c_Serial_isLineHigh 9 = .ok (.aload_n 0, 1) := by decide +kernel
theorem d_Serial_isLineHigh_10 : decode c_Serial_isLineHigh 10 = .ok (.getfield 10, 3) := by decide +kernel
theorem d_Serial_isLineHigh_13 : decode c_Serial_isLineHigh 13 = .ok (.invokevirtual 55, 3) := by decide +kernel
theorem d_Serial_isLineHigh_16 : decode c_Serial_isLineHigh 16 = .ok (.ifCond .eq 22, 3) := by decide +kernel
theorem d_Serial_isLineHigh_19 : decode c_Serial_isLineHigh 19 = .ok (.aload_n 0, 1) := by decide +kernel
theorem d_Serial_isLineHigh_20 : decode c_Serial_isLineHigh 20 = .ok (.getfield 62, 3) := by decide +kernel
theorem d_Serial_isLineHigh_23 : decode c_Serial_isLineHigh 23 = .ok (.iconst 2, 1) := by decide +kernel
theorem d_Serial_isLineHigh_24 : decode c_Serial_isLineHigh 24 = .ok (.iand, 1) := by decide +kernel
theorem d_Serial_isLineHigh_25 : decode c_Serial_isLineHigh 25 = .ok (.ifCond .eq 17, 3) := by decide +kernel
theorem d_Serial_isLineHigh_28 : decode c_Serial_isLineHigh 28 = .ok (.aload_n 0, 1) := by decide +kernel
theorem d_Serial_isLineHigh_29 : decode c_Serial_isLineHigh 29 = .ok (.getfield 16, 3) := by decide +kernel
theorem d_Serial_isLineHigh_32 : decode c_Serial_isLineHigh 32 = .ok (.invokevirtual 55, 3) := by decide +kernel
theorem d_Serial_isLineHigh_35 : decode c_Serial_isLineHigh 35 = .ok (.ifCond .eq 7, 3) := by decide +kernel
theorem d_Serial_isLineHigh_38 : decode c_Serial_isLineHigh 38 = .ok (.iconst 1, 1) := by decide +kernel
theorem d_Serial_isLineHigh_39 : decode c_Serial_isLineHigh 39 = .ok (.goto 4, 3) := by decide +kernel
theorem d_Serial_isLineHigh_42 : decode c_Serial_isLineHigh 42 = .ok (.iconst 0, 1) := by decide +kernel
theorem d_Serial_isLineHigh_43 : decode c_Serial_isLineHigh 43 = .ok (.ireturn, 1) := by decide +kernel
abbrev c_Serial_load : ByteArray := prog_11_method_5_code
def y_Serial_load : MethodName := ⟨"CycleChip$Serial", "load", "(I)I"⟩
theorem d_Serial_load_0 : decode c_Serial_load 0 = .ok (.iload_n 1, 1) := by decide +kernel
theorem d_Serial_load_1 : decode c_Serial_load 1 = .ok (.tableswitch 45 12 14 #[27, 35, 40], 27) := by decide +kernel
theorem d_Serial_load_28 : decode c_Serial_load 28 = .ok (.aload_n 0, 1) := by decide +kernel
theorem d_Serial_load_29 : decode c_Serial_load 29 = .ok (.getfield 10, 3) := by decide +kernel
theorem d_Serial_load_32 : decode c_Serial_load 32 = .ok (.invokevirtual 58, 3) := by decide +kernel
theorem d_Serial_load_35 : decode c_Serial_load 35 = .ok (.ireturn, 1) := by decide +kernel
theorem d_Serial_load_36 : decode c_Serial_load 36 = .ok (.aload_n 0, 1) := by decide +kernel
theorem d_Serial_load_37 : decode c_Serial_load 37 = .ok (.invokevirtual 65, 3) := by decide +kernel
theorem d_Serial_load_40 : decode c_Serial_load 40 = .ok (.ireturn, 1) := by decide +kernel
theorem d_Serial_load_41 : decode c_Serial_load 41 = .ok (.aload_n 0, 1) := by decide +kernel
theorem d_Serial_load_42 : decode c_Serial_load 42 = .ok (.getfield 26, 3) := by decide +kernel
theorem d_Serial_load_45 : decode c_Serial_load 45 = .ok (.ireturn, 1) := by decide +kernel
theorem d_Serial_load_46 : decode c_Serial_load 46 = .ok (.aload_n 0, 1) := by decide +kernel
theorem d_Serial_load_47 : decode c_Serial_load 47 = .ok (.getfield 62, 3) := by decide +kernel
theorem d_Serial_load_50 : decode c_Serial_load 50 = .ok (.ireturn, 1) := by decide +kernel
abbrev c_Serial_store : ByteArray := prog_11_method_6_code
def y_Serial_store : MethodName := ⟨"CycleChip$Serial", "store", "(II)V"⟩
theorem d_Serial_store_0 : decode c_Serial_store 0 = .ok (.iload_n 1, 1) := by decide +kernel
theorem d_Serial_store_1 : decode c_Serial_store 1 = .ok (.tableswitch 62 12 14 #[27, 38, 46], 27) := by decide +kernel
theorem d_Serial_store_28 : decode c_Serial_store 28 = .ok (.aload_n 0, 1) := by decide +kernel
theorem d_Serial_store_29 : decode c_Serial_store 29 = .ok (.getfield 16, 3) := by decide +kernel
theorem d_Serial_store_32 : decode c_Serial_store 32 = .ok (.iload_n 2, 1) := by decide +kernel
theorem d_Serial_store_33 : decode c_Serial_store 33 = .ok (.invokevirtual 38, 3) := by decide +kernel
theorem d_Serial_store_36 : decode c_Serial_store 36 = .ok (.goto 34, 3) := by decide +kernel
theorem d_Serial_store_39 : decode c_Serial_store 39 = .ok (.aload_n 0, 1) := by decide +kernel
theorem d_Serial_store_40 : decode c_Serial_store 40 = .ok (.iconst 0, 1) := by decide +kernel
theorem d_Serial_store_41 : decode c_Serial_store 41 = .ok (.putfield 34, 3) := by decide +kernel
theorem d_Serial_store_44 : decode c_Serial_store 44 = .ok (.goto 26, 3) := by decide +kernel
theorem d_Serial_store_47 : decode c_Serial_store 47 = .ok (.aload_n 0, 1) := by decide +kernel
theorem d_Serial_store_48 : decode c_Serial_store 48 = .ok (.iconst 1, 1) := by decide +kernel
theorem d_Serial_store_49 : decode c_Serial_store 49 = .ok (.iload_n 2, 1) := by decide +kernel
theorem d_Serial_store_50 : decode c_Serial_store 50 = .ok (.sipush 255, 3) := by decide +kernel
theorem d_Serial_store_53 : decode c_Serial_store 53 = .ok (.iand, 1) := by decide +kernel
theorem d_Serial_store_54 : decode c_Serial_store 54 = .ok (.invokestatic 68, 3) := by decide +kernel
theorem d_Serial_store_57 : decode c_Serial_store 57 = .ok (.putfield 26, 3) := by decide +kernel
theorem d_Serial_store_60 : decode c_Serial_store 60 = .ok (.goto 10, 3) := by decide +kernel
theorem d_Serial_store_63 : decode c_Serial_store 63 = .ok (.aload_n 0, 1) := by decide +kernel
theorem d_Serial_store_64 : decode c_Serial_store 64 = .ok (.iload_n 2, 1) := by decide +kernel
theorem d_Serial_store_65 : decode c_Serial_store 65 = .ok (.iconst 3, 1) := by decide +kernel
theorem d_Serial_store_66 : decode c_Serial_store 66 = .ok (.iand, 1) := by decide +kernel
theorem d_Serial_store_67 : decode c_Serial_store 67 = .ok (.putfield 62, 3) := by decide +kernel
theorem d_Serial_store_70 : decode c_Serial_store 70 = .ok (.return_, 1) := by decide +kernel
abbrev c_Serial_state : ByteArray := prog_11_method_7_code
def y_Serial_state : MethodName := ⟨"CycleChip$Serial", "state", "()I"⟩
theorem d_Serial_state_0 : decode c_Serial_state 0 = .ok (.aload_n 0, 1) := by decide +kernel
theorem d_Serial_state_1 : decode c_Serial_state 1 = .ok (.getfield 10, 3) := by decide +kernel
theorem d_Serial_state_4 : decode c_Serial_state 4 = .ok (.invokevirtual 55, 3) := by decide +kernel
theorem d_Serial_state_7 : decode c_Serial_state 7 = .ok (.ifCond .eq 7, 3) := by decide +kernel
theorem d_Serial_state_10 : decode c_Serial_state 10 = .ok (.iconst 0, 1) := by decide +kernel
theorem d_Serial_state_11 : decode c_Serial_state 11 = .ok (.goto 4, 3) := by decide +kernel
theorem d_Serial_state_14 : decode c_Serial_state 14 = .ok (.iconst 1, 1) := by decide +kernel
theorem d_Serial_state_15 : decode c_Serial_state 15 = .ok (.aload_n 0, 1) := by decide +kernel
theorem d_Serial_state_16 : decode c_Serial_state 16 = .ok (.getfield 16, 3) := by decide +kernel
theorem d_Serial_state_19 : decode c_Serial_state 19 = .ok (.invokevirtual 30, 3) := by decide +kernel
theorem d_Serial_state_22 : decode c_Serial_state 22 = .ok (.ifCond .eq 7, 3) := by decide +kernel
theorem d_Serial_state_25 : decode c_Serial_state 25 = .ok (.iconst 2, 1) := by decide +kernel
theorem d_Serial_state_26 : decode c_Serial_state 26 = .ok (.goto 4, 3) := by decide +kernel
theorem d_Serial_state_29 : decode c_Serial_state 29 = .ok (.iconst 0, 1) := by decide +kernel
theorem d_Serial_state_30 : decode c_Serial_state 30 = .ok (.iadd, 1) := by decide +kernel
theorem d_Serial_state_31 : decode c_Serial_state 31 = .ok (.aload_n 0, 1) := by decide +kernel
theorem d_Serial_state_32 : decode c_Serial_state 32 = .ok (.getfield 34, 3) := by decide +kernel
theorem d_Serial_state_35 : decode c_Serial_state 35 = .ok (.ifCond .eq 7, 3) := by decide +kernel
theorem d_Serial_state_38 : decode c_Serial_state 38 = .ok (.iconst 4, 1) := by decide +kernel
theorem d_Serial_state_39 : decode c_Serial_state 39 = .ok (.goto 4, 3) := by decide +kernel
theorem d_Serial_state_42 : decode c_Serial_state 42 = .ok (.iconst 0, 1) := by decide +kernel
theorem d_Serial_state_43 : decode c_Serial_state 43 = .ok (.iadd, 1) := by decide +kernel
theorem d_Serial_state_44 : decode c_Serial_state 44 = .ok (.aload_n 0, 1) := by decide +kernel
theorem d_Serial_state_45 : decode c_Serial_state 45 = .ok (.getfield 42, 3) := by decide +kernel
theorem d_Serial_state_48 : decode c_Serial_state 48 = .ok (.ifCond .eq 8, 3) := by decide +kernel
theorem d_Serial_state_51 : decode c_Serial_state 51 = .ok (.bipush 8, 2) := by decide +kernel
theorem d_Serial_state_53 : decode c_Serial_state 53 = .ok (.goto 4, 3) := by decide +kernel
theorem d_Serial_state_56 : decode c_Serial_state 56 = .ok (.iconst 0, 1) := by decide +kernel
theorem d_Serial_state_57 : decode c_Serial_state 57 = .ok (.iadd, 1) := by decide +kernel
theorem d_Serial_state_58 : decode c_Serial_state 58 = .ok (.ireturn, 1) := by decide +kernel
abbrev c_StoreBuffer_init : ByteArray := prog_12_method_1_code
def y_StoreBuffer_init : MethodName := ⟨"CycleChip$StoreBuffer", "<init>", "()V"⟩
theorem d_StoreBuffer_init_0 : decode c_StoreBuffer_init 0 = .ok (.aload_n 0, 1) := by decide +kernel
theorem d_StoreBuffer_init_1 : decode c_StoreBuffer_init 1 = .ok (.invokespecial 1, 3) := by decide +kernel
theorem d_StoreBuffer_init_4 : decode c_StoreBuffer_init 4 = .ok (.aload_n 0, 1) := by decide +kernel
theorem d_StoreBuffer_init_5 : decode c_StoreBuffer_init 5 = .ok (.iconst 2, 1) := by decide +kernel
theorem d_StoreBuffer_init_6 : decode c_StoreBuffer_init 6 = .ok (.newarray .int, 2) := by decide +kernel
theorem d_StoreBuffer_init_8 : decode c_StoreBuffer_init 8 = .ok (.putfield 9, 3) := by decide +kernel
theorem d_StoreBuffer_init_11 : decode c_StoreBuffer_init 11 = .ok (.aload_n 0, 1) := by decide +kernel
theorem d_StoreBuffer_init_12 : decode c_StoreBuffer_init 12 = .ok (.iconst 2, 1) := by decide +kernel
theorem d_StoreBuffer_init_13 : decode c_StoreBuffer_init 13 = .ok (.newarray .int, 2) := by decide +kernel
theorem d_StoreBuffer_init_15 : decode c_StoreBuffer_init 15 = .ok (.putfield 13, 3) := by decide +kernel
theorem d_StoreBuffer_init_18 : decode c_StoreBuffer_init 18 = .ok (.return_, 1) := by decide +kernel
abbrev c_StoreBuffer_isFull : ByteArray := prog_12_method_2_code
def y_StoreBuffer_isFull : MethodName := ⟨"CycleChip$StoreBuffer", "isFull", "()Z"⟩
theorem d_StoreBuffer_isFull_0 : decode c_StoreBuffer_isFull 0 = .ok (.aload_n 0, 1) := by decide +kernel
theorem d_StoreBuffer_isFull_1 : decode c_StoreBuffer_isFull 1 = .ok (.getfield 16, 3) := by decide +kernel
theorem d_StoreBuffer_isFull_4 : decode c_StoreBuffer_isFull 4 = .ok (.iconst 2, 1) := by decide +kernel
theorem d_StoreBuffer_isFull_5 : decode c_StoreBuffer_isFull 5 = .ok (.if_icmp .ne 7, 3) := by decide +kernel
theorem d_StoreBuffer_isFull_8 : decode c_StoreBuffer_isFull 8 = .ok (.iconst 1, 1) := by decide +kernel
theorem d_StoreBuffer_isFull_9 : decode c_StoreBuffer_isFull 9 = .ok (.goto 4, 3) := by decide +kernel
theorem d_StoreBuffer_isFull_12 : decode c_StoreBuffer_isFull 12 = .ok (.iconst 0, 1) := by decide +kernel
theorem d_StoreBuffer_isFull_13 : decode c_StoreBuffer_isFull 13 = .ok (.ireturn, 1) := by decide +kernel
abbrev c_StoreBuffer_add : ByteArray := prog_12_method_3_code
def y_StoreBuffer_add : MethodName := ⟨"CycleChip$StoreBuffer", "add", "(II)V"⟩
theorem d_StoreBuffer_add_0 : decode c_StoreBuffer_add 0 = .ok (.aload_n 0, 1) := by decide +kernel
theorem d_StoreBuffer_add_1 : decode c_StoreBuffer_add 1 = .ok (.invokevirtual 20, 3) := by decide +kernel
theorem d_StoreBuffer_add_4 : decode c_StoreBuffer_add 4 = .ok (.ifCond .ne 33, 3) := by decide +kernel
theorem d_StoreBuffer_add_7 : decode c_StoreBuffer_add 7 = .ok (.aload_n 0, 1) := by decide +kernel
theorem d_StoreBuffer_add_8 : decode c_StoreBuffer_add 8 = .ok (.getfield 9, 3) := by decide +kernel
theorem d_StoreBuffer_add_11 : decode c_StoreBuffer_add 11 = .ok (.aload_n 0, 1) := by decide +kernel
theorem d_StoreBuffer_add_12 : decode c_StoreBuffer_add 12 = .ok (.getfield 16, 3) := by decide +kernel
theorem d_StoreBuffer_add_15 : decode c_StoreBuffer_add 15 = .ok (.iload_n 1, 1) := by decide +kernel
theorem d_StoreBuffer_add_16 : decode c_StoreBuffer_add 16 = .ok (.iastore, 1) := by decide +kernel
theorem d_StoreBuffer_add_17 : decode c_StoreBuffer_add 17 = .ok (.aload_n 0, 1) := by decide +kernel
theorem d_StoreBuffer_add_18 : decode c_StoreBuffer_add 18 = .ok (.getfield 13, 3) := by decide +kernel
theorem d_StoreBuffer_add_21 : decode c_StoreBuffer_add 21 = .ok (.aload_n 0, 1) := by decide +kernel
theorem d_StoreBuffer_add_22 : decode c_StoreBuffer_add 22 = .ok (.getfield 16, 3) := by decide +kernel
theorem d_StoreBuffer_add_25 : decode c_StoreBuffer_add 25 = .ok (.iload_n 2, 1) := by decide +kernel
theorem d_StoreBuffer_add_26 : decode c_StoreBuffer_add 26 = .ok (.iastore, 1) := by decide +kernel
theorem d_StoreBuffer_add_27 : decode c_StoreBuffer_add 27 = .ok (.aload_n 0, 1) := by decide +kernel
theorem d_StoreBuffer_add_28 : decode c_StoreBuffer_add 28 = .ok (.dup, 1) := by decide +kernel
theorem d_StoreBuffer_add_29 : decode c_StoreBuffer_add 29 = .ok (.getfield 16, 3) := by decide +kernel
theorem d_StoreBuffer_add_32 : decode c_StoreBuffer_add 32 = .ok (.iconst 1, 1) := by decide +kernel
theorem d_StoreBuffer_add_33 : decode c_StoreBuffer_add 33 = .ok (.iadd, 1) := by decide +kernel
theorem d_StoreBuffer_add_34 : decode c_StoreBuffer_add 34 = .ok (.putfield 16, 3) := by decide +kernel
theorem d_StoreBuffer_add_37 : decode c_StoreBuffer_add 37 = .ok (.return_, 1) := by decide +kernel
abbrev c_StoreBuffer_writeOldest : ByteArray := prog_12_method_4_code
def y_StoreBuffer_writeOldest : MethodName := ⟨"CycleChip$StoreBuffer", "writeOldest", "([I)V"⟩
theorem d_StoreBuffer_writeOldest_0 : decode c_StoreBuffer_writeOldest 0 = .ok (.aload_n 0, 1) := by decide +kernel
theorem d_StoreBuffer_writeOldest_1 : decode c_StoreBuffer_writeOldest 1 = .ok (.getfield 16, 3) := by decide +kernel
theorem d_StoreBuffer_writeOldest_4 : decode c_StoreBuffer_writeOldest 4 = .ok (.ifCond .le 51, 3) := by decide +kernel
theorem d_StoreBuffer_writeOldest_7 : decode c_StoreBuffer_writeOldest 7 = .ok (.aload_n 1, 1) := by decide +kernel
theorem d_StoreBuffer_writeOldest_8 : decode c_StoreBuffer_writeOldest 8 = .ok (.aload_n 0, 1) := by decide +kernel
theorem d_StoreBuffer_writeOldest_9 : decode c_StoreBuffer_writeOldest 9 = .ok (.getfield 9, 3) := by decide +kernel
theorem d_StoreBuffer_writeOldest_12 : decode c_StoreBuffer_writeOldest 12 = .ok (.iconst 0, 1) := by decide +kernel
theorem d_StoreBuffer_writeOldest_13 : decode c_StoreBuffer_writeOldest 13 = .ok (.iaload, 1) := by decide +kernel
theorem d_StoreBuffer_writeOldest_14 : decode c_StoreBuffer_writeOldest 14 = .ok (.aload_n 0, 1) := by decide +kernel
theorem d_StoreBuffer_writeOldest_15 : decode c_StoreBuffer_writeOldest 15 = .ok (.getfield 13, 3) := by decide +kernel
theorem d_StoreBuffer_writeOldest_18 : decode c_StoreBuffer_writeOldest 18 = .ok (.iconst 0, 1) := by decide +kernel
theorem d_StoreBuffer_writeOldest_19 : decode c_StoreBuffer_writeOldest 19 = .ok (.iaload, 1) := by decide +kernel
theorem d_StoreBuffer_writeOldest_20 : decode c_StoreBuffer_writeOldest 20 = .ok (.iastore, 1) := by decide +kernel
theorem d_StoreBuffer_writeOldest_21 : decode c_StoreBuffer_writeOldest 21 = .ok (.aload_n 0, 1) := by decide +kernel
theorem d_StoreBuffer_writeOldest_22 : decode c_StoreBuffer_writeOldest 22 = .ok (.getfield 9, 3) := by decide +kernel
theorem d_StoreBuffer_writeOldest_25 : decode c_StoreBuffer_writeOldest 25 = .ok (.iconst 0, 1) := by decide +kernel
theorem d_StoreBuffer_writeOldest_26 : decode c_StoreBuffer_writeOldest 26 = .ok (.aload_n 0, 1) := by decide +kernel
theorem d_StoreBuffer_writeOldest_27 : decode c_StoreBuffer_writeOldest 27 = .ok (.getfield 9, 3) := by decide +kernel
theorem d_StoreBuffer_writeOldest_30 : decode c_StoreBuffer_writeOldest 30 = .ok (.iconst 1, 1) := by decide +kernel
theorem d_StoreBuffer_writeOldest_31 : decode c_StoreBuffer_writeOldest 31 = .ok (.iaload, 1) := by decide +kernel
theorem d_StoreBuffer_writeOldest_32 : decode c_StoreBuffer_writeOldest 32 = .ok (.iastore, 1) := by decide +kernel
theorem d_StoreBuffer_writeOldest_33 : decode c_StoreBuffer_writeOldest 33 = .ok (.aload_n 0, 1) := by decide +kernel
theorem d_StoreBuffer_writeOldest_34 : decode c_StoreBuffer_writeOldest 34 = .ok (.getfield 13, 3) := by decide +kernel
theorem d_StoreBuffer_writeOldest_37 : decode c_StoreBuffer_writeOldest 37 = .ok (.iconst 0, 1) := by decide +kernel
theorem d_StoreBuffer_writeOldest_38 : decode c_StoreBuffer_writeOldest 38 = .ok (.aload_n 0, 1) := by decide +kernel
theorem d_StoreBuffer_writeOldest_39 : decode c_StoreBuffer_writeOldest 39 = .ok (.getfield 13, 3) := by decide +kernel
theorem d_StoreBuffer_writeOldest_42 : decode c_StoreBuffer_writeOldest 42 = .ok (.iconst 1, 1) := by decide +kernel
theorem d_StoreBuffer_writeOldest_43 : decode c_StoreBuffer_writeOldest 43 = .ok (.iaload, 1) := by decide +kernel
theorem d_StoreBuffer_writeOldest_44 : decode c_StoreBuffer_writeOldest 44 = .ok (.iastore, 1) := by decide +kernel
theorem d_StoreBuffer_writeOldest_45 : decode c_StoreBuffer_writeOldest 45 = .ok (.aload_n 0, 1) := by decide +kernel
theorem d_StoreBuffer_writeOldest_46 : decode c_StoreBuffer_writeOldest 46 = .ok (.dup, 1) := by decide +kernel
theorem d_StoreBuffer_writeOldest_47 : decode c_StoreBuffer_writeOldest 47 = .ok (.getfield 16, 3) := by decide +kernel
theorem d_StoreBuffer_writeOldest_50 : decode c_StoreBuffer_writeOldest 50 = .ok (.iconst 1, 1) := by decide +kernel
theorem d_StoreBuffer_writeOldest_51 : decode c_StoreBuffer_writeOldest 51 = .ok (.isub, 1) := by decide +kernel
theorem d_StoreBuffer_writeOldest_52 : decode c_StoreBuffer_writeOldest 52 = .ok (.putfield 16, 3) := by decide +kernel
theorem d_StoreBuffer_writeOldest_55 : decode c_StoreBuffer_writeOldest 55 = .ok (.return_, 1) := by decide +kernel
abbrev c_JInt_compare : ByteArray := prog_15_method_40_code
def y_JInt_compare : MethodName := ⟨"java/lang/Integer", "compare", "(II)I"⟩
theorem d_JInt_compare_0 : decode c_JInt_compare 0 = .ok (.iload_n 0, 1) := by decide +kernel
theorem d_JInt_compare_1 : decode c_JInt_compare 1 = .ok (.iload_n 1, 1) := by decide +kernel
theorem d_JInt_compare_2 : decode c_JInt_compare 2 = .ok (.if_icmp .ge 7, 3) := by decide +kernel
theorem d_JInt_compare_5 : decode c_JInt_compare 5 = .ok (.iconst (-1), 1) := by decide +kernel
theorem d_JInt_compare_6 : decode c_JInt_compare 6 = .ok (.goto 13, 3) := by decide +kernel
theorem d_JInt_compare_9 : decode c_JInt_compare 9 = .ok (.iload_n 0, 1) := by decide +kernel
theorem d_JInt_compare_10 : decode c_JInt_compare 10 = .ok (.iload_n 1, 1) := by decide +kernel
theorem d_JInt_compare_11 : decode c_JInt_compare 11 = .ok (.if_icmp .ne 7, 3) := by decide +kernel
theorem d_JInt_compare_14 : decode c_JInt_compare 14 = .ok (.iconst 0, 1) := by decide +kernel
theorem d_JInt_compare_15 : decode c_JInt_compare 15 = .ok (.goto 4, 3) := by decide +kernel
theorem d_JInt_compare_18 : decode c_JInt_compare 18 = .ok (.iconst 1, 1) := by decide +kernel
theorem d_JInt_compare_19 : decode c_JInt_compare 19 = .ok (.ireturn, 1) := by decide +kernel
abbrev c_JInt_compareUnsigned : ByteArray := prog_15_method_41_code
def y_JInt_compareUnsigned : MethodName := ⟨"java/lang/Integer", "compareUnsigned", "(II)I"⟩
theorem d_JInt_compareUnsigned_0 : decode c_JInt_compareUnsigned 0 = .ok (.iload_n 0, 1) := by decide +kernel
theorem d_JInt_compareUnsigned_1 : decode c_JInt_compareUnsigned 1 = .ok (.ldc 127, 2) := by decide +kernel
theorem d_JInt_compareUnsigned_3 : decode c_JInt_compareUnsigned 3 = .ok (.iadd, 1) := by decide +kernel
theorem d_JInt_compareUnsigned_4 : decode c_JInt_compareUnsigned 4 = .ok (.iload_n 1, 1) := by decide +kernel
theorem d_JInt_compareUnsigned_5 : decode c_JInt_compareUnsigned 5 = .ok (.ldc 127, 2) := by decide +kernel
theorem d_JInt_compareUnsigned_7 : decode c_JInt_compareUnsigned 7 = .ok (.iadd, 1) := by decide +kernel
theorem d_JInt_compareUnsigned_8 : decode c_JInt_compareUnsigned 8 = .ok (.invokestatic 259, 3) := by decide +kernel
theorem d_JInt_compareUnsigned_11 : decode c_JInt_compareUnsigned 11 = .ok (.ireturn, 1) := by decide +kernel
abbrev c_JLong_compare : ByteArray := prog_16_method_42_code
def y_JLong_compare : MethodName := ⟨"java/lang/Long", "compare", "(JJ)I"⟩
theorem d_JLong_compare_0 : decode c_JLong_compare 0 = .ok (.lload_n 0, 1) := by decide +kernel
theorem d_JLong_compare_1 : decode c_JLong_compare 1 = .ok (.lload_n 2, 1) := by decide +kernel
theorem d_JLong_compare_2 : decode c_JLong_compare 2 = .ok (.lcmp, 1) := by decide +kernel
theorem d_JLong_compare_3 : decode c_JLong_compare 3 = .ok (.ifCond .ge 7, 3) := by decide +kernel
theorem d_JLong_compare_6 : decode c_JLong_compare 6 = .ok (.iconst (-1), 1) := by decide +kernel
theorem d_JLong_compare_7 : decode c_JLong_compare 7 = .ok (.goto 14, 3) := by decide +kernel
theorem d_JLong_compare_10 : decode c_JLong_compare 10 = .ok (.lload_n 0, 1) := by decide +kernel
theorem d_JLong_compare_11 : decode c_JLong_compare 11 = .ok (.lload_n 2, 1) := by decide +kernel
theorem d_JLong_compare_12 : decode c_JLong_compare 12 = .ok (.lcmp, 1) := by decide +kernel
theorem d_JLong_compare_13 : decode c_JLong_compare 13 = .ok (.ifCond .ne 7, 3) := by decide +kernel
theorem d_JLong_compare_16 : decode c_JLong_compare 16 = .ok (.iconst 0, 1) := by decide +kernel
theorem d_JLong_compare_17 : decode c_JLong_compare 17 = .ok (.goto 4, 3) := by decide +kernel
theorem d_JLong_compare_20 : decode c_JLong_compare 20 = .ok (.iconst 1, 1) := by decide +kernel
theorem d_JLong_compare_21 : decode c_JLong_compare 21 = .ok (.ireturn, 1) := by decide +kernel
abbrev c_JLong_compareUnsigned : ByteArray := prog_16_method_43_code
def y_JLong_compareUnsigned : MethodName := ⟨"java/lang/Long", "compareUnsigned", "(JJ)I"⟩
theorem d_JLong_compareUnsigned_0 : decode c_JLong_compareUnsigned 0 = .ok (.lload_n 0, 1) := by decide +kernel
theorem d_JLong_compareUnsigned_1 : decode c_JLong_compareUnsigned 1 = .ok (.ldc2_w 168, 3) := by decide +kernel
theorem d_JLong_compareUnsigned_4 : decode c_JLong_compareUnsigned 4 = .ok (.ladd, 1) := by decide +kernel
theorem d_JLong_compareUnsigned_5 : decode c_JLong_compareUnsigned 5 = .ok (.lload_n 2, 1) := by decide +kernel
theorem d_JLong_compareUnsigned_6 : decode c_JLong_compareUnsigned 6 = .ok (.ldc2_w 168, 3) := by decide +kernel
theorem d_JLong_compareUnsigned_9 : decode c_JLong_compareUnsigned 9 = .ok (.ladd, 1) := by decide +kernel
theorem d_JLong_compareUnsigned_10 : decode c_JLong_compareUnsigned 10 = .ok (.invokestatic 302, 3) := by decide +kernel
theorem d_JLong_compareUnsigned_13 : decode c_JLong_compareUnsigned 13 = .ok (.ireturn, 1) := by decide +kernel
abbrev c_JMath_max : ByteArray := prog_17_method_65_code
def y_JMath_max : MethodName := ⟨"java/lang/Math", "max", "(II)I"⟩
theorem d_JMath_max_0 : decode c_JMath_max 0 = .ok (.iload_n 0, 1) := by decide +kernel
theorem d_JMath_max_1 : decode c_JMath_max 1 = .ok (.iload_n 1, 1) := by decide +kernel
theorem d_JMath_max_2 : decode c_JMath_max 2 = .ok (.if_icmp .lt 7, 3) := by decide +kernel
theorem d_JMath_max_5 : decode c_JMath_max 5 = .ok (.iload_n 0, 1) := by decide +kernel
theorem d_JMath_max_6 : decode c_JMath_max 6 = .ok (.goto 4, 3) := by decide +kernel
theorem d_JMath_max_9 : decode c_JMath_max 9 = .ok (.iload_n 1, 1) := by decide +kernel
theorem d_JMath_max_10 : decode c_JMath_max 10 = .ok (.ireturn, 1) := by decide +kernel
abbrev c_JMath_min : ByteArray := prog_17_method_69_code
def y_JMath_min : MethodName := ⟨"java/lang/Math", "min", "(II)I"⟩
theorem d_JMath_min_0 : decode c_JMath_min 0 = .ok (.iload_n 0, 1) := by decide +kernel
theorem d_JMath_min_1 : decode c_JMath_min 1 = .ok (.iload_n 1, 1) := by decide +kernel
theorem d_JMath_min_2 : decode c_JMath_min 2 = .ok (.if_icmp .gt 7, 3) := by decide +kernel
theorem d_JMath_min_5 : decode c_JMath_min 5 = .ok (.iload_n 0, 1) := by decide +kernel
theorem d_JMath_min_6 : decode c_JMath_min 6 = .ok (.goto 4, 3) := by decide +kernel
theorem d_JMath_min_9 : decode c_JMath_min 9 = .ok (.iload_n 1, 1) := by decide +kernel
theorem d_JMath_min_10 : decode c_JMath_min 10 = .ok (.ireturn, 1) := by decide +kernel
abbrev c_JArr_fill : ByteArray := prog_19_method_103_code
def y_JArr_fill : MethodName := ⟨"java/util/Arrays", "fill", "([II)V"⟩
theorem d_JArr_fill_0 : decode c_JArr_fill 0 = .ok (.iconst 0, 1) := by decide +kernel
theorem d_JArr_fill_1 : decode c_JArr_fill 1 = .ok (.istore_n 2, 1) := by decide +kernel
theorem d_JArr_fill_2 : decode c_JArr_fill 2 = .ok (.aload_n 0, 1) := by decide +kernel
theorem d_JArr_fill_3 : decode c_JArr_fill 3 = .ok (.arraylength, 1) := by decide +kernel
theorem d_JArr_fill_4 : decode c_JArr_fill 4 = .ok (.istore_n 3, 1) := by decide +kernel
theorem d_JArr_fill_5 : decode c_JArr_fill 5 = .ok (.iload_n 2, 1) := by decide +kernel
theorem d_JArr_fill_6 : decode c_JArr_fill 6 = .ok (.iload_n 3, 1) := by decide +kernel
theorem d_JArr_fill_7 : decode c_JArr_fill 7 = .ok (.if_icmp .ge 13, 3) := by decide +kernel
theorem d_JArr_fill_10 : decode c_JArr_fill 10 = .ok (.aload_n 0, 1) := by decide +kernel
theorem d_JArr_fill_11 : decode c_JArr_fill 11 = .ok (.iload_n 2, 1) := by decide +kernel
theorem d_JArr_fill_12 : decode c_JArr_fill 12 = .ok (.iload_n 1, 1) := by decide +kernel
theorem d_JArr_fill_13 : decode c_JArr_fill 13 = .ok (.iastore, 1) := by decide +kernel
theorem d_JArr_fill_14 : decode c_JArr_fill 14 = .ok (.iinc 2 1, 3) := by decide +kernel
theorem d_JArr_fill_17 : decode c_JArr_fill 17 = .ok (.goto (-12), 3) := by decide +kernel
theorem d_JArr_fill_20 : decode c_JArr_fill 20 = .ok (.return_, 1) := by decide +kernel
