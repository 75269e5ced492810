-- ===== PART A: goes FIRST, ahead of the names: the tables' words, and 'selects' of the hidden methods out of them =====
/-- a hidden method of a kind that the tables say can be made, by its rows of tables_1 -/
def lw_okq (q : MethodName × Nat) : Prop := (q.1.cls ≠ "java/lang/invoke/MethodHandle" ∧ q.1.cls ≠ "java/lang/invoke/VarHandle") ∧ Cond.instantiable q.1.cls q.2 ∈ tables_1 ∧ Cond.privateMethod q.1 ∈ tables_1 ∧ Cond.instanceMethod q.1 ∈ tables_1
theorem lw_p0 : lw_okq (⟨"CycleChip$Cache", "place", "(I)I"⟩, 3) := ⟨⟨by decide +kernel, by decide +kernel⟩, List.mem_of_getElem? (i := 189) (by decide +kernel), List.mem_of_getElem? (i := 399) (by decide +kernel), List.mem_of_getElem? (i := 400) (by decide +kernel)⟩
theorem lw_p1 : lw_okq (⟨"CycleChip", "oneCycle", "()V"⟩, 8) := ⟨⟨by decide +kernel, by decide +kernel⟩, List.mem_of_getElem? (i := 20) (by decide +kernel), List.mem_of_getElem? (i := 462) (by decide +kernel), List.mem_of_getElem? (i := 463) (by decide +kernel)⟩
theorem lw_p2 : lw_okq (⟨"CycleChip$Interrupts", "endService", "(I)V"⟩, 6) := ⟨⟨by decide +kernel, by decide +kernel⟩, List.mem_of_getElem? (i := 74) (by decide +kernel), List.mem_of_getElem? (i := 551) (by decide +kernel), List.mem_of_getElem? (i := 552) (by decide +kernel)⟩
theorem lw_p3 : lw_okq (⟨"CycleChip$Interrupts", "claim", "()I"⟩, 6) := ⟨⟨by decide +kernel, by decide +kernel⟩, List.mem_of_getElem? (i := 74) (by decide +kernel), List.mem_of_getElem? (i := 569) (by decide +kernel), List.mem_of_getElem? (i := 570) (by decide +kernel)⟩
theorem lw_p4 : lw_okq (⟨"CycleChip$Serial", "state", "()I"⟩, 9) := ⟨⟨by decide +kernel, by decide +kernel⟩, List.mem_of_getElem? (i := 101) (by decide +kernel), List.mem_of_getElem? (i := 578) (by decide +kernel), List.mem_of_getElem? (i := 579) (by decide +kernel)⟩
theorem lw_p5 : lw_okq (⟨"CycleChip$Core", "act", "(I)V"⟩, 17) := ⟨⟨by decide +kernel, by decide +kernel⟩, List.mem_of_getElem? (i := 255) (by decide +kernel), List.mem_of_getElem? (i := 583) (by decide +kernel), List.mem_of_getElem? (i := 584) (by decide +kernel)⟩
theorem lw_p6 : lw_okq (⟨"CycleChip$Bus", "duration", "(I)I"⟩, 10) := ⟨⟨by decide +kernel, by decide +kernel⟩, List.mem_of_getElem? (i := 217) (by decide +kernel), List.mem_of_getElem? (i := 592) (by decide +kernel), List.mem_of_getElem? (i := 593) (by decide +kernel)⟩
theorem lw_p7 : lw_okq (⟨"CycleChip$Core", "interrupt", "(I)V"⟩, 17) := ⟨⟨by decide +kernel, by decide +kernel⟩, List.mem_of_getElem? (i := 255) (by decide +kernel), List.mem_of_getElem? (i := 613) (by decide +kernel), List.mem_of_getElem? (i := 614) (by decide +kernel)⟩
theorem lw_p8 : lw_okq (⟨"CycleChip$Core", "goToTrap", "(I)V"⟩, 17) := ⟨⟨by decide +kernel, by decide +kernel⟩, List.mem_of_getElem? (i := 255) (by decide +kernel), List.mem_of_getElem? (i := 630) (by decide +kernel), List.mem_of_getElem? (i := 631) (by decide +kernel)⟩
theorem lw_p9 : lw_okq (⟨"CycleChip$Core", "trap", "(II)V"⟩, 17) := ⟨⟨by decide +kernel, by decide +kernel⟩, List.mem_of_getElem? (i := 255) (by decide +kernel), List.mem_of_getElem? (i := 637) (by decide +kernel), List.mem_of_getElem? (i := 638) (by decide +kernel)⟩
theorem lw_p10 : lw_okq (⟨"CycleChip$Core", "actWith", "(II)V"⟩, 17) := ⟨⟨by decide +kernel, by decide +kernel⟩, List.mem_of_getElem? (i := 255) (by decide +kernel), List.mem_of_getElem? (i := 655) (by decide +kernel), List.mem_of_getElem? (i := 656) (by decide +kernel)⟩
theorem lw_p11 : lw_okq (⟨"CycleChip$Core", "jump", "(II)V"⟩, 17) := ⟨⟨by decide +kernel, by decide +kernel⟩, List.mem_of_getElem? (i := 255) (by decide +kernel), List.mem_of_getElem? (i := 663) (by decide +kernel), List.mem_of_getElem? (i := 664) (by decide +kernel)⟩
theorem lw_p12 : lw_okq (⟨"CycleChip$Core", "jumpToRegister", "(I)V"⟩, 17) := ⟨⟨by decide +kernel, by decide +kernel⟩, List.mem_of_getElem? (i := 255) (by decide +kernel), List.mem_of_getElem? (i := 667) (by decide +kernel), List.mem_of_getElem? (i := 668) (by decide +kernel)⟩
theorem lw_p13 : lw_okq (⟨"CycleChip$Core", "branch", "(I)V"⟩, 17) := ⟨⟨by decide +kernel, by decide +kernel⟩, List.mem_of_getElem? (i := 255) (by decide +kernel), List.mem_of_getElem? (i := 677) (by decide +kernel), List.mem_of_getElem? (i := 678) (by decide +kernel)⟩
theorem lw_p14 : lw_okq (⟨"CycleChip$Core", "calculate", "(I)V"⟩, 17) := ⟨⟨by decide +kernel, by decide +kernel⟩, List.mem_of_getElem? (i := 255) (by decide +kernel), List.mem_of_getElem? (i := 697) (by decide +kernel), List.mem_of_getElem? (i := 698) (by decide +kernel)⟩
theorem lw_p15 : lw_okq (⟨"CycleChip$Core", "calculateWithConstant", "(I)V"⟩, 17) := ⟨⟨by decide +kernel, by decide +kernel⟩, List.mem_of_getElem? (i := 255) (by decide +kernel), List.mem_of_getElem? (i := 711) (by decide +kernel), List.mem_of_getElem? (i := 712) (by decide +kernel)⟩
def lw_privs_1 : List (MethodName × Nat) := [(⟨"CycleChip$Cache", "place", "(I)I"⟩, 3), (⟨"CycleChip", "oneCycle", "()V"⟩, 8), (⟨"CycleChip$Interrupts", "endService", "(I)V"⟩, 6), (⟨"CycleChip$Interrupts", "claim", "()I"⟩, 6), (⟨"CycleChip$Serial", "state", "()I"⟩, 9), (⟨"CycleChip$Core", "act", "(I)V"⟩, 17), (⟨"CycleChip$Bus", "duration", "(I)I"⟩, 10), (⟨"CycleChip$Core", "interrupt", "(I)V"⟩, 17), (⟨"CycleChip$Core", "goToTrap", "(I)V"⟩, 17), (⟨"CycleChip$Core", "trap", "(II)V"⟩, 17), (⟨"CycleChip$Core", "actWith", "(II)V"⟩, 17), (⟨"CycleChip$Core", "jump", "(II)V"⟩, 17), (⟨"CycleChip$Core", "jumpToRegister", "(I)V"⟩, 17), (⟨"CycleChip$Core", "branch", "(I)V"⟩, 17), (⟨"CycleChip$Core", "calculate", "(I)V"⟩, 17), (⟨"CycleChip$Core", "calculateWithConstant", "(I)V"⟩, 17)]
theorem lw_r1 : ∀ q ∈ lw_privs_1, lw_okq q := List.forall_mem_cons.mpr ⟨lw_p0, List.forall_mem_cons.mpr ⟨lw_p1, List.forall_mem_cons.mpr ⟨lw_p2, List.forall_mem_cons.mpr ⟨lw_p3, List.forall_mem_cons.mpr ⟨lw_p4, List.forall_mem_cons.mpr ⟨lw_p5, List.forall_mem_cons.mpr ⟨lw_p6, List.forall_mem_cons.mpr ⟨lw_p7, List.forall_mem_cons.mpr ⟨lw_p8, List.forall_mem_cons.mpr ⟨lw_p9, List.forall_mem_cons.mpr ⟨lw_p10, List.forall_mem_cons.mpr ⟨lw_p11, List.forall_mem_cons.mpr ⟨lw_p12, List.forall_mem_cons.mpr ⟨lw_p13, List.forall_mem_cons.mpr ⟨lw_p14, List.forall_mem_cons.mpr ⟨lw_p15, fun _ h => absurd h List.not_mem_nil⟩⟩⟩⟩⟩⟩⟩⟩⟩⟩⟩⟩⟩⟩⟩⟩
theorem lw_p16 : lw_okq (⟨"CycleChip$Core", "load", "(I)V"⟩, 17) := ⟨⟨by decide +kernel, by decide +kernel⟩, List.mem_of_getElem? (i := 255) (by decide +kernel), List.mem_of_getElem? (i := 715) (by decide +kernel), List.mem_of_getElem? (i := 716) (by decide +kernel)⟩
theorem lw_p17 : lw_okq (⟨"CycleChip$Core", "wantDevice", "(IZII)V"⟩, 17) := ⟨⟨by decide +kernel, by decide +kernel⟩, List.mem_of_getElem? (i := 255) (by decide +kernel), List.mem_of_getElem? (i := 722) (by decide +kernel), List.mem_of_getElem? (i := 723) (by decide +kernel)⟩
theorem lw_p18 : lw_okq (⟨"CycleChip$Core", "store", "(I)V"⟩, 17) := ⟨⟨by decide +kernel, by decide +kernel⟩, List.mem_of_getElem? (i := 255) (by decide +kernel), List.mem_of_getElem? (i := 726) (by decide +kernel), List.mem_of_getElem? (i := 727) (by decide +kernel)⟩
theorem lw_p19 : lw_okq (⟨"CycleChip$Core", "fence", "(I)V"⟩, 17) := ⟨⟨by decide +kernel, by decide +kernel⟩, List.mem_of_getElem? (i := 255) (by decide +kernel), List.mem_of_getElem? (i := 744) (by decide +kernel), List.mem_of_getElem? (i := 745) (by decide +kernel)⟩
theorem lw_p20 : lw_okq (⟨"CycleChip$Core", "changeControl", "(I)V"⟩, 17) := ⟨⟨by decide +kernel, by decide +kernel⟩, List.mem_of_getElem? (i := 255) (by decide +kernel), List.mem_of_getElem? (i := 752) (by decide +kernel), List.mem_of_getElem? (i := 753) (by decide +kernel)⟩
theorem lw_p21 : lw_okq (⟨"CycleChip$Core", "system", "(I)V"⟩, 17) := ⟨⟨by decide +kernel, by decide +kernel⟩, List.mem_of_getElem? (i := 255) (by decide +kernel), List.mem_of_getElem? (i := 764) (by decide +kernel), List.mem_of_getElem? (i := 765) (by decide +kernel)⟩
theorem lw_p22 : lw_okq (⟨"CycleChipModel", "controlValue", "(I)I"⟩, 53) := ⟨⟨by decide +kernel, by decide +kernel⟩, List.mem_of_getElem? (i := 827) (by decide +kernel), List.mem_of_getElem? (i := 1031) (by decide +kernel), List.mem_of_getElem? (i := 1032) (by decide +kernel)⟩
theorem lw_p23 : lw_okq (⟨"CycleChipModel", "mip", "()I"⟩, 53) := ⟨⟨by decide +kernel, by decide +kernel⟩, List.mem_of_getElem? (i := 827) (by decide +kernel), List.mem_of_getElem? (i := 1035) (by decide +kernel), List.mem_of_getElem? (i := 1036) (by decide +kernel)⟩
theorem lw_p24 : lw_okq (⟨"CycleChipModel", "best", "()I"⟩, 53) := ⟨⟨by decide +kernel, by decide +kernel⟩, List.mem_of_getElem? (i := 827) (by decide +kernel), List.mem_of_getElem? (i := 1040) (by decide +kernel), List.mem_of_getElem? (i := 1041) (by decide +kernel)⟩
theorem lw_p25 : lw_okq (⟨"CycleChipModel", "priority", "(I)I"⟩, 53) := ⟨⟨by decide +kernel, by decide +kernel⟩, List.mem_of_getElem? (i := 827) (by decide +kernel), List.mem_of_getElem? (i := 1044) (by decide +kernel), List.mem_of_getElem? (i := 1045) (by decide +kernel)⟩
theorem lw_p26 : lw_okq (⟨"CycleChipModel", "events", "()V"⟩, 53) := ⟨⟨by decide +kernel, by decide +kernel⟩, List.mem_of_getElem? (i := 827) (by decide +kernel), List.mem_of_getElem? (i := 1060) (by decide +kernel), List.mem_of_getElem? (i := 1061) (by decide +kernel)⟩
theorem lw_p27 : lw_okq (⟨"CycleChipModel", "happen", "(II)V"⟩, 53) := ⟨⟨by decide +kernel, by decide +kernel⟩, List.mem_of_getElem? (i := 827) (by decide +kernel), List.mem_of_getElem? (i := 1064) (by decide +kernel), List.mem_of_getElem? (i := 1065) (by decide +kernel)⟩
theorem lw_p28 : lw_okq (⟨"CycleChipModel", "sender", "()V"⟩, 53) := ⟨⟨by decide +kernel, by decide +kernel⟩, List.mem_of_getElem? (i := 827) (by decide +kernel), List.mem_of_getElem? (i := 1068) (by decide +kernel), List.mem_of_getElem? (i := 1069) (by decide +kernel)⟩
theorem lw_p29 : lw_okq (⟨"CycleChipModel", "raiseLines", "()V"⟩, 53) := ⟨⟨by decide +kernel, by decide +kernel⟩, List.mem_of_getElem? (i := 827) (by decide +kernel), List.mem_of_getElem? (i := 1073) (by decide +kernel), List.mem_of_getElem? (i := 1074) (by decide +kernel)⟩
theorem lw_p30 : lw_okq (⟨"CycleChipModel", "busPart", "()V"⟩, 53) := ⟨⟨by decide +kernel, by decide +kernel⟩, List.mem_of_getElem? (i := 827) (by decide +kernel), List.mem_of_getElem? (i := 1077) (by decide +kernel), List.mem_of_getElem? (i := 1078) (by decide +kernel)⟩
theorem lw_p31 : lw_okq (⟨"CycleChipModel", "device", "()V"⟩, 53) := ⟨⟨by decide +kernel, by decide +kernel⟩, List.mem_of_getElem? (i := 827) (by decide +kernel), List.mem_of_getElem? (i := 1081) (by decide +kernel), List.mem_of_getElem? (i := 1082) (by decide +kernel)⟩
def lw_privs_2 : List (MethodName × Nat) := [(⟨"CycleChip$Core", "load", "(I)V"⟩, 17), (⟨"CycleChip$Core", "wantDevice", "(IZII)V"⟩, 17), (⟨"CycleChip$Core", "store", "(I)V"⟩, 17), (⟨"CycleChip$Core", "fence", "(I)V"⟩, 17), (⟨"CycleChip$Core", "changeControl", "(I)V"⟩, 17), (⟨"CycleChip$Core", "system", "(I)V"⟩, 17), (⟨"CycleChipModel", "controlValue", "(I)I"⟩, 53), (⟨"CycleChipModel", "mip", "()I"⟩, 53), (⟨"CycleChipModel", "best", "()I"⟩, 53), (⟨"CycleChipModel", "priority", "(I)I"⟩, 53), (⟨"CycleChipModel", "events", "()V"⟩, 53), (⟨"CycleChipModel", "happen", "(II)V"⟩, 53), (⟨"CycleChipModel", "sender", "()V"⟩, 53), (⟨"CycleChipModel", "raiseLines", "()V"⟩, 53), (⟨"CycleChipModel", "busPart", "()V"⟩, 53), (⟨"CycleChipModel", "device", "()V"⟩, 53)]
theorem lw_r2 : ∀ q ∈ lw_privs_2, lw_okq q := List.forall_mem_cons.mpr ⟨lw_p16, List.forall_mem_cons.mpr ⟨lw_p17, List.forall_mem_cons.mpr ⟨lw_p18, List.forall_mem_cons.mpr ⟨lw_p19, List.forall_mem_cons.mpr ⟨lw_p20, List.forall_mem_cons.mpr ⟨lw_p21, List.forall_mem_cons.mpr ⟨lw_p22, List.forall_mem_cons.mpr ⟨lw_p23, List.forall_mem_cons.mpr ⟨lw_p24, List.forall_mem_cons.mpr ⟨lw_p25, List.forall_mem_cons.mpr ⟨lw_p26, List.forall_mem_cons.mpr ⟨lw_p27, List.forall_mem_cons.mpr ⟨lw_p28, List.forall_mem_cons.mpr ⟨lw_p29, List.forall_mem_cons.mpr ⟨lw_p30, List.forall_mem_cons.mpr ⟨lw_p31, fun _ h => absurd h List.not_mem_nil⟩⟩⟩⟩⟩⟩⟩⟩⟩⟩⟩⟩⟩⟩⟩⟩
theorem lw_p32 : lw_okq (⟨"CycleChipModel", "putDevice", "()V"⟩, 53) := ⟨⟨by decide +kernel, by decide +kernel⟩, List.mem_of_getElem? (i := 827) (by decide +kernel), List.mem_of_getElem? (i := 1085) (by decide +kernel), List.mem_of_getElem? (i := 1086) (by decide +kernel)⟩
theorem lw_p33 : lw_okq (⟨"CycleChipModel", "act", "(I)V"⟩, 53) := ⟨⟨by decide +kernel, by decide +kernel⟩, List.mem_of_getElem? (i := 827) (by decide +kernel), List.mem_of_getElem? (i := 1093) (by decide +kernel), List.mem_of_getElem? (i := 1094) (by decide +kernel)⟩
theorem lw_p34 : lw_okq (⟨"CycleChipModel", "loaded", "()I"⟩, 53) := ⟨⟨by decide +kernel, by decide +kernel⟩, List.mem_of_getElem? (i := 827) (by decide +kernel), List.mem_of_getElem? (i := 1097) (by decide +kernel), List.mem_of_getElem? (i := 1098) (by decide +kernel)⟩
theorem lw_p35 : lw_okq (⟨"CycleChipModel", "claim", "()I"⟩, 53) := ⟨⟨by decide +kernel, by decide +kernel⟩, List.mem_of_getElem? (i := 827) (by decide +kernel), List.mem_of_getElem? (i := 1101) (by decide +kernel), List.mem_of_getElem? (i := 1102) (by decide +kernel)⟩
theorem lw_p36 : lw_okq (⟨"CycleChipModel", "bits", "(Z)I"⟩, 53) := ⟨⟨by decide +kernel, by decide +kernel⟩, List.mem_of_getElem? (i := 827) (by decide +kernel), List.mem_of_getElem? (i := 1105) (by decide +kernel), List.mem_of_getElem? (i := 1106) (by decide +kernel)⟩
theorem lw_p37 : lw_okq (⟨"CycleChipModel", "takeByte", "()I"⟩, 53) := ⟨⟨by decide +kernel, by decide +kernel⟩, List.mem_of_getElem? (i := 827) (by decide +kernel), List.mem_of_getElem? (i := 1109) (by decide +kernel), List.mem_of_getElem? (i := 1110) (by decide +kernel)⟩
theorem lw_p38 : lw_okq (⟨"CycleChipModel", "set", "(II)V"⟩, 53) := ⟨⟨by decide +kernel, by decide +kernel⟩, List.mem_of_getElem? (i := 827) (by decide +kernel), List.mem_of_getElem? (i := 1113) (by decide +kernel), List.mem_of_getElem? (i := 1114) (by decide +kernel)⟩
theorem lw_p39 : lw_okq (⟨"CycleChipModel", "fill", "(II)V"⟩, 53) := ⟨⟨by decide +kernel, by decide +kernel⟩, List.mem_of_getElem? (i := 827) (by decide +kernel), List.mem_of_getElem? (i := 1117) (by decide +kernel), List.mem_of_getElem? (i := 1118) (by decide +kernel)⟩
theorem lw_p40 : lw_okq (⟨"CycleChipModel", "core", "()V"⟩, 53) := ⟨⟨by decide +kernel, by decide +kernel⟩, List.mem_of_getElem? (i := 827) (by decide +kernel), List.mem_of_getElem? (i := 1121) (by decide +kernel), List.mem_of_getElem? (i := 1122) (by decide +kernel)⟩
theorem lw_p41 : lw_okq (⟨"CycleChipModel", "enter", "(III)V"⟩, 53) := ⟨⟨by decide +kernel, by decide +kernel⟩, List.mem_of_getElem? (i := 827) (by decide +kernel), List.mem_of_getElem? (i := 1126) (by decide +kernel), List.mem_of_getElem? (i := 1127) (by decide +kernel)⟩
theorem lw_p42 : lw_okq (⟨"CycleChipModel", "trap", "(II)V"⟩, 53) := ⟨⟨by decide +kernel, by decide +kernel⟩, List.mem_of_getElem? (i := 827) (by decide +kernel), List.mem_of_getElem? (i := 1130) (by decide +kernel), List.mem_of_getElem? (i := 1131) (by decide +kernel)⟩
theorem lw_p43 : lw_okq (⟨"CycleChipModel", "want", "(II)V"⟩, 53) := ⟨⟨by decide +kernel, by decide +kernel⟩, List.mem_of_getElem? (i := 827) (by decide +kernel), List.mem_of_getElem? (i := 1134) (by decide +kernel), List.mem_of_getElem? (i := 1135) (by decide +kernel)⟩
theorem lw_p44 : lw_okq (⟨"CycleChipModel", "instruction", "(I)V"⟩, 53) := ⟨⟨by decide +kernel, by decide +kernel⟩, List.mem_of_getElem? (i := 827) (by decide +kernel), List.mem_of_getElem? (i := 1138) (by decide +kernel), List.mem_of_getElem? (i := 1139) (by decide +kernel)⟩
theorem lw_p45 : lw_okq (⟨"CycleChipModel", "jump", "(II)V"⟩, 53) := ⟨⟨by decide +kernel, by decide +kernel⟩, List.mem_of_getElem? (i := 827) (by decide +kernel), List.mem_of_getElem? (i := 1143) (by decide +kernel), List.mem_of_getElem? (i := 1144) (by decide +kernel)⟩
theorem lw_p46 : lw_okq (⟨"CycleChipModel", "branch", "(IIII)V"⟩, 53) := ⟨⟨by decide +kernel, by decide +kernel⟩, List.mem_of_getElem? (i := 827) (by decide +kernel), List.mem_of_getElem? (i := 1147) (by decide +kernel), List.mem_of_getElem? (i := 1148) (by decide +kernel)⟩
theorem lw_p47 : lw_okq (⟨"CycleChipModel", "both", "(IIII)V"⟩, 53) := ⟨⟨by decide +kernel, by decide +kernel⟩, List.mem_of_getElem? (i := 827) (by decide +kernel), List.mem_of_getElem? (i := 1154) (by decide +kernel), List.mem_of_getElem? (i := 1155) (by decide +kernel)⟩
def lw_privs_3 : List (MethodName × Nat) := [(⟨"CycleChipModel", "putDevice", "()V"⟩, 53), (⟨"CycleChipModel", "act", "(I)V"⟩, 53), (⟨"CycleChipModel", "loaded", "()I"⟩, 53), (⟨"CycleChipModel", "claim", "()I"⟩, 53), (⟨"CycleChipModel", "bits", "(Z)I"⟩, 53), (⟨"CycleChipModel", "takeByte", "()I"⟩, 53), (⟨"CycleChipModel", "set", "(II)V"⟩, 53), (⟨"CycleChipModel", "fill", "(II)V"⟩, 53), (⟨"CycleChipModel", "core", "()V"⟩, 53), (⟨"CycleChipModel", "enter", "(III)V"⟩, 53), (⟨"CycleChipModel", "trap", "(II)V"⟩, 53), (⟨"CycleChipModel", "want", "(II)V"⟩, 53), (⟨"CycleChipModel", "instruction", "(I)V"⟩, 53), (⟨"CycleChipModel", "jump", "(II)V"⟩, 53), (⟨"CycleChipModel", "branch", "(IIII)V"⟩, 53), (⟨"CycleChipModel", "both", "(IIII)V"⟩, 53)]
theorem lw_r3 : ∀ q ∈ lw_privs_3, lw_okq q := List.forall_mem_cons.mpr ⟨lw_p32, List.forall_mem_cons.mpr ⟨lw_p33, List.forall_mem_cons.mpr ⟨lw_p34, List.forall_mem_cons.mpr ⟨lw_p35, List.forall_mem_cons.mpr ⟨lw_p36, List.forall_mem_cons.mpr ⟨lw_p37, List.forall_mem_cons.mpr ⟨lw_p38, List.forall_mem_cons.mpr ⟨lw_p39, List.forall_mem_cons.mpr ⟨lw_p40, List.forall_mem_cons.mpr ⟨lw_p41, List.forall_mem_cons.mpr ⟨lw_p42, List.forall_mem_cons.mpr ⟨lw_p43, List.forall_mem_cons.mpr ⟨lw_p44, List.forall_mem_cons.mpr ⟨lw_p45, List.forall_mem_cons.mpr ⟨lw_p46, List.forall_mem_cons.mpr ⟨lw_p47, fun _ h => absurd h List.not_mem_nil⟩⟩⟩⟩⟩⟩⟩⟩⟩⟩⟩⟩⟩⟩⟩⟩
theorem lw_p48 : lw_okq (⟨"CycleChipModel", "one", "(III)V"⟩, 53) := ⟨⟨by decide +kernel, by decide +kernel⟩, List.mem_of_getElem? (i := 827) (by decide +kernel), List.mem_of_getElem? (i := 1167) (by decide +kernel), List.mem_of_getElem? (i := 1168) (by decide +kernel)⟩
theorem lw_p49 : lw_okq (⟨"CycleChipModel", "access", "(ZIII)V"⟩, 53) := ⟨⟨by decide +kernel, by decide +kernel⟩, List.mem_of_getElem? (i := 827) (by decide +kernel), List.mem_of_getElem? (i := 1171) (by decide +kernel), List.mem_of_getElem? (i := 1172) (by decide +kernel)⟩
theorem lw_p50 : lw_okq (⟨"CycleChipModel", "save", "(II)V"⟩, 53) := ⟨⟨by decide +kernel, by decide +kernel⟩, List.mem_of_getElem? (i := 827) (by decide +kernel), List.mem_of_getElem? (i := 1175) (by decide +kernel), List.mem_of_getElem? (i := 1176) (by decide +kernel)⟩
theorem lw_p51 : lw_okq (⟨"CycleChipModel", "fence", "(I)V"⟩, 53) := ⟨⟨by decide +kernel, by decide +kernel⟩, List.mem_of_getElem? (i := 827) (by decide +kernel), List.mem_of_getElem? (i := 1179) (by decide +kernel), List.mem_of_getElem? (i := 1180) (by decide +kernel)⟩
theorem lw_p52 : lw_okq (⟨"CycleChipModel", "system", "(III)V"⟩, 53) := ⟨⟨by decide +kernel, by decide +kernel⟩, List.mem_of_getElem? (i := 827) (by decide +kernel), List.mem_of_getElem? (i := 1183) (by decide +kernel), List.mem_of_getElem? (i := 1184) (by decide +kernel)⟩
theorem lw_p53 : lw_okq (⟨"CycleChipModel", "swap", "(III)V"⟩, 53) := ⟨⟨by decide +kernel, by decide +kernel⟩, List.mem_of_getElem? (i := 827) (by decide +kernel), List.mem_of_getElem? (i := 1190) (by decide +kernel), List.mem_of_getElem? (i := 1191) (by decide +kernel)⟩
def lw_privs_4 : List (MethodName × Nat) := [(⟨"CycleChipModel", "one", "(III)V"⟩, 53), (⟨"CycleChipModel", "access", "(ZIII)V"⟩, 53), (⟨"CycleChipModel", "save", "(II)V"⟩, 53), (⟨"CycleChipModel", "fence", "(I)V"⟩, 53), (⟨"CycleChipModel", "system", "(III)V"⟩, 53), (⟨"CycleChipModel", "swap", "(III)V"⟩, 53)]
theorem lw_r4 : ∀ q ∈ lw_privs_4, lw_okq q := List.forall_mem_cons.mpr ⟨lw_p48, List.forall_mem_cons.mpr ⟨lw_p49, List.forall_mem_cons.mpr ⟨lw_p50, List.forall_mem_cons.mpr ⟨lw_p51, List.forall_mem_cons.mpr ⟨lw_p52, List.forall_mem_cons.mpr ⟨lw_p53, fun _ h => absurd h List.not_mem_nil⟩⟩⟩⟩⟩⟩
def lw_privs : List (MethodName × Nat) := lw_privs_1 ++ (lw_privs_2 ++ (lw_privs_3 ++ (lw_privs_4)))
def lw_tbl : List Cond := k2_sels lw_privs ++ tables_1
theorem lw_privs_ok : ∀ q ∈ lw_privs, lw_okq q := by
  show ∀ q ∈ lw_privs_1 ++ (lw_privs_2 ++ (lw_privs_3 ++ (lw_privs_4))), lw_okq q
  exact List.forall_mem_append.mpr ⟨lw_r1, List.forall_mem_append.mpr ⟨lw_r2, List.forall_mem_append.mpr ⟨lw_r3, lw_r4⟩⟩⟩

-- the words that hold through calls, and the nest's
def gw : List Cond := lw_tbl.filter goodWord
def gn_is : Cond → Bool
  | .methodLinkNest .. | .fieldLinkNest .. => true
  | _ => false
def gn : List Cond := lw_tbl.filter gn_is
theorem gw_of (i : Nat) {w : Cond} (h : tables_1[i]? = some w) (hg : goodWord w = true) : w ∈ gw := List.mem_filter.mpr ⟨List.mem_append_right _ (List.mem_of_getElem? h), hg⟩
theorem gn_of (i : Nat) {w : Cond} (h : tables_1[i]? = some w) (hg : gn_is w = true) : w ∈ gn := List.mem_filter.mpr ⟨List.mem_append_right _ (List.mem_of_getElem? h), hg⟩
theorem gw_sel (i : Nat) {q : MethodName × Nat} (h : lw_privs[i]? = some q) (hg : goodWord (Cond.selects q.1.cls q.1 q.1) = true) : Cond.selects q.1.cls q.1 q.1 ∈ gw := List.mem_filter.mpr ⟨List.mem_append_left _ (List.mem_map.mpr ⟨q, List.mem_of_getElem? h, rfl⟩), hg⟩
theorem gw_good {ws : List Cond} (h : ∀ w ∈ ws, w ∈ gw) : GoodIn gw ws := fun w hw => ⟨h w hw, good_of_word (List.mem_filter.mp (h w hw)).2⟩
theorem gw_tbl {args : Array Value} {s : State} (h : ∀ w ∈ lw_tbl, w.before args s = true) : ∀ w ∈ gw, w.before args s = true := fun w hw => h w (List.mem_filter.mp hw).1
def cv_N (U : State) : Prop := ∀ w ∈ gn, va_Nw w U
theorem gn_tbl {args : Array Value} {s : State} (h : ∀ w ∈ lw_tbl, w.before args s = true) : cv_N s := fun w hw => by
  have h2 := (List.mem_filter.mp hw).2
  have h1 := h w (List.mem_filter.mp hw).1
  cases w <;> first | exact va_Nw.of rfl h1 | exact absurd h2 (by simp [gn_is])
theorem cv_N.warm {s U : State} (hW : s.WarmedH U.vm) (h : cv_N s) : cv_N U := fun w hw => by
  have h2 := (List.mem_filter.mp hw).2
  have h1 := h w hw
  cases w <;> first | exact va_Nw.warmM hW h1 | exact va_Nw.warmF hW h1 | exact absurd h2 (by simp [gn_is])
theorem cv_N.same {s U : State} (hv : s.vm = U.vm) (h : cv_N s) : cv_N U := fun w hw => by
  have h2 := (List.mem_filter.mp hw).2
  have h1 := h w hw
  cases w <;> first | exact va_Nw.same rfl hv h1 | exact absurd h2 (by simp [gn_is])
def R_Chip : String := "CycleChip"
def T_Chip : u_T := fun k => match k with
  | 0 => ("CycleChip", "memory", "[I", true)
  | 1 => ("CycleChip", "code", "LCycleChip$Cache;", true)
  | 2 => ("CycleChip", "data", "LCycleChip$Cache;", true)
  | 3 => ("CycleChip", "buffer", "LCycleChip$StoreBuffer;", true)
  | 4 => ("CycleChip", "events", "LCycleChip$Events;", true)
  | 5 => ("CycleChip", "devices", "LCycleChip$Devices;", true)
  | 6 => ("CycleChip", "bus", "LCycleChip$Bus;", true)
  | _ => ("CycleChip", "core", "LCycleChip$Core;", true)
def t_Chip : Nat → FieldType := fun k => match k with
  | 0 => .array .int
  | 1 => .object "CycleChip$Cache"
  | 2 => .object "CycleChip$Cache"
  | 3 => .object "CycleChip$StoreBuffer"
  | 4 => .object "CycleChip$Events"
  | 5 => .object "CycleChip$Devices"
  | 6 => .object "CycleChip$Bus"
  | _ => .object "CycleChip$Core"
theorem n_Chip : ∀ a, a < 8 → ∀ b, b < 8 → a ≠ b → (T_Chip a).2.1 ≠ (T_Chip b).2.1 := by decide +kernel
theorem o_Chip : ∀ k, k < 8 → parseFieldDescriptor (T_Chip k).2.2.1 = some (t_Chip k) := by decide +kernel
abbrev k_Chip (h : Nat) (r_memory : Nat) (r_code : Nat) (r_data : Nat) (r_buffer : Nat) (r_events : Nat) (r_devices : Nat) (r_bus : Nat) (r_core : Nat) : Nat × va_E := (h, .inr (0, [.ref r_memory, .ref r_code, .ref r_data, .ref r_buffer, .ref r_events, .ref r_devices, .ref r_bus, .ref r_core]))
def R_Bus : String := "CycleChip$Bus"
def T_Bus : u_T := fun k => match k with
  | 0 => ("CycleChip$Bus", "latency", "I", true)
  | 1 => ("CycleChip$Bus", "memory", "[I", true)
  | 2 => ("CycleChip$Bus", "code", "LCycleChip$Cache;", true)
  | 3 => ("CycleChip$Bus", "data", "LCycleChip$Cache;", true)
  | 4 => ("CycleChip$Bus", "buffer", "LCycleChip$StoreBuffer;", true)
  | 5 => ("CycleChip$Bus", "wanted", "I", false)
  | 6 => ("CycleChip$Bus", "block", "I", false)
  | 7 => ("CycleChip$Bus", "doneCycle", "I", false)
  | 8 => ("CycleChip$Bus", "begunBefore", "I", false)
  | _ => ("CycleChip$Bus", "served", "I", false)
def t_Bus : Nat → FieldType := fun k => match k with
  | 0 => .int
  | 1 => .array .int
  | 2 => .object "CycleChip$Cache"
  | 3 => .object "CycleChip$Cache"
  | 4 => .object "CycleChip$StoreBuffer"
  | 5 => .int
  | 6 => .int
  | 7 => .int
  | 8 => .int
  | _ => .int
theorem n_Bus : ∀ a, a < 10 → ∀ b, b < 10 → a ≠ b → (T_Bus a).2.1 ≠ (T_Bus b).2.1 := by decide +kernel
theorem o_Bus : ∀ k, k < 10 → parseFieldDescriptor (T_Bus k).2.2.1 = some (t_Bus k) := by decide +kernel
abbrev k_Bus (h : Nat) (r_memory : Nat) (r_code : Nat) (r_data : Nat) (r_buffer : Nat) (v : Nat → Int32) : Nat × va_E := (h, .inr (1, [.int (v 0), .ref r_memory, .ref r_code, .ref r_data, .ref r_buffer, .int (v 1), .int (v 2), .int (v 3), .int (v 4), .int (v 5)]))
def R_ByteQueue : String := "CycleChip$ByteQueue"
def T_ByteQueue : u_T := fun k => match k with
  | 0 => ("CycleChip$ByteQueue", "bytes", "[I", true)
  | 1 => ("CycleChip$ByteQueue", "first", "I", false)
  | _ => ("CycleChip$ByteQueue", "count", "I", false)
def t_ByteQueue : Nat → FieldType := fun k => match k with
  | 0 => .array .int
  | 1 => .int
  | _ => .int
theorem n_ByteQueue : ∀ a, a < 3 → ∀ b, b < 3 → a ≠ b → (T_ByteQueue a).2.1 ≠ (T_ByteQueue b).2.1 := by decide +kernel
theorem o_ByteQueue : ∀ k, k < 3 → parseFieldDescriptor (T_ByteQueue k).2.2.1 = some (t_ByteQueue k) := by decide +kernel
abbrev k_ByteQueue (h : Nat) (r_bytes : Nat) (v : Nat → Int32) : Nat × va_E := (h, .inr (2, [.ref r_bytes, .int (v 0), .int (v 1)]))
def R_Cache : String := "CycleChip$Cache"
def T_Cache : u_T := fun k => match k with
  | 0 => ("CycleChip$Cache", "lines", "I", true)
  | 1 => ("CycleChip$Cache", "blocks", "[I", true)
  | _ => ("CycleChip$Cache", "words", "[I", true)
def t_Cache : Nat → FieldType := fun k => match k with
  | 0 => .int
  | 1 => .array .int
  | _ => .array .int
theorem n_Cache : ∀ a, a < 3 → ∀ b, b < 3 → a ≠ b → (T_Cache a).2.1 ≠ (T_Cache b).2.1 := by decide +kernel
theorem o_Cache : ∀ k, k < 3 → parseFieldDescriptor (T_Cache k).2.2.1 = some (t_Cache k) := by decide +kernel
abbrev k_Cache (h : Nat) (r_blocks : Nat) (r_words : Nat) (v : Nat → Int32) : Nat × va_E := (h, .inr (3, [.int (v 0), .ref r_blocks, .ref r_words]))
def R_Control : String := "CycleChip$Control"
def T_Control : u_T := fun k => match k with
  | 0 => ("CycleChip$Control", "status", "I", false)
  | 1 => ("CycleChip$Control", "enabled", "I", false)
  | 2 => ("CycleChip$Control", "vector", "I", false)
  | 3 => ("CycleChip$Control", "scratch", "I", false)
  | 4 => ("CycleChip$Control", "trapPc", "I", false)
  | 5 => ("CycleChip$Control", "cause", "I", false)
  | _ => ("CycleChip$Control", "trapValue", "I", false)
def t_Control : Nat → FieldType := fun k => match k with
  | 0 => .int
  | 1 => .int
  | 2 => .int
  | 3 => .int
  | 4 => .int
  | 5 => .int
  | _ => .int
theorem n_Control : ∀ a, a < 7 → ∀ b, b < 7 → a ≠ b → (T_Control a).2.1 ≠ (T_Control b).2.1 := by decide +kernel
theorem o_Control : ∀ k, k < 7 → parseFieldDescriptor (T_Control k).2.2.1 = some (t_Control k) := by decide +kernel
abbrev k_Control (h : Nat) (v : Nat → Int32) : Nat × va_E := (h, .inr (4, [.int (v 0), .int (v 1), .int (v 2), .int (v 3), .int (v 4), .int (v 5), .int (v 6)]))
def R_Core : String := "CycleChip$Core"
def T_Core : u_T := fun k => match k with
  | 0 => ("CycleChip$Core", "registers", "[I", true)
  | 1 => ("CycleChip$Core", "control", "LCycleChip$Control;", true)
  | 2 => ("CycleChip$Core", "acts", "LCycleChip$Log;", true)
  | 3 => ("CycleChip$Core", "pc", "I", false)
  | 4 => ("CycleChip$Core", "cycle", "I", false)
  | 5 => ("CycleChip$Core", "trapCount", "I", false)
  | 6 => ("CycleChip$Core", "devices", "LCycleChip$Devices;", true)
  | 7 => ("CycleChip$Core", "bus", "LCycleChip$Bus;", true)
  | 8 => ("CycleChip$Core", "code", "LCycleChip$Cache;", true)
  | 9 => ("CycleChip$Core", "data", "LCycleChip$Cache;", true)
  | 10 => ("CycleChip$Core", "buffer", "LCycleChip$StoreBuffer;", true)
  | 11 => ("CycleChip$Core", "rest", "I", false)
  | 12 => ("CycleChip$Core", "asleep", "Z", false)
  | 13 => ("CycleChip$Core", "deviceRegister", "I", false)
  | 14 => ("CycleChip$Core", "deviceStores", "Z", false)
  | 15 => ("CycleChip$Core", "deviceValue", "I", false)
  | _ => ("CycleChip$Core", "deviceTarget", "I", false)
def t_Core : Nat → FieldType := fun k => match k with
  | 0 => .array .int
  | 1 => .object "CycleChip$Control"
  | 2 => .object "CycleChip$Log"
  | 3 => .int
  | 4 => .int
  | 5 => .int
  | 6 => .object "CycleChip$Devices"
  | 7 => .object "CycleChip$Bus"
  | 8 => .object "CycleChip$Cache"
  | 9 => .object "CycleChip$Cache"
  | 10 => .object "CycleChip$StoreBuffer"
  | 11 => .int
  | 12 => .boolean
  | 13 => .int
  | 14 => .boolean
  | 15 => .int
  | _ => .int
theorem n_Core : ∀ a, a < 17 → ∀ b, b < 17 → a ≠ b → (T_Core a).2.1 ≠ (T_Core b).2.1 := by decide +kernel
theorem o_Core : ∀ k, k < 17 → parseFieldDescriptor (T_Core k).2.2.1 = some (t_Core k) := by decide +kernel
abbrev k_Core (h : Nat) (r_registers : Nat) (r_control : Nat) (r_acts : Nat) (r_devices : Nat) (r_bus : Nat) (r_code : Nat) (r_data : Nat) (r_buffer : Nat) (v : Nat → Int32) : Nat × va_E := (h, .inr (5, [.ref r_registers, .ref r_control, .ref r_acts, .int (v 0), .int (v 1), .int (v 2), .ref r_devices, .ref r_bus, .ref r_code, .ref r_data, .ref r_buffer, .int (v 3), .int (v 4), .int (v 5), .int (v 6), .int (v 7), .int (v 8)]))
def R_Devices : String := "CycleChip$Devices"
def T_Devices : u_T := fun k => match k with
  | 0 => ("CycleChip$Devices", "interrupts", "LCycleChip$Interrupts;", true)
  | 1 => ("CycleChip$Devices", "serial", "LCycleChip$Serial;", true)
  | 2 => ("CycleChip$Devices", "time", "J", false)
  | _ => ("CycleChip$Devices", "compare", "J", false)
def t_Devices : Nat → FieldType := fun k => match k with
  | 0 => .object "CycleChip$Interrupts"
  | 1 => .object "CycleChip$Serial"
  | 2 => .long
  | _ => .long
theorem n_Devices : ∀ a, a < 4 → ∀ b, b < 4 → a ≠ b → (T_Devices a).2.1 ≠ (T_Devices b).2.1 := by decide +kernel
theorem o_Devices : ∀ k, k < 4 → parseFieldDescriptor (T_Devices k).2.2.1 = some (t_Devices k) := by decide +kernel
abbrev k_Devices (h : Nat) (r_interrupts : Nat) (r_serial : Nat) (w : Nat → Int64) : Nat × va_E := (h, .inr (6, [.ref r_interrupts, .ref r_serial, .long (w 0), .long (w 1)]))
def R_Events : String := "CycleChip$Events"
def T_Events : u_T := fun k => match k with
  | 0 => ("CycleChip$Events", "due", "[I", true)
  | 1 => ("CycleChip$Events", "whats", "[I", true)
  | 2 => ("CycleChip$Events", "values", "[I", true)
  | _ => ("CycleChip$Events", "count", "I", false)
def t_Events : Nat → FieldType := fun k => match k with
  | 0 => .array .int
  | 1 => .array .int
  | 2 => .array .int
  | _ => .int
theorem n_Events : ∀ a, a < 4 → ∀ b, b < 4 → a ≠ b → (T_Events a).2.1 ≠ (T_Events b).2.1 := by decide +kernel
theorem o_Events : ∀ k, k < 4 → parseFieldDescriptor (T_Events k).2.2.1 = some (t_Events k) := by decide +kernel
abbrev k_Events (h : Nat) (r_due : Nat) (r_whats : Nat) (r_values : Nat) (v : Nat → Int32) : Nat × va_E := (h, .inr (7, [.ref r_due, .ref r_whats, .ref r_values, .int (v 0)]))
def R_Interrupts : String := "CycleChip$Interrupts"
def T_Interrupts : u_T := fun k => match k with
  | 0 => ("CycleChip$Interrupts", "high", "I", false)
  | 1 => ("CycleChip$Interrupts", "enable", "I", false)
  | 2 => ("CycleChip$Interrupts", "threshold", "I", false)
  | 3 => ("CycleChip$Interrupts", "priorities", "I", false)
  | 4 => ("CycleChip$Interrupts", "pending", "I", false)
  | _ => ("CycleChip$Interrupts", "inService", "I", false)
def t_Interrupts : Nat → FieldType := fun k => match k with
  | 0 => .int
  | 1 => .int
  | 2 => .int
  | 3 => .int
  | 4 => .int
  | _ => .int
theorem n_Interrupts : ∀ a, a < 6 → ∀ b, b < 6 → a ≠ b → (T_Interrupts a).2.1 ≠ (T_Interrupts b).2.1 := by decide +kernel
theorem o_Interrupts : ∀ k, k < 6 → parseFieldDescriptor (T_Interrupts k).2.2.1 = some (t_Interrupts k) := by decide +kernel
abbrev k_Interrupts (h : Nat) (v : Nat → Int32) : Nat × va_E := (h, .inr (8, [.int (v 0), .int (v 1), .int (v 2), .int (v 3), .int (v 4), .int (v 5)]))
def R_Log : String := "CycleChip$Log"
def T_Log : u_T := fun k => match k with
  | 0 => ("CycleChip$Log", "cycles", "[I", true)
  | 1 => ("CycleChip$Log", "values", "[I", true)
  | _ => ("CycleChip$Log", "total", "I", false)
def t_Log : Nat → FieldType := fun k => match k with
  | 0 => .array .int
  | 1 => .array .int
  | _ => .int
theorem n_Log : ∀ a, a < 3 → ∀ b, b < 3 → a ≠ b → (T_Log a).2.1 ≠ (T_Log b).2.1 := by decide +kernel
theorem o_Log : ∀ k, k < 3 → parseFieldDescriptor (T_Log k).2.2.1 = some (t_Log k) := by decide +kernel
abbrev k_Log (h : Nat) (r_cycles : Nat) (r_values : Nat) (v : Nat → Int32) : Nat × va_E := (h, .inr (9, [.ref r_cycles, .ref r_values, .int (v 0)]))
def R_Serial : String := "CycleChip$Serial"
def T_Serial : u_T := fun k => match k with
  | 0 => ("CycleChip$Serial", "received", "LCycleChip$ByteQueue;", true)
  | 1 => ("CycleChip$Serial", "sending", "LCycleChip$ByteQueue;", true)
  | 2 => ("CycleChip$Serial", "out", "LCycleChip$Log;", true)
  | 3 => ("CycleChip$Serial", "overrun", "Z", false)
  | 4 => ("CycleChip$Serial", "divisor", "I", false)
  | 5 => ("CycleChip$Serial", "enables", "I", false)
  | 6 => ("CycleChip$Serial", "busy", "Z", false)
  | 7 => ("CycleChip$Serial", "current", "I", false)
  | _ => ("CycleChip$Serial", "outCycle", "I", false)
def t_Serial : Nat → FieldType := fun k => match k with
  | 0 => .object "CycleChip$ByteQueue"
  | 1 => .object "CycleChip$ByteQueue"
  | 2 => .object "CycleChip$Log"
  | 3 => .boolean
  | 4 => .int
  | 5 => .int
  | 6 => .boolean
  | 7 => .int
  | _ => .int
theorem n_Serial : ∀ a, a < 9 → ∀ b, b < 9 → a ≠ b → (T_Serial a).2.1 ≠ (T_Serial b).2.1 := by decide +kernel
theorem o_Serial : ∀ k, k < 9 → parseFieldDescriptor (T_Serial k).2.2.1 = some (t_Serial k) := by decide +kernel
abbrev k_Serial (h : Nat) (r_received : Nat) (r_sending : Nat) (r_out : Nat) (v : Nat → Int32) : Nat × va_E := (h, .inr (10, [.ref r_received, .ref r_sending, .ref r_out, .int (v 0), .int (v 1), .int (v 2), .int (v 3), .int (v 4), .int (v 5)]))
def R_StoreBuffer : String := "CycleChip$StoreBuffer"
def T_StoreBuffer : u_T := fun k => match k with
  | 0 => ("CycleChip$StoreBuffer", "places", "[I", true)
  | 1 => ("CycleChip$StoreBuffer", "values", "[I", true)
  | _ => ("CycleChip$StoreBuffer", "count", "I", false)
def t_StoreBuffer : Nat → FieldType := fun k => match k with
  | 0 => .array .int
  | 1 => .array .int
  | _ => .int
theorem n_StoreBuffer : ∀ a, a < 3 → ∀ b, b < 3 → a ≠ b → (T_StoreBuffer a).2.1 ≠ (T_StoreBuffer b).2.1 := by decide +kernel
theorem o_StoreBuffer : ∀ k, k < 3 → parseFieldDescriptor (T_StoreBuffer k).2.2.1 = some (t_StoreBuffer k) := by decide +kernel
abbrev k_StoreBuffer (h : Nat) (r_places : Nat) (r_values : Nat) (v : Nat → Int32) : Nat × va_E := (h, .inr (11, [.ref r_places, .ref r_values, .int (v 0)]))
def R_Model : String := "CycleChipModel"
def T_Model : u_T := fun k => match k with
  | 0 => ("CycleChipModel", "latency", "I", false)
  | 1 => ("CycleChipModel", "lines", "I", false)
  | 2 => ("CycleChipModel", "cycle", "I", false)
  | 3 => ("CycleChipModel", "acts", "I", false)
  | 4 => ("CycleChipModel", "traps", "I", false)
  | 5 => ("CycleChipModel", "lastCycle", "[I", false)
  | 6 => ("CycleChipModel", "lastAddress", "[I", false)
  | 7 => ("CycleChipModel", "memory", "[I", false)
  | 8 => ("CycleChipModel", "kept", "[Z", false)
  | 9 => ("CycleChipModel", "copy", "[I", false)
  | 10 => ("CycleChipModel", "register", "[I", false)
  | 11 => ("CycleChipModel", "special", "[I", false)
  | 12 => ("CycleChipModel", "at", "I", false)
  | 13 => ("CycleChipModel", "rest", "I", false)
  | 14 => ("CycleChipModel", "waiting", "Z", false)
  | 15 => ("CycleChipModel", "asleep", "Z", false)
  | 16 => ("CycleChipModel", "wanted", "I", false)
  | 17 => ("CycleChipModel", "wantedBlock", "I", false)
  | 18 => ("CycleChipModel", "served", "I", false)
  | 19 => ("CycleChipModel", "servedBlock", "I", false)
  | 20 => ("CycleChipModel", "ready", "I", false)
  | 21 => ("CycleChipModel", "bufferLast", "Z", false)
  | 22 => ("CycleChipModel", "place", "I", false)
  | 23 => ("CycleChipModel", "storing", "Z", false)
  | 24 => ("CycleChipModel", "value", "I", false)
  | 25 => ("CycleChipModel", "target", "I", false)
  | 26 => ("CycleChipModel", "stored", "I", false)
  | 27 => ("CycleChipModel", "storeWord", "[I", false)
  | 28 => ("CycleChipModel", "storeValue", "[I", false)
  | 29 => ("CycleChipModel", "plans", "I", false)
  | 30 => ("CycleChipModel", "planCycle", "[I", false)
  | 31 => ("CycleChipModel", "planWhat", "[I", false)
  | 32 => ("CycleChipModel", "planValue", "[I", false)
  | 33 => ("CycleChipModel", "time", "J", false)
  | 34 => ("CycleChipModel", "compare", "J", false)
  | 35 => ("CycleChipModel", "enable", "I", false)
  | 36 => ("CycleChipModel", "threshold", "I", false)
  | 37 => ("CycleChipModel", "priorities", "I", false)
  | 38 => ("CycleChipModel", "high", "[Z", false)
  | 39 => ("CycleChipModel", "pending", "[Z", false)
  | 40 => ("CycleChipModel", "service", "[Z", false)
  | 41 => ("CycleChipModel", "received", "[I", false)
  | 42 => ("CycleChipModel", "receivedCount", "I", false)
  | 43 => ("CycleChipModel", "overrun", "Z", false)
  | 44 => ("CycleChipModel", "sending", "[I", false)
  | 45 => ("CycleChipModel", "sendingCount", "I", false)
  | 46 => ("CycleChipModel", "divisor", "I", false)
  | 47 => ("CycleChipModel", "enables", "I", false)
  | 48 => ("CycleChipModel", "busy", "Z", false)
  | 49 => ("CycleChipModel", "byteNow", "I", false)
  | 50 => ("CycleChipModel", "outCycle", "I", false)
  | 51 => ("CycleChipModel", "outs", "I", false)
  | _ => ("CycleChipModel", "out", "[J", false)
def t_Model : Nat → FieldType := fun k => match k with
  | 0 => .int
  | 1 => .int
  | 2 => .int
  | 3 => .int
  | 4 => .int
  | 5 => .array .int
  | 6 => .array .int
  | 7 => .array .int
  | 8 => .array .boolean
  | 9 => .array .int
  | 10 => .array .int
  | 11 => .array .int
  | 12 => .int
  | 13 => .int
  | 14 => .boolean
  | 15 => .boolean
  | 16 => .int
  | 17 => .int
  | 18 => .int
  | 19 => .int
  | 20 => .int
  | 21 => .boolean
  | 22 => .int
  | 23 => .boolean
  | 24 => .int
  | 25 => .int
  | 26 => .int
  | 27 => .array .int
  | 28 => .array .int
  | 29 => .int
  | 30 => .array .int
  | 31 => .array .int
  | 32 => .array .int
  | 33 => .long
  | 34 => .long
  | 35 => .int
  | 36 => .int
  | 37 => .int
  | 38 => .array .boolean
  | 39 => .array .boolean
  | 40 => .array .boolean
  | 41 => .array .int
  | 42 => .int
  | 43 => .boolean
  | 44 => .array .int
  | 45 => .int
  | 46 => .int
  | 47 => .int
  | 48 => .boolean
  | 49 => .int
  | 50 => .int
  | 51 => .int
  | _ => .array .long
theorem n_Model : ∀ a, a < 53 → ∀ b, b < 53 → a ≠ b → (T_Model a).2.1 ≠ (T_Model b).2.1 := by decide +kernel
theorem o_Model : ∀ k, k < 53 → parseFieldDescriptor (T_Model k).2.2.1 = some (t_Model k) := by decide +kernel
abbrev k_Model (h : Nat) (r_lastCycle : Nat) (r_lastAddress : Nat) (r_memory : Nat) (r_kept : Nat) (r_copy : Nat) (r_register : Nat) (r_special : Nat) (r_storeWord : Nat) (r_storeValue : Nat) (r_planCycle : Nat) (r_planWhat : Nat) (r_planValue : Nat) (r_high : Nat) (r_pending : Nat) (r_service : Nat) (r_received : Nat) (r_sending : Nat) (r_out : Nat) (v : Nat → Int32) (w : Nat → Int64) : Nat × va_E := (h, .inr (12, [.int (v 0), .int (v 1), .int (v 2), .int (v 3), .int (v 4), .ref r_lastCycle, .ref r_lastAddress, .ref r_memory, .ref r_kept, .ref r_copy, .ref r_register, .ref r_special, .int (v 5), .int (v 6), .int (v 7), .int (v 8), .int (v 9), .int (v 10), .int (v 11), .int (v 12), .int (v 13), .int (v 14), .int (v 15), .int (v 16), .int (v 17), .int (v 18), .int (v 19), .ref r_storeWord, .ref r_storeValue, .int (v 20), .ref r_planCycle, .ref r_planWhat, .ref r_planValue, .long (w 0), .long (w 1), .int (v 21), .int (v 22), .int (v 23), .ref r_high, .ref r_pending, .ref r_service, .ref r_received, .int (v 24), .int (v 25), .ref r_sending, .int (v 26), .int (v 27), .int (v 28), .int (v 29), .int (v 30), .int (v 31), .int (v 32), .ref r_out]))
abbrev vwCl : List vw_C := [(R_Chip, T_Chip, 8), (R_Bus, T_Bus, 10), (R_ByteQueue, T_ByteQueue, 3), (R_Cache, T_Cache, 3), (R_Control, T_Control, 7), (R_Core, T_Core, 17), (R_Devices, T_Devices, 4), (R_Events, T_Events, 4), (R_Interrupts, T_Interrupts, 6), (R_Log, T_Log, 3), (R_Serial, T_Serial, 9), (R_StoreBuffer, T_StoreBuffer, 3), (R_Model, T_Model, 53)]
