/-! Method names and decoded instructions, by program (wip/mk07.py). -/
abbrev b_G_init : ByteArray := prog_1_method_1_code
def y_G_init : MethodName := ⟨"MergingFragments", "<init>", "()V"⟩
theorem d_G_init_0 : decode b_G_init 0 = .ok (.aload_n 0, 1) := by decide +kernel
theorem d_G_init_1 : decode b_G_init 1 = .ok (.invokespecial 1, 3) := by decide +kernel
theorem d_G_init_4 : decode b_G_init 4 = .ok (.aload_n 0, 1) := by decide +kernel
theorem d_G_init_5 : decode b_G_init 5 = .ok (.bipush 7, 2) := by decide +kernel
theorem d_G_init_7 : decode b_G_init 7 = .ok (.anewarray 9, 3) := by decide +kernel
theorem d_G_init_10 : decode b_G_init 10 = .ok (.putfield 11, 3) := by decide +kernel
theorem d_G_init_13 : decode b_G_init 13 = .ok (.aload_n 0, 1) := by decide +kernel
theorem d_G_init_14 : decode b_G_init 14 = .ok (.bipush 12, 2) := by decide +kernel
theorem d_G_init_16 : decode b_G_init 16 = .ok (.newarray .int, 2) := by decide +kernel
theorem d_G_init_18 : decode b_G_init 18 = .ok (.putfield 15, 3) := by decide +kernel
theorem d_G_init_21 : decode b_G_init 21 = .ok (.aload_n 0, 1) := by decide +kernel
theorem d_G_init_22 : decode b_G_init 22 = .ok (.bipush 12, 2) := by decide +kernel
theorem d_G_init_24 : decode b_G_init 24 = .ok (.newarray .int, 2) := by decide +kernel
theorem d_G_init_26 : decode b_G_init 26 = .ok (.putfield 19, 3) := by decide +kernel
theorem d_G_init_29 : decode b_G_init 29 = .ok (.aload_n 0, 1) := by decide +kernel
theorem d_G_init_30 : decode b_G_init 30 = .ok (.bipush 12, 2) := by decide +kernel
theorem d_G_init_32 : decode b_G_init 32 = .ok (.newarray .int, 2) := by decide +kernel
theorem d_G_init_34 : decode b_G_init 34 = .ok (.putfield 22, 3) := by decide +kernel
theorem d_G_init_37 : decode b_G_init 37 = .ok (.aload_n 0, 1) := by decide +kernel
theorem d_G_init_38 : decode b_G_init 38 = .ok (.iconst 0, 1) := by decide +kernel
theorem d_G_init_39 : decode b_G_init 39 = .ok (.putfield 25, 3) := by decide +kernel
theorem d_G_init_42 : decode b_G_init 42 = .ok (.aload_n 0, 1) := by decide +kernel
theorem d_G_init_43 : decode b_G_init 43 = .ok (.iconst 0, 1) := by decide +kernel
theorem d_G_init_44 : decode b_G_init 44 = .ok (.putfield 29, 3) := by decide +kernel
theorem d_G_init_47 : decode b_G_init 47 = .ok (.aload_n 0, 1) := by decide +kernel
theorem d_G_init_48 : decode b_G_init 48 = .ok (.iconst 0, 1) := by decide +kernel
theorem d_G_init_49 : decode b_G_init 49 = .ok (.putfield 32, 3) := by decide +kernel
theorem d_G_init_52 : decode b_G_init 52 = .ok (.iconst 0, 1) := by decide +kernel
theorem d_G_init_53 : decode b_G_init 53 = .ok (.istore_n 1, 1) := by decide +kernel
theorem d_G_init_54 : decode b_G_init 54 = .ok (.iload_n 1, 1) := by decide +kernel
theorem d_G_init_55 : decode b_G_init 55 = .ok (.bipush 7, 2) := by decide +kernel
theorem d_G_init_57 : decode b_G_init 57 = .ok (.if_icmp .ge 23, 3) := by decide +kernel
theorem d_G_init_60 : decode b_G_init 60 = .ok (.aload_n 0, 1) := by decide +kernel
theorem d_G_init_61 : decode b_G_init 61 = .ok (.getfield 11, 3) := by decide +kernel
theorem d_G_init_64 : decode b_G_init 64 = .ok (.iload_n 1, 1) := by decide +kernel
theorem d_G_init_65 : decode b_G_init 65 = .ok (.new 9, 3) := by decide +kernel
theorem d_G_init_68 : decode b_G_init 68 = .ok (.dup, 1) := by decide +kernel
theorem d_G_init_69 : decode b_G_init 69 = .ok (.iload_n 1, 1) := by decide +kernel
theorem d_G_init_70 : decode b_G_init 70 = .ok (.invokespecial 35, 3) := by decide +kernel
theorem d_G_init_73 : decode b_G_init 73 = .ok (.aastore, 1) := by decide +kernel
theorem d_G_init_74 : decode b_G_init 74 = .ok (.iinc 1 1, 3) := by decide +kernel
theorem d_G_init_77 : decode b_G_init 77 = .ok (.goto (-23), 3) := by decide +kernel
theorem d_G_init_80 : decode b_G_init 80 = .ok (.return_, 1) := by decide +kernel
abbrev b_O_init : ByteArray := object_method_1_code
def y_O_init : MethodName := ⟨"java/lang/Object", "<init>", "()V"⟩
theorem d_O_init_0 : decode b_O_init 0 = .ok (.return_, 1) := by decide +kernel
abbrev b_N_init : ByteArray := prog_3_method_1_code
def y_N_init : MethodName := ⟨"MergingFragments$Node", "<init>", "(I)V"⟩
theorem d_N_init_0 : decode b_N_init 0 = .ok (.aload_n 0, 1) := by decide +kernel
theorem d_N_init_1 : decode b_N_init 1 = .ok (.invokespecial 3, 3) := by decide +kernel
theorem d_N_init_4 : decode b_N_init 4 = .ok (.aload_n 0, 1) := by decide +kernel
theorem d_N_init_5 : decode b_N_init 5 = .ok (.bipush 12, 2) := by decide +kernel
theorem d_N_init_7 : decode b_N_init 7 = .ok (.newarray .int, 2) := by decide +kernel
theorem d_N_init_9 : decode b_N_init 9 = .ok (.putfield 9, 3) := by decide +kernel
theorem d_N_init_12 : decode b_N_init 12 = .ok (.aload_n 0, 1) := by decide +kernel
theorem d_N_init_13 : decode b_N_init 13 = .ok (.new 15, 3) := by decide +kernel
theorem d_N_init_16 : decode b_N_init 16 = .ok (.dup, 1) := by decide +kernel
theorem d_N_init_17 : decode b_N_init 17 = .ok (.invokespecial 17, 3) := by decide +kernel
theorem d_N_init_20 : decode b_N_init 20 = .ok (.putfield 18, 3) := by decide +kernel
theorem d_N_init_23 : decode b_N_init 23 = .ok (.aload_n 0, 1) := by decide +kernel
theorem d_N_init_24 : decode b_N_init 24 = .ok (.iload_n 1, 1) := by decide +kernel
theorem d_N_init_25 : decode b_N_init 25 = .ok (.putfield 22, 3) := by decide +kernel
theorem d_N_init_28 : decode b_N_init 28 = .ok (.aload_n 0, 1) := by decide +kernel
theorem d_N_init_29 : decode b_N_init 29 = .ok (.invokevirtual 26, 3) := by decide +kernel
theorem d_N_init_32 : decode b_N_init 32 = .ok (.return_, 1) := by decide +kernel
abbrev b_A_init : ByteArray := prog_21_method_2_code
def y_A_init : MethodName := ⟨"java/util/ArrayList", "<init>", "()V"⟩
theorem d_A_init_0 : decode b_A_init 0 = .ok (.aload_n 0, 1) := by decide +kernel
theorem d_A_init_1 : decode b_A_init 1 = .ok (.invokespecial 1, 3) := by decide +kernel
theorem d_A_init_4 : decode b_A_init 4 = .ok (.aload_n 0, 1) := by decide +kernel
theorem d_A_init_5 : decode b_A_init 5 = .ok (.getstatic 39, 3) := by decide +kernel
theorem d_A_init_8 : decode b_A_init 8 = .ok (.putfield 9, 3) := by decide +kernel
theorem d_A_init_11 : decode b_A_init 11 = .ok (.return_, 1) := by decide +kernel
abbrev b_Al_init : ByteArray := prog_20_method_1_code
def y_Al_init : MethodName := ⟨"java/util/AbstractList", "<init>", "()V"⟩
theorem d_Al_init_0 : decode b_Al_init 0 = .ok (.aload_n 0, 1) := by decide +kernel
theorem d_Al_init_1 : decode b_Al_init 1 = .ok (.invokespecial 1, 3) := by decide +kernel
theorem d_Al_init_4 : decode b_Al_init 4 = .ok (.aload_n 0, 1) := by decide +kernel
theorem d_Al_init_5 : decode b_Al_init 5 = .ok (.iconst 0, 1) := by decide +kernel
theorem d_Al_init_6 : decode b_Al_init 6 = .ok (.putfield 7, 3) := by decide +kernel
theorem d_Al_init_9 : decode b_Al_init 9 = .ok (.return_, 1) := by decide +kernel
abbrev b_Ac_init : ByteArray := prog_19_method_1_code
def y_Ac_init : MethodName := ⟨"java/util/AbstractCollection", "<init>", "()V"⟩
theorem d_Ac_init_0 : decode b_Ac_init 0 = .ok (.aload_n 0, 1) := by decide +kernel
theorem d_Ac_init_1 : decode b_Ac_init 1 = .ok (.invokespecial 1, 3) := by decide +kernel
theorem d_Ac_init_4 : decode b_Ac_init 4 = .ok (.return_, 1) := by decide +kernel
abbrev b_N_reset : ByteArray := prog_3_method_2_code
def y_N_reset : MethodName := ⟨"MergingFragments$Node", "reset", "()V"⟩
theorem d_N_reset_0 : decode b_N_reset 0 = .ok (.aload_n 0, 1) := by decide +kernel
theorem d_N_reset_1 : decode b_N_reset 1 = .ok (.getfield 9, 3) := by decide +kernel
theorem d_N_reset_4 : decode b_N_reset 4 = .ok (.iconst (-1), 1) := by decide +kernel
theorem d_N_reset_5 : decode b_N_reset 5 = .ok (.invokestatic 29, 3) := by decide +kernel
theorem d_N_reset_8 : decode b_N_reset 8 = .ok (.aload_n 0, 1) := by decide +kernel
theorem d_N_reset_9 : decode b_N_reset 9 = .ok (.getfield 18, 3) := by decide +kernel
theorem d_N_reset_12 : decode b_N_reset 12 = .ok (.invokevirtual 35, 3) := by decide +kernel
theorem d_N_reset_15 : decode b_N_reset 15 = .ok (.aload_n 0, 1) := by decide +kernel
theorem d_N_reset_16 : decode b_N_reset 16 = .ok (.iconst 0, 1) := by decide +kernel
theorem d_N_reset_17 : decode b_N_reset 17 = .ok (.putfield 38, 3) := by decide +kernel
theorem d_N_reset_20 : decode b_N_reset 20 = .ok (.aload_n 0, 1) := by decide +kernel
theorem d_N_reset_21 : decode b_N_reset 21 = .ok (.iconst 0, 1) := by decide +kernel
theorem d_N_reset_22 : decode b_N_reset 22 = .ok (.putfield 41, 3) := by decide +kernel
theorem d_N_reset_25 : decode b_N_reset 25 = .ok (.aload_n 0, 1) := by decide +kernel
theorem d_N_reset_26 : decode b_N_reset 26 = .ok (.iconst 0, 1) := by decide +kernel
theorem d_N_reset_27 : decode b_N_reset 27 = .ok (.putfield 44, 3) := by decide +kernel
theorem d_N_reset_30 : decode b_N_reset 30 = .ok (.aload_n 0, 1) := by decide +kernel
theorem d_N_reset_31 : decode b_N_reset 31 = .ok (.iconst 0, 1) := by decide +kernel
theorem d_N_reset_32 : decode b_N_reset 32 = .ok (.putfield 47, 3) := by decide +kernel
theorem d_N_reset_35 : decode b_N_reset 35 = .ok (.aload_n 0, 1) := by decide +kernel
theorem d_N_reset_36 : decode b_N_reset 36 = .ok (.iconst (-1), 1) := by decide +kernel
theorem d_N_reset_37 : decode b_N_reset 37 = .ok (.putfield 50, 3) := by decide +kernel
theorem d_N_reset_40 : decode b_N_reset 40 = .ok (.aload_n 0, 1) := by decide +kernel
theorem d_N_reset_41 : decode b_N_reset 41 = .ok (.iconst (-1), 1) := by decide +kernel
theorem d_N_reset_42 : decode b_N_reset 42 = .ok (.putfield 53, 3) := by decide +kernel
theorem d_N_reset_45 : decode b_N_reset 45 = .ok (.aload_n 0, 1) := by decide +kernel
theorem d_N_reset_46 : decode b_N_reset 46 = .ok (.iconst 0, 1) := by decide +kernel
theorem d_N_reset_47 : decode b_N_reset 47 = .ok (.putfield 56, 3) := by decide +kernel
theorem d_N_reset_50 : decode b_N_reset 50 = .ok (.aload_n 0, 1) := by decide +kernel
theorem d_N_reset_51 : decode b_N_reset 51 = .ok (.invokevirtual 60, 3) := by decide +kernel
theorem d_N_reset_54 : decode b_N_reset 54 = .ok (.return_, 1) := by decide +kernel
abbrev b_As_fill : ByteArray := prog_22_method_103_code
def y_As_fill : MethodName := ⟨"java/util/Arrays", "fill", "([II)V"⟩
theorem d_As_fill_0 : decode b_As_fill 0 = .ok (.iconst 0, 1) := by decide +kernel
theorem d_As_fill_1 : decode b_As_fill 1 = .ok (.istore_n 2, 1) := by decide +kernel
theorem d_As_fill_2 : decode b_As_fill 2 = .ok (.aload_n 0, 1) := by decide +kernel
theorem d_As_fill_3 : decode b_As_fill 3 = .ok (.arraylength, 1) := by decide +kernel
theorem d_As_fill_4 : decode b_As_fill 4 = .ok (.istore_n 3, 1) := by decide +kernel
theorem d_As_fill_5 : decode b_As_fill 5 = .ok (.iload_n 2, 1) := by decide +kernel
theorem d_As_fill_6 : decode b_As_fill 6 = .ok (.iload_n 3, 1) := by decide +kernel
theorem d_As_fill_7 : decode b_As_fill 7 = .ok (.if_icmp .ge 13, 3) := by decide +kernel
theorem d_As_fill_10 : decode b_As_fill 10 = .ok (.aload_n 0, 1) := by decide +kernel
theorem d_As_fill_11 : decode b_As_fill 11 = .ok (.iload_n 2, 1) := by decide +kernel
theorem d_As_fill_12 : decode b_As_fill 12 = .ok (.iload_n 1, 1) := by decide +kernel
theorem d_As_fill_13 : decode b_As_fill 13 = .ok (.iastore, 1) := by decide +kernel
theorem d_As_fill_14 : decode b_As_fill 14 = .ok (.iinc 2 1, 3) := by decide +kernel
theorem d_As_fill_17 : decode b_As_fill 17 = .ok (.goto (-12), 3) := by decide +kernel
theorem d_As_fill_20 : decode b_As_fill 20 = .ok (.return_, 1) := by decide +kernel
abbrev b_A_clear : ByteArray := prog_21_method_40_code
def y_A_clear : MethodName := ⟨"java/util/ArrayList", "clear", "()V"⟩
theorem d_A_clear_0 : decode b_A_clear 0 = .ok (.aload_n 0, 1) := by decide +kernel
theorem d_A_clear_1 : decode b_A_clear 1 = .ok (.dup, 1) := by decide +kernel
theorem d_A_clear_2 : decode b_A_clear 2 = .ok (.getfield 63, 3) := by decide +kernel
theorem d_A_clear_5 : decode b_A_clear 5 = .ok (.iconst 1, 1) := by decide +kernel
theorem d_A_clear_6 : decode b_A_clear 6 = .ok (.iadd, 1) := by decide +kernel
theorem d_A_clear_7 : decode b_A_clear 7 = .ok (.putfield 63, 3) := by decide +kernel
theorem d_A_clear_10 : decode b_A_clear 10 = .ok (.aload_n 0, 1) := by decide +kernel
theorem d_A_clear_11 : decode b_A_clear 11 = .ok (.getfield 9, 3) := by decide +kernel
theorem d_A_clear_14 : decode b_A_clear 14 = .ok (.astore_n 1, 1) := by decide +kernel
theorem d_A_clear_15 : decode b_A_clear 15 = .ok (.aload_n 0, 1) := by decide +kernel
theorem d_A_clear_16 : decode b_A_clear 16 = .ok (.getfield 48, 3) := by decide +kernel
theorem d_A_clear_19 : decode b_A_clear 19 = .ok (.istore_n 2, 1) := by decide +kernel
theorem d_A_clear_20 : decode b_A_clear 20 = .ok (.aload_n 0, 1) := by decide +kernel
theorem d_A_clear_21 : decode b_A_clear 21 = .ok (.iconst 0, 1) := by decide +kernel
theorem d_A_clear_22 : decode b_A_clear 22 = .ok (.dup_x1, 1) := by decide +kernel
theorem d_A_clear_23 : decode b_A_clear 23 = .ok (.putfield 48, 3) := by decide +kernel
theorem d_A_clear_26 : decode b_A_clear 26 = .ok (.istore_n 3, 1) := by decide +kernel
theorem d_A_clear_27 : decode b_A_clear 27 = .ok (.iload_n 3, 1) := by decide +kernel
theorem d_A_clear_28 : decode b_A_clear 28 = .ok (.iload_n 2, 1) := by decide +kernel
theorem d_A_clear_29 : decode b_A_clear 29 = .ok (.if_icmp .ge 13, 3) := by decide +kernel
theorem d_A_clear_32 : decode b_A_clear 32 = .ok (.aload_n 1, 1) := by decide +kernel
theorem d_A_clear_33 : decode b_A_clear 33 = .ok (.iload_n 3, 1) := by decide +kernel
theorem d_A_clear_34 : decode b_A_clear 34 = .ok (.aconst_null, 1) := by decide +kernel
theorem d_A_clear_35 : decode b_A_clear 35 = .ok (.aastore, 1) := by decide +kernel
theorem d_A_clear_36 : decode b_A_clear 36 = .ok (.iinc 3 1, 3) := by decide +kernel
theorem d_A_clear_39 : decode b_A_clear 39 = .ok (.goto (-12), 3) := by decide +kernel
theorem d_A_clear_42 : decode b_A_clear 42 = .ok (.return_, 1) := by decide +kernel
abbrev b_N_forgetBest : ByteArray := prog_3_method_3_code
def y_N_forgetBest : MethodName := ⟨"MergingFragments$Node", "forgetBest", "()V"⟩
theorem d_N_forgetBest_0 : decode b_N_forgetBest 0 = .ok (.aload_n 0, 1) := by decide +kernel
theorem d_N_forgetBest_1 : decode b_N_forgetBest 1 = .ok (.iconst (-1), 1) := by decide +kernel
theorem d_N_forgetBest_2 : decode b_N_forgetBest 2 = .ok (.putfield 63, 3) := by decide +kernel
theorem d_N_forgetBest_5 : decode b_N_forgetBest 5 = .ok (.aload_n 0, 1) := by decide +kernel
theorem d_N_forgetBest_6 : decode b_N_forgetBest 6 = .ok (.bipush 100, 2) := by decide +kernel
theorem d_N_forgetBest_8 : decode b_N_forgetBest 8 = .ok (.putfield 66, 3) := by decide +kernel
theorem d_N_forgetBest_11 : decode b_N_forgetBest 11 = .ok (.return_, 1) := by decide +kernel
abbrev b_G_sent : ByteArray := prog_1_method_10_code
def y_G_sent : MethodName := ⟨"MergingFragments", "sent", "()I"⟩
theorem d_G_sent_0 : decode b_G_sent 0 = .ok (.aload_n 0, 1) := by decide +kernel
theorem d_G_sent_1 : decode b_G_sent 1 = .ok (.getfield 32, 3) := by decide +kernel
theorem d_G_sent_4 : decode b_G_sent 4 = .ok (.ireturn, 1) := by decide +kernel
abbrev b_G_left : ByteArray := prog_1_method_11_code
def y_G_left : MethodName := ⟨"MergingFragments", "left", "()I"⟩
theorem d_G_left_0 : decode b_G_left 0 = .ok (.iconst 0, 1) := by decide +kernel
theorem d_G_left_1 : decode b_G_left 1 = .ok (.istore_n 1, 1) := by decide +kernel
theorem d_G_left_2 : decode b_G_left 2 = .ok (.iconst 0, 1) := by decide +kernel
theorem d_G_left_3 : decode b_G_left 3 = .ok (.istore_n 2, 1) := by decide +kernel
theorem d_G_left_4 : decode b_G_left 4 = .ok (.iload_n 2, 1) := by decide +kernel
theorem d_G_left_5 : decode b_G_left 5 = .ok (.aload_n 0, 1) := by decide +kernel
theorem d_G_left_6 : decode b_G_left 6 = .ok (.getfield 25, 3) := by decide +kernel
theorem d_G_left_9 : decode b_G_left 9 = .ok (.if_icmp .ge 24, 3) := by decide +kernel
theorem d_G_left_12 : decode b_G_left 12 = .ok (.iload_n 1, 1) := by decide +kernel
theorem d_G_left_13 : decode b_G_left 13 = .ok (.aload_n 0, 1) := by decide +kernel
theorem d_G_left_14 : decode b_G_left 14 = .ok (.getfield 11, 3) := by decide +kernel
theorem d_G_left_17 : decode b_G_left 17 = .ok (.iload_n 2, 1) := by decide +kernel
theorem d_G_left_18 : decode b_G_left 18 = .ok (.aaload, 1) := by decide +kernel
theorem d_G_left_19 : decode b_G_left 19 = .ok (.getfield 109, 3) := by decide +kernel
theorem d_G_left_22 : decode b_G_left 22 = .ok (.invokevirtual 113, 3) := by decide +kernel
theorem d_G_left_25 : decode b_G_left 25 = .ok (.iadd, 1) := by decide +kernel
theorem d_G_left_26 : decode b_G_left 26 = .ok (.istore_n 1, 1) := by decide +kernel
theorem d_G_left_27 : decode b_G_left 27 = .ok (.iinc 2 1, 3) := by decide +kernel
theorem d_G_left_30 : decode b_G_left 30 = .ok (.goto (-26), 3) := by decide +kernel
theorem d_G_left_33 : decode b_G_left 33 = .ok (.iload_n 1, 1) := by decide +kernel
theorem d_G_left_34 : decode b_G_left 34 = .ok (.ireturn, 1) := by decide +kernel
abbrev b_A_size : ByteArray := prog_21_method_8_code
def y_A_size : MethodName := ⟨"java/util/ArrayList", "size", "()I"⟩
theorem d_A_size_0 : decode b_A_size 0 = .ok (.aload_n 0, 1) := by decide +kernel
theorem d_A_size_1 : decode b_A_size 1 = .ok (.getfield 48, 3) := by decide +kernel
theorem d_A_size_4 : decode b_A_size 4 = .ok (.ireturn, 1) := by decide +kernel
abbrev b_G_weight : ByteArray := prog_1_method_12_code
def y_G_weight : MethodName := ⟨"MergingFragments", "weight", "()I"⟩
theorem d_G_weight_0 : decode b_G_weight 0 = .ok (.iconst 0, 1) := by decide +kernel
theorem d_G_weight_1 : decode b_G_weight 1 = .ok (.istore_n 1, 1) := by decide +kernel
theorem d_G_weight_2 : decode b_G_weight 2 = .ok (.iconst 0, 1) := by decide +kernel
theorem d_G_weight_3 : decode b_G_weight 3 = .ok (.istore_n 2, 1) := by decide +kernel
theorem d_G_weight_4 : decode b_G_weight 4 = .ok (.iload_n 2, 1) := by decide +kernel
theorem d_G_weight_5 : decode b_G_weight 5 = .ok (.aload_n 0, 1) := by decide +kernel
theorem d_G_weight_6 : decode b_G_weight 6 = .ok (.getfield 29, 3) := by decide +kernel
theorem d_G_weight_9 : decode b_G_weight 9 = .ok (.if_icmp .ge 58, 3) := by decide +kernel
theorem d_G_weight_12 : decode b_G_weight 12 = .ok (.aload_n 0, 1) := by decide +kernel
theorem d_G_weight_13 : decode b_G_weight 13 = .ok (.getfield 11, 3) := by decide +kernel
theorem d_G_weight_16 : decode b_G_weight 16 = .ok (.aload_n 0, 1) := by decide +kernel
theorem d_G_weight_17 : decode b_G_weight 17 = .ok (.getfield 15, 3) := by decide +kernel
theorem d_G_weight_20 : decode b_G_weight 20 = .ok (.iload_n 2, 1) := by decide +kernel
theorem d_G_weight_21 : decode b_G_weight 21 = .ok (.iaload, 1) := by decide +kernel
theorem d_G_weight_22 : decode b_G_weight 22 = .ok (.aaload, 1) := by decide +kernel
theorem d_G_weight_23 : decode b_G_weight 23 = .ok (.getfield 68, 3) := by decide +kernel
theorem d_G_weight_26 : decode b_G_weight 26 = .ok (.iload_n 2, 1) := by decide +kernel
theorem d_G_weight_27 : decode b_G_weight 27 = .ok (.iaload, 1) := by decide +kernel
theorem d_G_weight_28 : decode b_G_weight 28 = .ok (.iconst 1, 1) := by decide +kernel
theorem d_G_weight_29 : decode b_G_weight 29 = .ok (.if_icmp .ne 32, 3) := by decide +kernel
theorem d_G_weight_32 : decode b_G_weight 32 = .ok (.aload_n 0, 1) := by decide +kernel
theorem d_G_weight_33 : decode b_G_weight 33 = .ok (.getfield 11, 3) := by decide +kernel
theorem d_G_weight_36 : decode b_G_weight 36 = .ok (.aload_n 0, 1) := by decide +kernel
theorem d_G_weight_37 : decode b_G_weight 37 = .ok (.getfield 19, 3) := by decide +kernel
theorem d_G_weight_40 : decode b_G_weight 40 = .ok (.iload_n 2, 1) := by decide +kernel
theorem d_G_weight_41 : decode b_G_weight 41 = .ok (.iaload, 1) := by decide +kernel
theorem d_G_weight_42 : decode b_G_weight 42 = .ok (.aaload, 1) := by decide +kernel
theorem d_G_weight_43 : decode b_G_weight 43 = .ok (.getfield 68, 3) := by decide +kernel
theorem d_G_weight_46 : decode b_G_weight 46 = .ok (.iload_n 2, 1) := by decide +kernel
theorem d_G_weight_47 : decode b_G_weight 47 = .ok (.iaload, 1) := by decide +kernel
theorem d_G_weight_48 : decode b_G_weight 48 = .ok (.iconst 1, 1) := by decide +kernel
theorem d_G_weight_49 : decode b_G_weight 49 = .ok (.if_icmp .ne 12, 3) := by decide +kernel
theorem d_G_weight_52 : decode b_G_weight 52 = .ok (.iload_n 1, 1) := by decide +kernel
theorem d_G_weight_53 : decode b_G_weight 53 = .ok (.aload_n 0, 1) := by decide +kernel
theorem d_G_weight_54 : decode b_G_weight 54 = .ok (.getfield 22, 3) := by decide +kernel
theorem d_G_weight_57 : decode b_G_weight 57 = .ok (.iload_n 2, 1) := by decide +kernel
theorem d_G_weight_58 : decode b_G_weight 58 = .ok (.iaload, 1) := by decide +kernel
theorem d_G_weight_59 : decode b_G_weight 59 = .ok (.iadd, 1) := by decide +kernel
theorem d_G_weight_60 : decode b_G_weight 60 = .ok (.istore_n 1, 1) := by decide +kernel
theorem d_G_weight_61 : decode b_G_weight 61 = .ok (.iinc 2 1, 3) := by decide +kernel
theorem d_G_weight_64 : decode b_G_weight 64 = .ok (.goto (-60), 3) := by decide +kernel
theorem d_G_weight_67 : decode b_G_weight 67 = .ok (.iload_n 1, 1) := by decide +kernel
theorem d_G_weight_68 : decode b_G_weight 68 = .ok (.ireturn, 1) := by decide +kernel
abbrev b_L_begin : ByteArray := method_3_code
def y_L_begin : MethodName := ⟨"MergingFragmentsLaw", "begin", "(LMergingFragments;I)I"⟩
theorem d_L_begin_0 : decode b_L_begin 0 = .ok (.aload_n 0, 1) := by decide +kernel
theorem d_L_begin_1 : decode b_L_begin 1 = .ok (.iload_n 1, 1) := by decide +kernel
theorem d_L_begin_2 : decode b_L_begin 2 = .ok (.invokevirtual 7, 3) := by decide +kernel
theorem d_L_begin_5 : decode b_L_begin 5 = .ok (.goto 6, 3) := by decide +kernel
theorem d_L_begin_8 : decode b_L_begin 8 = .ok (.astore_n 2, 1) := by decide +kernel
theorem d_L_begin_9 : decode b_L_begin 9 = .ok (.iconst 1, 1) := by decide +kernel
theorem d_L_begin_10 : decode b_L_begin 10 = .ok (.ireturn, 1) := by decide +kernel
theorem d_L_begin_11 : decode b_L_begin 11 = .ok (.iconst 0, 1) := by decide +kernel
theorem d_L_begin_12 : decode b_L_begin 12 = .ok (.ireturn, 1) := by decide +kernel
abbrev b_G_begin : ByteArray := prog_1_method_2_code
def y_G_begin : MethodName := ⟨"MergingFragments", "begin", "(I)V"⟩
theorem d_G_begin_0 : decode b_G_begin 0 = .ok (.iload_n 1, 1) := by decide +kernel
theorem d_G_begin_1 : decode b_G_begin 1 = .ok (.iconst 1, 1) := by decide +kernel
theorem d_G_begin_2 : decode b_G_begin 2 = .ok (.if_icmp .lt 9, 3) := by decide +kernel
theorem d_G_begin_5 : decode b_G_begin 5 = .ok (.iload_n 1, 1) := by decide +kernel
theorem d_G_begin_6 : decode b_G_begin 6 = .ok (.bipush 7, 2) := by decide +kernel
theorem d_G_begin_8 : decode b_G_begin 8 = .ok (.if_icmp .le 13, 3) := by decide +kernel
theorem d_G_begin_11 : decode b_G_begin 11 = .ok (.new 38, 3) := by decide +kernel
theorem d_G_begin_14 : decode b_G_begin 14 = .ok (.dup, 1) := by decide +kernel
theorem d_G_begin_15 : decode b_G_begin 15 = .ok (.ldc 40, 2) := by decide +kernel
theorem d_G_begin_17 : decode b_G_begin 17 = .ok (.invokespecial 42, 3) := by decide +kernel
theorem d_G_begin_20 : decode b_G_begin 20 = .ok (.athrow, 1) := by decide +kernel
theorem d_G_begin_21 : decode b_G_begin 21 = .ok (.iconst 0, 1) := by decide +kernel
theorem d_G_begin_22 : decode b_G_begin 22 = .ok (.istore_n 2, 1) := by decide +kernel
theorem d_G_begin_23 : decode b_G_begin 23 = .ok (.iload_n 2, 1) := by decide +kernel
theorem d_G_begin_24 : decode b_G_begin 24 = .ok (.bipush 7, 2) := by decide +kernel
theorem d_G_begin_26 : decode b_G_begin 26 = .ok (.if_icmp .ge 18, 3) := by decide +kernel
theorem d_G_begin_29 : decode b_G_begin 29 = .ok (.aload_n 0, 1) := by decide +kernel
theorem d_G_begin_30 : decode b_G_begin 30 = .ok (.getfield 11, 3) := by decide +kernel
theorem d_G_begin_33 : decode b_G_begin 33 = .ok (.iload_n 2, 1) := by decide +kernel
theorem d_G_begin_34 : decode b_G_begin 34 = .ok (.aaload, 1) := by decide +kernel
theorem d_G_begin_35 : decode b_G_begin 35 = .ok (.invokevirtual 45, 3) := by decide +kernel
theorem d_G_begin_38 : decode b_G_begin 38 = .ok (.iinc 2 1, 3) := by decide +kernel
theorem d_G_begin_41 : decode b_G_begin 41 = .ok (.goto (-18), 3) := by decide +kernel
theorem d_G_begin_44 : decode b_G_begin 44 = .ok (.aload_n 0, 1) := by decide +kernel
theorem d_G_begin_45 : decode b_G_begin 45 = .ok (.iload_n 1, 1) := by decide +kernel
theorem d_G_begin_46 : decode b_G_begin 46 = .ok (.putfield 25, 3) := by decide +kernel
theorem d_G_begin_49 : decode b_G_begin 49 = .ok (.aload_n 0, 1) := by decide +kernel
theorem d_G_begin_50 : decode b_G_begin 50 = .ok (.iconst 0, 1) := by decide +kernel
theorem d_G_begin_51 : decode b_G_begin 51 = .ok (.putfield 29, 3) := by decide +kernel
theorem d_G_begin_54 : decode b_G_begin 54 = .ok (.aload_n 0, 1) := by decide +kernel
theorem d_G_begin_55 : decode b_G_begin 55 = .ok (.iconst 0, 1) := by decide +kernel
theorem d_G_begin_56 : decode b_G_begin 56 = .ok (.putfield 32, 3) := by decide +kernel
theorem d_G_begin_59 : decode b_G_begin 59 = .ok (.return_, 1) := by decide +kernel
abbrev b_T_init0 : ByteArray := prog_18_method_1_code
def y_T_init0 : MethodName := ⟨"java/lang/Throwable", "<init>", "()V"⟩
theorem d_T_init0_0 : decode b_T_init0 0 = .ok (.aload_n 0, 1) := by decide +kernel
theorem d_T_init0_1 : decode b_T_init0 1 = .ok (.invokespecial 1, 3) := by decide +kernel
theorem d_T_init0_4 : decode b_T_init0 4 = .ok (.aload_n 0, 1) := by decide +kernel
theorem d_T_init0_5 : decode b_T_init0 5 = .ok (.aload_n 0, 1) := by decide +kernel
theorem d_T_init0_6 : decode b_T_init0 6 = .ok (.putfield 7, 3) := by decide +kernel
theorem d_T_init0_9 : decode b_T_init0 9 = .ok (.aload_n 0, 1) := by decide +kernel
theorem d_T_init0_10 : decode b_T_init0 10 = .ok (.getstatic 13, 3) := by decide +kernel
theorem d_T_init0_13 : decode b_T_init0 13 = .ok (.putfield 17, 3) := by decide +kernel
theorem d_T_init0_16 : decode b_T_init0 16 = .ok (.aload_n 0, 1) := by decide +kernel
theorem d_T_init0_17 : decode b_T_init0 17 = .ok (.getstatic 20, 3) := by decide +kernel
theorem d_T_init0_20 : decode b_T_init0 20 = .ok (.putfield 24, 3) := by decide +kernel
theorem d_T_init0_23 : decode b_T_init0 23 = .ok (.aload_n 0, 1) := by decide +kernel
theorem d_T_init0_24 : decode b_T_init0 24 = .ok (.invokevirtual 27, 3) := by decide +kernel
theorem d_T_init0_27 : decode b_T_init0 27 = .ok (.pop, 1) := by decide +kernel
theorem d_T_init0_28 : decode b_T_init0 28 = .ok (.return_, 1) := by decide +kernel
abbrev b_Ia_init : ByteArray := prog_9_method_2_code
def y_Ia_init : MethodName := ⟨"java/lang/IllegalArgumentException", "<init>", "(Ljava/lang/String;)V"⟩
theorem d_Ia_init_0 : decode b_Ia_init 0 = .ok (.aload_n 0, 1) := by decide +kernel
theorem d_Ia_init_1 : decode b_Ia_init 1 = .ok (.aload_n 1, 1) := by decide +kernel
theorem d_Ia_init_2 : decode b_Ia_init 2 = .ok (.invokespecial 7, 3) := by decide +kernel
theorem d_Ia_init_5 : decode b_Ia_init 5 = .ok (.return_, 1) := by decide +kernel
abbrev b_Rx_init : ByteArray := prog_15_method_2_code
def y_Rx_init : MethodName := ⟨"java/lang/RuntimeException", "<init>", "(Ljava/lang/String;)V"⟩
theorem d_Rx_init_0 : decode b_Rx_init 0 = .ok (.aload_n 0, 1) := by decide +kernel
theorem d_Rx_init_1 : decode b_Rx_init 1 = .ok (.aload_n 1, 1) := by decide +kernel
theorem d_Rx_init_2 : decode b_Rx_init 2 = .ok (.invokespecial 7, 3) := by decide +kernel
theorem d_Rx_init_5 : decode b_Rx_init 5 = .ok (.return_, 1) := by decide +kernel
abbrev b_Ex_init : ByteArray := prog_8_method_2_code
def y_Ex_init : MethodName := ⟨"java/lang/Exception", "<init>", "(Ljava/lang/String;)V"⟩
theorem d_Ex_init_0 : decode b_Ex_init 0 = .ok (.aload_n 0, 1) := by decide +kernel
theorem d_Ex_init_1 : decode b_Ex_init 1 = .ok (.aload_n 1, 1) := by decide +kernel
theorem d_Ex_init_2 : decode b_Ex_init 2 = .ok (.invokespecial 7, 3) := by decide +kernel
theorem d_Ex_init_5 : decode b_Ex_init 5 = .ok (.return_, 1) := by decide +kernel
abbrev b_T_init1 : ByteArray := prog_18_method_2_code
def y_T_init1 : MethodName := ⟨"java/lang/Throwable", "<init>", "(Ljava/lang/String;)V"⟩
theorem d_T_init1_0 : decode b_T_init1 0 = .ok (.aload_n 0, 1) := by decide +kernel
theorem d_T_init1_1 : decode b_T_init1 1 = .ok (.invokespecial 1, 3) := by decide +kernel
theorem d_T_init1_4 : decode b_T_init1 4 = .ok (.aload_n 0, 1) := by decide +kernel
theorem d_T_init1_5 : decode b_T_init1 5 = .ok (.aload_n 0, 1) := by decide +kernel
theorem d_T_init1_6 : decode b_T_init1 6 = .ok (.putfield 7, 3) := by decide +kernel
theorem d_T_init1_9 : decode b_T_init1 9 = .ok (.aload_n 0, 1) := by decide +kernel
theorem d_T_init1_10 : decode b_T_init1 10 = .ok (.getstatic 13, 3) := by decide +kernel
theorem d_T_init1_13 : decode b_T_init1 13 = .ok (.putfield 17, 3) := by decide +kernel
theorem d_T_init1_16 : decode b_T_init1 16 = .ok (.aload_n 0, 1) := by decide +kernel
theorem d_T_init1_17 : decode b_T_init1 17 = .ok (.getstatic 20, 3) := by decide +kernel
theorem d_T_init1_20 : decode b_T_init1 20 = .ok (.putfield 24, 3) := by decide +kernel
theorem d_T_init1_23 : decode b_T_init1 23 = .ok (.aload_n 0, 1) := by decide +kernel
theorem d_T_init1_24 : decode b_T_init1 24 = .ok (.invokevirtual 27, 3) := by decide +kernel
theorem d_T_init1_27 : decode b_T_init1 27 = .ok (.pop, 1) := by decide +kernel
theorem d_T_init1_28 : decode b_T_init1 28 = .ok (.aload_n 0, 1) := by decide +kernel
theorem d_T_init1_29 : decode b_T_init1 29 = .ok (.aload_n 1, 1) := by decide +kernel
theorem d_T_init1_30 : decode b_T_init1 30 = .ok (.putfield 31, 3) := by decide +kernel
theorem d_T_init1_33 : decode b_T_init1 33 = .ok (.return_, 1) := by decide +kernel
abbrev b_L_edge : ByteArray := method_4_code
def y_L_edge : MethodName := ⟨"MergingFragmentsLaw", "edge", "(LMergingFragments;III[J)I"⟩
theorem d_L_edge_0 : decode b_L_edge 0 = .ok (.aload 4, 2) := by decide +kernel
theorem d_L_edge_2 : decode b_L_edge 2 = .ok (.iconst 0, 1) := by decide +kernel
theorem d_L_edge_3 : decode b_L_edge 3 = .ok (.aload_n 0, 1) := by decide +kernel
theorem d_L_edge_4 : decode b_L_edge 4 = .ok (.iload_n 1, 1) := by decide +kernel
theorem d_L_edge_5 : decode b_L_edge 5 = .ok (.iload_n 2, 1) := by decide +kernel
theorem d_L_edge_6 : decode b_L_edge 6 = .ok (.iload_n 3, 1) := by decide +kernel
theorem d_L_edge_7 : decode b_L_edge 7 = .ok (.invokevirtual 15, 3) := by decide +kernel
theorem d_L_edge_10 : decode b_L_edge 10 = .ok (.i2l, 1) := by decide +kernel
theorem d_L_edge_11 : decode b_L_edge 11 = .ok (.lastore, 1) := by decide +kernel
theorem d_L_edge_12 : decode b_L_edge 12 = .ok (.goto 15, 3) := by decide +kernel
theorem d_L_edge_15 : decode b_L_edge 15 = .ok (.astore 5, 2) := by decide +kernel
theorem d_L_edge_17 : decode b_L_edge 17 = .ok (.iconst 1, 1) := by decide +kernel
theorem d_L_edge_18 : decode b_L_edge 18 = .ok (.ireturn, 1) := by decide +kernel
theorem d_L_edge_19 : decode b_L_edge 19 = .ok (.astore 5, 2) := by decide +kernel
theorem d_L_edge_21 : decode b_L_edge 21 = .ok (.iconst 2, 1) := by decide +kernel
theorem d_L_edge_22 : decode b_L_edge 22 = .ok (.ireturn, 1) := by decide +kernel
theorem d_L_edge_23 : decode b_L_edge 23 = .ok (.astore 5, 2) := by decide +kernel
theorem d_L_edge_25 : decode b_L_edge 25 = .ok (.iconst 3, 1) := by decide +kernel
theorem d_L_edge_26 : decode b_L_edge 26 = .ok (.ireturn, 1) := by decide +kernel
theorem d_L_edge_27 : decode b_L_edge 27 = .ok (.iconst 0, 1) := by decide +kernel
theorem d_L_edge_28 : decode b_L_edge 28 = .ok (.ireturn, 1) := by decide +kernel
abbrev b_G_edge : ByteArray := prog_1_method_3_code
def y_G_edge : MethodName := ⟨"MergingFragments", "edge", "(III)I"⟩
theorem d_G_edge_0 : decode b_G_edge 0 = .ok (.aload_n 0, 1) := by decide +kernel
theorem d_G_edge_1 : decode b_G_edge 1 = .ok (.iload_n 1, 1) := by decide +kernel
theorem d_G_edge_2 : decode b_G_edge 2 = .ok (.invokevirtual 48, 3) := by decide +kernel
theorem d_G_edge_5 : decode b_G_edge 5 = .ok (.aload_n 0, 1) := by decide +kernel
theorem d_G_edge_6 : decode b_G_edge 6 = .ok (.iload_n 2, 1) := by decide +kernel
theorem d_G_edge_7 : decode b_G_edge 7 = .ok (.invokevirtual 48, 3) := by decide +kernel
theorem d_G_edge_10 : decode b_G_edge 10 = .ok (.iload_n 1, 1) := by decide +kernel
theorem d_G_edge_11 : decode b_G_edge 11 = .ok (.iload_n 2, 1) := by decide +kernel
theorem d_G_edge_12 : decode b_G_edge 12 = .ok (.if_icmp .ne 13, 3) := by decide +kernel
theorem d_G_edge_15 : decode b_G_edge 15 = .ok (.new 38, 3) := by decide +kernel
theorem d_G_edge_18 : decode b_G_edge 18 = .ok (.dup, 1) := by decide +kernel
theorem d_G_edge_19 : decode b_G_edge 19 = .ok (.ldc 51, 2) := by decide +kernel
theorem d_G_edge_21 : decode b_G_edge 21 = .ok (.invokespecial 42, 3) := by decide +kernel
theorem d_G_edge_24 : decode b_G_edge 24 = .ok (.athrow, 1) := by decide +kernel
theorem d_G_edge_25 : decode b_G_edge 25 = .ok (.iload_n 3, 1) := by decide +kernel
theorem d_G_edge_26 : decode b_G_edge 26 = .ok (.iconst 1, 1) := by decide +kernel
theorem d_G_edge_27 : decode b_G_edge 27 = .ok (.if_icmp .lt 17, 3) := by decide +kernel
theorem d_G_edge_30 : decode b_G_edge 30 = .ok (.iload_n 3, 1) := by decide +kernel
theorem d_G_edge_31 : decode b_G_edge 31 = .ok (.bipush 99, 2) := by decide +kernel
theorem d_G_edge_33 : decode b_G_edge 33 = .ok (.if_icmp .gt 11, 3) := by decide +kernel
theorem d_G_edge_36 : decode b_G_edge 36 = .ok (.aload_n 0, 1) := by decide +kernel
theorem d_G_edge_37 : decode b_G_edge 37 = .ok (.iload_n 3, 1) := by decide +kernel
theorem d_G_edge_38 : decode b_G_edge 38 = .ok (.invokevirtual 53, 3) := by decide +kernel
theorem d_G_edge_41 : decode b_G_edge 41 = .ok (.ifCond .eq 13, 3) := by decide +kernel
theorem d_G_edge_44 : decode b_G_edge 44 = .ok (.new 38, 3) := by decide +kernel
theorem d_G_edge_47 : decode b_G_edge 47 = .ok (.dup, 1) := by decide +kernel
theorem d_G_edge_48 : decode b_G_edge 48 = .ok (.ldc 57, 2) := by decide +kernel
theorem d_G_edge_50 : decode b_G_edge 50 = .ok (.invokespecial 42, 3) := by decide +kernel
theorem d_G_edge_53 : decode b_G_edge 53 = .ok (.athrow, 1) := by decide +kernel
theorem d_G_edge_54 : decode b_G_edge 54 = .ok (.aload_n 0, 1) := by decide +kernel
theorem d_G_edge_55 : decode b_G_edge 55 = .ok (.invokevirtual 59, 3) := by decide +kernel
theorem d_G_edge_58 : decode b_G_edge 58 = .ok (.ifCond .ne 12, 3) := by decide +kernel
theorem d_G_edge_61 : decode b_G_edge 61 = .ok (.aload_n 0, 1) := by decide +kernel
theorem d_G_edge_62 : decode b_G_edge 62 = .ok (.getfield 29, 3) := by decide +kernel
theorem d_G_edge_65 : decode b_G_edge 65 = .ok (.bipush 12, 2) := by decide +kernel
theorem d_G_edge_67 : decode b_G_edge 67 = .ok (.if_icmp .ne 13, 3) := by decide +kernel
theorem d_G_edge_70 : decode b_G_edge 70 = .ok (.new 63, 3) := by decide +kernel
theorem d_G_edge_73 : decode b_G_edge 73 = .ok (.dup, 1) := by decide +kernel
theorem d_G_edge_74 : decode b_G_edge 74 = .ok (.ldc 65, 2) := by decide +kernel
theorem d_G_edge_76 : decode b_G_edge 76 = .ok (.invokespecial 67, 3) := by decide +kernel
theorem d_G_edge_79 : decode b_G_edge 79 = .ok (.athrow, 1) := by decide +kernel
theorem d_G_edge_80 : decode b_G_edge 80 = .ok (.aload_n 0, 1) := by decide +kernel
theorem d_G_edge_81 : decode b_G_edge 81 = .ok (.getfield 29, 3) := by decide +kernel
theorem d_G_edge_84 : decode b_G_edge 84 = .ok (.istore 4, 2) := by decide +kernel
theorem d_G_edge_86 : decode b_G_edge 86 = .ok (.aload_n 0, 1) := by decide +kernel
theorem d_G_edge_87 : decode b_G_edge 87 = .ok (.getfield 15, 3) := by decide +kernel
theorem d_G_edge_90 : decode b_G_edge 90 = .ok (.iload 4, 2) := by decide +kernel
theorem d_G_edge_92 : decode b_G_edge 92 = .ok (.iload_n 1, 1) := by decide +kernel
theorem d_G_edge_93 : decode b_G_edge 93 = .ok (.iastore, 1) := by decide +kernel
theorem d_G_edge_94 : decode b_G_edge 94 = .ok (.aload_n 0, 1) := by decide +kernel
theorem d_G_edge_95 : decode b_G_edge 95 = .ok (.getfield 19, 3) := by decide +kernel
theorem d_G_edge_98 : decode b_G_edge 98 = .ok (.iload 4, 2) := by decide +kernel
theorem d_G_edge_100 : decode b_G_edge 100 = .ok (.iload_n 2, 1) := by decide +kernel
theorem d_G_edge_101 : decode b_G_edge 101 = .ok (.iastore, 1) := by decide +kernel
theorem d_G_edge_102 : decode b_G_edge 102 = .ok (.aload_n 0, 1) := by decide +kernel
theorem d_G_edge_103 : decode b_G_edge 103 = .ok (.getfield 22, 3) := by decide +kernel
theorem d_G_edge_106 : decode b_G_edge 106 = .ok (.iload 4, 2) := by decide +kernel
theorem d_G_edge_108 : decode b_G_edge 108 = .ok (.iload_n 3, 1) := by decide +kernel
theorem d_G_edge_109 : decode b_G_edge 109 = .ok (.iastore, 1) := by decide +kernel
theorem d_G_edge_110 : decode b_G_edge 110 = .ok (.aload_n 0, 1) := by decide +kernel
theorem d_G_edge_111 : decode b_G_edge 111 = .ok (.getfield 11, 3) := by decide +kernel
theorem d_G_edge_114 : decode b_G_edge 114 = .ok (.iload_n 1, 1) := by decide +kernel
theorem d_G_edge_115 : decode b_G_edge 115 = .ok (.aaload, 1) := by decide +kernel
theorem d_G_edge_116 : decode b_G_edge 116 = .ok (.getfield 68, 3) := by decide +kernel
theorem d_G_edge_119 : decode b_G_edge 119 = .ok (.iload 4, 2) := by decide +kernel
theorem d_G_edge_121 : decode b_G_edge 121 = .ok (.iconst 0, 1) := by decide +kernel
theorem d_G_edge_122 : decode b_G_edge 122 = .ok (.iastore, 1) := by decide +kernel
theorem d_G_edge_123 : decode b_G_edge 123 = .ok (.aload_n 0, 1) := by decide +kernel
theorem d_G_edge_124 : decode b_G_edge 124 = .ok (.getfield 11, 3) := by decide +kernel
theorem d_G_edge_127 : decode b_G_edge 127 = .ok (.iload_n 2, 1) := by decide +kernel
theorem d_G_edge_128 : decode b_G_edge 128 = .ok (.aaload, 1) := by decide +kernel
theorem d_G_edge_129 : decode b_G_edge 129 = .ok (.getfield 68, 3) := by decide +kernel
theorem d_G_edge_132 : decode b_G_edge 132 = .ok (.iload 4, 2) := by decide +kernel
theorem d_G_edge_134 : decode b_G_edge 134 = .ok (.iconst 0, 1) := by decide +kernel
theorem d_G_edge_135 : decode b_G_edge 135 = .ok (.iastore, 1) := by decide +kernel
theorem d_G_edge_136 : decode b_G_edge 136 = .ok (.aload_n 0, 1) := by decide +kernel
theorem d_G_edge_137 : decode b_G_edge 137 = .ok (.dup, 1) := by decide +kernel
theorem d_G_edge_138 : decode b_G_edge 138 = .ok (.getfield 29, 3) := by decide +kernel
theorem d_G_edge_141 : decode b_G_edge 141 = .ok (.iconst 1, 1) := by decide +kernel
theorem d_G_edge_142 : decode b_G_edge 142 = .ok (.iadd, 1) := by decide +kernel
theorem d_G_edge_143 : decode b_G_edge 143 = .ok (.putfield 29, 3) := by decide +kernel
theorem d_G_edge_146 : decode b_G_edge 146 = .ok (.iload 4, 2) := by decide +kernel
theorem d_G_edge_148 : decode b_G_edge 148 = .ok (.ireturn, 1) := by decide +kernel
abbrev b_G_requireNode : ByteArray := prog_1_method_13_code
def y_G_requireNode : MethodName := ⟨"MergingFragments", "requireNode", "(I)V"⟩
theorem d_G_requireNode_0 : decode b_G_requireNode 0 = .ok (.iload_n 1, 1) := by decide +kernel
theorem d_G_requireNode_1 : decode b_G_requireNode 1 = .ok (.ifCond .lt 11, 3) := by decide +kernel
theorem d_G_requireNode_4 : decode b_G_requireNode 4 = .ok (.iload_n 1, 1) := by decide +kernel
theorem d_G_requireNode_5 : decode b_G_requireNode 5 = .ok (.aload_n 0, 1) := by decide +kernel
theorem d_G_requireNode_6 : decode b_G_requireNode 6 = .ok (.getfield 25, 3) := by decide +kernel
theorem d_G_requireNode_9 : decode b_G_requireNode 9 = .ok (.if_icmp .lt 13, 3) := by decide +kernel
theorem d_G_requireNode_12 : decode b_G_requireNode 12 = .ok (.new 124, 3) := by decide +kernel
theorem d_G_requireNode_15 : decode b_G_requireNode 15 = .ok (.dup, 1) := by decide +kernel
theorem d_G_requireNode_16 : decode b_G_requireNode 16 = .ok (.ldc 154, 2) := by decide +kernel
theorem d_G_requireNode_18 : decode b_G_requireNode 18 = .ok (.invokespecial 128, 3) := by decide +kernel
theorem d_G_requireNode_21 : decode b_G_requireNode 21 = .ok (.athrow, 1) := by decide +kernel
theorem d_G_requireNode_22 : decode b_G_requireNode 22 = .ok (.return_, 1) := by decide +kernel
abbrev b_Io_init : ByteArray := prog_11_method_2_code
def y_Io_init : MethodName := ⟨"java/lang/IndexOutOfBoundsException", "<init>", "(Ljava/lang/String;)V"⟩
theorem d_Io_init_0 : decode b_Io_init 0 = .ok (.aload_n 0, 1) := by decide +kernel
theorem d_Io_init_1 : decode b_Io_init 1 = .ok (.aload_n 1, 1) := by decide +kernel
theorem d_Io_init_2 : decode b_Io_init 2 = .ok (.invokespecial 7, 3) := by decide +kernel
theorem d_Io_init_5 : decode b_Io_init 5 = .ok (.return_, 1) := by decide +kernel
abbrev b_G_isTaken : ByteArray := prog_1_method_14_code
def y_G_isTaken : MethodName := ⟨"MergingFragments", "isTaken", "(I)Z"⟩
theorem d_G_isTaken_0 : decode b_G_isTaken 0 = .ok (.iconst 0, 1) := by decide +kernel
theorem d_G_isTaken_1 : decode b_G_isTaken 1 = .ok (.istore_n 2, 1) := by decide +kernel
theorem d_G_isTaken_2 : decode b_G_isTaken 2 = .ok (.iload_n 2, 1) := by decide +kernel
theorem d_G_isTaken_3 : decode b_G_isTaken 3 = .ok (.aload_n 0, 1) := by decide +kernel
theorem d_G_isTaken_4 : decode b_G_isTaken 4 = .ok (.getfield 29, 3) := by decide +kernel
theorem d_G_isTaken_7 : decode b_G_isTaken 7 = .ok (.if_icmp .ge 21, 3) := by decide +kernel
theorem d_G_isTaken_10 : decode b_G_isTaken 10 = .ok (.aload_n 0, 1) := by decide +kernel
theorem d_G_isTaken_11 : decode b_G_isTaken 11 = .ok (.getfield 22, 3) := by decide +kernel
theorem d_G_isTaken_14 : decode b_G_isTaken 14 = .ok (.iload_n 2, 1) := by decide +kernel
theorem d_G_isTaken_15 : decode b_G_isTaken 15 = .ok (.iaload, 1) := by decide +kernel
theorem d_G_isTaken_16 : decode b_G_isTaken 16 = .ok (.iload_n 1, 1) := by decide +kernel
theorem d_G_isTaken_17 : decode b_G_isTaken 17 = .ok (.if_icmp .ne 5, 3) := by decide +kernel
theorem d_G_isTaken_20 : decode b_G_isTaken 20 = .ok (.iconst 1, 1) := by decide +kernel
theorem d_G_isTaken_21 : decode b_G_isTaken 21 = .ok (.ireturn, 1) := by decide +kernel
theorem d_G_isTaken_22 : decode b_G_isTaken 22 = .ok (.iinc 2 1, 3) := by decide +kernel
theorem d_G_isTaken_25 : decode b_G_isTaken 25 = .ok (.goto (-23), 3) := by decide +kernel
theorem d_G_isTaken_28 : decode b_G_isTaken 28 = .ok (.iconst 0, 1) := by decide +kernel
theorem d_G_isTaken_29 : decode b_G_isTaken 29 = .ok (.ireturn, 1) := by decide +kernel
abbrev b_G_isSomeNodeAwake : ByteArray := prog_1_method_15_code
def y_G_isSomeNodeAwake : MethodName := ⟨"MergingFragments", "isSomeNodeAwake", "()Z"⟩
theorem d_G_isSomeNodeAwake_0 : decode b_G_isSomeNodeAwake 0 = .ok (.iconst 0, 1) := by decide +kernel
theorem d_G_isSomeNodeAwake_1 : decode b_G_isSomeNodeAwake 1 = .ok (.istore_n 1, 1) := by decide +kernel
theorem d_G_isSomeNodeAwake_2 : decode b_G_isSomeNodeAwake 2 = .ok (.iload_n 1, 1) := by decide +kernel
theorem d_G_isSomeNodeAwake_3 : decode b_G_isSomeNodeAwake 3 = .ok (.aload_n 0, 1) := by decide +kernel
theorem d_G_isSomeNodeAwake_4 : decode b_G_isSomeNodeAwake 4 = .ok (.getfield 25, 3) := by decide +kernel
theorem d_G_isSomeNodeAwake_7 : decode b_G_isSomeNodeAwake 7 = .ok (.if_icmp .ge 23, 3) := by decide +kernel
theorem d_G_isSomeNodeAwake_10 : decode b_G_isSomeNodeAwake 10 = .ok (.aload_n 0, 1) := by decide +kernel
theorem d_G_isSomeNodeAwake_11 : decode b_G_isSomeNodeAwake 11 = .ok (.getfield 11, 3) := by decide +kernel
theorem d_G_isSomeNodeAwake_14 : decode b_G_isSomeNodeAwake 14 = .ok (.iload_n 1, 1) := by decide +kernel
theorem d_G_isSomeNodeAwake_15 : decode b_G_isSomeNodeAwake 15 = .ok (.aaload, 1) := by decide +kernel
theorem d_G_isSomeNodeAwake_16 : decode b_G_isSomeNodeAwake 16 = .ok (.getfield 71, 3) := by decide +kernel
theorem d_G_isSomeNodeAwake_19 : decode b_G_isSomeNodeAwake 19 = .ok (.ifCond .eq 5, 3) := by decide +kernel
theorem d_G_isSomeNodeAwake_22 : decode b_G_isSomeNodeAwake 22 = .ok (.iconst 1, 1) := by decide +kernel
theorem d_G_isSomeNodeAwake_23 : decode b_G_isSomeNodeAwake 23 = .ok (.ireturn, 1) := by decide +kernel
theorem d_G_isSomeNodeAwake_24 : decode b_G_isSomeNodeAwake 24 = .ok (.iinc 1 1, 3) := by decide +kernel
theorem d_G_isSomeNodeAwake_27 : decode b_G_isSomeNodeAwake 27 = .ok (.goto (-25), 3) := by decide +kernel
theorem d_G_isSomeNodeAwake_30 : decode b_G_isSomeNodeAwake 30 = .ok (.iconst 0, 1) := by decide +kernel
theorem d_G_isSomeNodeAwake_31 : decode b_G_isSomeNodeAwake 31 = .ok (.ireturn, 1) := by decide +kernel
abbrev b_Is_init : ByteArray := prog_10_method_2_code
def y_Is_init : MethodName := ⟨"java/lang/IllegalStateException", "<init>", "(Ljava/lang/String;)V"⟩
theorem d_Is_init_0 : decode b_Is_init 0 = .ok (.aload_n 0, 1) := by decide +kernel
theorem d_Is_init_1 : decode b_Is_init 1 = .ok (.aload_n 1, 1) := by decide +kernel
theorem d_Is_init_2 : decode b_Is_init 2 = .ok (.invokespecial 7, 3) := by decide +kernel
theorem d_Is_init_5 : decode b_Is_init 5 = .ok (.return_, 1) := by decide +kernel
abbrev b_L_wake : ByteArray := method_5_code
def y_L_wake : MethodName := ⟨"MergingFragmentsLaw", "wake", "(LMergingFragments;I[J)I"⟩
theorem d_L_wake_0 : decode b_L_wake 0 = .ok (.aload_n 2, 1) := by decide +kernel
theorem d_L_wake_1 : decode b_L_wake 1 = .ok (.iconst 0, 1) := by decide +kernel
theorem d_L_wake_2 : decode b_L_wake 2 = .ok (.aload_n 0, 1) := by decide +kernel
theorem d_L_wake_3 : decode b_L_wake 3 = .ok (.iload_n 1, 1) := by decide +kernel
theorem d_L_wake_4 : decode b_L_wake 4 = .ok (.invokevirtual 23, 3) := by decide +kernel
theorem d_L_wake_7 : decode b_L_wake 7 = .ok (.ifCond .eq 7, 3) := by decide +kernel
theorem d_L_wake_10 : decode b_L_wake 10 = .ok (.lconst 1, 1) := by decide +kernel
theorem d_L_wake_11 : decode b_L_wake 11 = .ok (.goto 4, 3) := by decide +kernel
theorem d_L_wake_14 : decode b_L_wake 14 = .ok (.lconst 0, 1) := by decide +kernel
theorem d_L_wake_15 : decode b_L_wake 15 = .ok (.lastore, 1) := by decide +kernel
theorem d_L_wake_16 : decode b_L_wake 16 = .ok (.goto 6, 3) := by decide +kernel
theorem d_L_wake_19 : decode b_L_wake 19 = .ok (.astore_n 3, 1) := by decide +kernel
theorem d_L_wake_20 : decode b_L_wake 20 = .ok (.iconst 1, 1) := by decide +kernel
theorem d_L_wake_21 : decode b_L_wake 21 = .ok (.ireturn, 1) := by decide +kernel
theorem d_L_wake_22 : decode b_L_wake 22 = .ok (.iconst 0, 1) := by decide +kernel
theorem d_L_wake_23 : decode b_L_wake 23 = .ok (.ireturn, 1) := by decide +kernel
abbrev b_G_wake : ByteArray := prog_1_method_4_code
def y_G_wake : MethodName := ⟨"MergingFragments", "wake", "(I)Z"⟩
theorem d_G_wake_0 : decode b_G_wake 0 = .ok (.aload_n 0, 1) := by decide +kernel
theorem d_G_wake_1 : decode b_G_wake 1 = .ok (.iload_n 1, 1) := by decide +kernel
theorem d_G_wake_2 : decode b_G_wake 2 = .ok (.invokevirtual 48, 3) := by decide +kernel
theorem d_G_wake_5 : decode b_G_wake 5 = .ok (.aload_n 0, 1) := by decide +kernel
theorem d_G_wake_6 : decode b_G_wake 6 = .ok (.getfield 11, 3) := by decide +kernel
theorem d_G_wake_9 : decode b_G_wake 9 = .ok (.iload_n 1, 1) := by decide +kernel
theorem d_G_wake_10 : decode b_G_wake 10 = .ok (.aaload, 1) := by decide +kernel
theorem d_G_wake_11 : decode b_G_wake 11 = .ok (.getfield 71, 3) := by decide +kernel
theorem d_G_wake_14 : decode b_G_wake 14 = .ok (.ifCond .eq 5, 3) := by decide +kernel
theorem d_G_wake_17 : decode b_G_wake 17 = .ok (.iconst 0, 1) := by decide +kernel
theorem d_G_wake_18 : decode b_G_wake 18 = .ok (.ireturn, 1) := by decide +kernel
theorem d_G_wake_19 : decode b_G_wake 19 = .ok (.aload_n 0, 1) := by decide +kernel
theorem d_G_wake_20 : decode b_G_wake 20 = .ok (.aload_n 0, 1) := by decide +kernel
theorem d_G_wake_21 : decode b_G_wake 21 = .ok (.getfield 11, 3) := by decide +kernel
theorem d_G_wake_24 : decode b_G_wake 24 = .ok (.iload_n 1, 1) := by decide +kernel
theorem d_G_wake_25 : decode b_G_wake 25 = .ok (.aaload, 1) := by decide +kernel
theorem d_G_wake_26 : decode b_G_wake 26 = .ok (.invokevirtual 74, 3) := by decide +kernel
theorem d_G_wake_29 : decode b_G_wake 29 = .ok (.iconst 1, 1) := by decide +kernel
theorem d_G_wake_30 : decode b_G_wake 30 = .ok (.ireturn, 1) := by decide +kernel
abbrev b_G_wakeIfAsleep : ByteArray := prog_1_method_18_code
def y_G_wakeIfAsleep : MethodName := ⟨"MergingFragments", "wakeIfAsleep", "(LMergingFragments$Node;)V"⟩
theorem d_G_wakeIfAsleep_0 : decode b_G_wakeIfAsleep 0 = .ok (.aload_n 1, 1) := by decide +kernel
theorem d_G_wakeIfAsleep_1 : decode b_G_wakeIfAsleep 1 = .ok (.getfield 71, 3) := by decide +kernel
theorem d_G_wakeIfAsleep_4 : decode b_G_wakeIfAsleep 4 = .ok (.ifCond .eq 4, 3) := by decide +kernel
theorem d_G_wakeIfAsleep_7 : decode b_G_wakeIfAsleep 7 = .ok (.return_, 1) := by decide +kernel
theorem d_G_wakeIfAsleep_8 : decode b_G_wakeIfAsleep 8 = .ok (.aload_n 1, 1) := by decide +kernel
theorem d_G_wakeIfAsleep_9 : decode b_G_wakeIfAsleep 9 = .ok (.iconst 2, 1) := by decide +kernel
theorem d_G_wakeIfAsleep_10 : decode b_G_wakeIfAsleep 10 = .ok (.putfield 71, 3) := by decide +kernel
theorem d_G_wakeIfAsleep_13 : decode b_G_wakeIfAsleep 13 = .ok (.aload_n 0, 1) := by decide +kernel
theorem d_G_wakeIfAsleep_14 : decode b_G_wakeIfAsleep 14 = .ok (.aload_n 1, 1) := by decide +kernel
theorem d_G_wakeIfAsleep_15 : decode b_G_wakeIfAsleep 15 = .ok (.invokevirtual 163, 3) := by decide +kernel
theorem d_G_wakeIfAsleep_18 : decode b_G_wakeIfAsleep 18 = .ok (.istore_n 2, 1) := by decide +kernel
theorem d_G_wakeIfAsleep_19 : decode b_G_wakeIfAsleep 19 = .ok (.iload_n 2, 1) := by decide +kernel
theorem d_G_wakeIfAsleep_20 : decode b_G_wakeIfAsleep 20 = .ok (.iconst (-1), 1) := by decide +kernel
theorem d_G_wakeIfAsleep_21 : decode b_G_wakeIfAsleep 21 = .ok (.if_icmp .eq 27, 3) := by decide +kernel
theorem d_G_wakeIfAsleep_24 : decode b_G_wakeIfAsleep 24 = .ok (.aload_n 1, 1) := by decide +kernel
theorem d_G_wakeIfAsleep_25 : decode b_G_wakeIfAsleep 25 = .ok (.getfield 68, 3) := by decide +kernel
theorem d_G_wakeIfAsleep_28 : decode b_G_wakeIfAsleep 28 = .ok (.iload_n 2, 1) := by decide +kernel
theorem d_G_wakeIfAsleep_29 : decode b_G_wakeIfAsleep 29 = .ok (.iconst 1, 1) := by decide +kernel
theorem d_G_wakeIfAsleep_30 : decode b_G_wakeIfAsleep 30 = .ok (.iastore, 1) := by decide +kernel
theorem d_G_wakeIfAsleep_31 : decode b_G_wakeIfAsleep 31 = .ok (.aload_n 0, 1) := by decide +kernel
theorem d_G_wakeIfAsleep_32 : decode b_G_wakeIfAsleep 32 = .ok (.aload_n 1, 1) := by decide +kernel
theorem d_G_wakeIfAsleep_33 : decode b_G_wakeIfAsleep 33 = .ok (.new 135, 3) := by decide +kernel
theorem d_G_wakeIfAsleep_36 : decode b_G_wakeIfAsleep 36 = .ok (.dup, 1) := by decide +kernel
theorem d_G_wakeIfAsleep_37 : decode b_G_wakeIfAsleep 37 = .ok (.iconst 0, 1) := by decide +kernel
theorem d_G_wakeIfAsleep_38 : decode b_G_wakeIfAsleep 38 = .ok (.iload_n 2, 1) := by decide +kernel
theorem d_G_wakeIfAsleep_39 : decode b_G_wakeIfAsleep 39 = .ok (.iconst 0, 1) := by decide +kernel
theorem d_G_wakeIfAsleep_40 : decode b_G_wakeIfAsleep 40 = .ok (.iconst 0, 1) := by decide +kernel
theorem d_G_wakeIfAsleep_41 : decode b_G_wakeIfAsleep 41 = .ok (.iconst 0, 1) := by decide +kernel
theorem d_G_wakeIfAsleep_42 : decode b_G_wakeIfAsleep 42 = .ok (.invokespecial 166, 3) := by decide +kernel
theorem d_G_wakeIfAsleep_45 : decode b_G_wakeIfAsleep 45 = .ok (.invokevirtual 169, 3) := by decide +kernel
theorem d_G_wakeIfAsleep_48 : decode b_G_wakeIfAsleep 48 = .ok (.return_, 1) := by decide +kernel
abbrev b_G_lightestBasic : ByteArray := prog_1_method_16_code
def y_G_lightestBasic : MethodName := ⟨"MergingFragments", "lightestBasic", "(LMergingFragments$Node;)I"⟩
theorem d_G_lightestBasic_0 : decode b_G_lightestBasic 0 = .ok (.iconst (-1), 1) := by decide +kernel
theorem d_G_lightestBasic_1 : decode b_G_lightestBasic 1 = .ok (.istore_n 2, 1) := by decide +kernel
theorem d_G_lightestBasic_2 : decode b_G_lightestBasic 2 = .ok (.iconst 0, 1) := by decide +kernel
theorem d_G_lightestBasic_3 : decode b_G_lightestBasic 3 = .ok (.istore_n 3, 1) := by decide +kernel
theorem d_G_lightestBasic_4 : decode b_G_lightestBasic 4 = .ok (.iload_n 3, 1) := by decide +kernel
theorem d_G_lightestBasic_5 : decode b_G_lightestBasic 5 = .ok (.aload_n 0, 1) := by decide +kernel
theorem d_G_lightestBasic_6 : decode b_G_lightestBasic 6 = .ok (.getfield 29, 3) := by decide +kernel
theorem d_G_lightestBasic_9 : decode b_G_lightestBasic 9 = .ok (.if_icmp .ge 40, 3) := by decide +kernel
theorem d_G_lightestBasic_12 : decode b_G_lightestBasic 12 = .ok (.aload_n 1, 1) := by decide +kernel
theorem d_G_lightestBasic_13 : decode b_G_lightestBasic 13 = .ok (.getfield 68, 3) := by decide +kernel
theorem d_G_lightestBasic_16 : decode b_G_lightestBasic 16 = .ok (.iload_n 3, 1) := by decide +kernel
theorem d_G_lightestBasic_17 : decode b_G_lightestBasic 17 = .ok (.iaload, 1) := by decide +kernel
theorem d_G_lightestBasic_18 : decode b_G_lightestBasic 18 = .ok (.ifCond .ne 25, 3) := by decide +kernel
theorem d_G_lightestBasic_21 : decode b_G_lightestBasic 21 = .ok (.iload_n 2, 1) := by decide +kernel
theorem d_G_lightestBasic_22 : decode b_G_lightestBasic 22 = .ok (.iconst (-1), 1) := by decide +kernel
theorem d_G_lightestBasic_23 : decode b_G_lightestBasic 23 = .ok (.if_icmp .eq 18, 3) := by decide +kernel
theorem d_G_lightestBasic_26 : decode b_G_lightestBasic 26 = .ok (.aload_n 0, 1) := by decide +kernel
theorem d_G_lightestBasic_27 : decode b_G_lightestBasic 27 = .ok (.getfield 22, 3) := by decide +kernel
theorem d_G_lightestBasic_30 : decode b_G_lightestBasic 30 = .ok (.iload_n 3, 1) := by decide +kernel
theorem d_G_lightestBasic_31 : decode b_G_lightestBasic 31 = .ok (.iaload, 1) := by decide +kernel
theorem d_G_lightestBasic_32 : decode b_G_lightestBasic 32 = .ok (.aload_n 0, 1) := by decide +kernel
theorem d_G_lightestBasic_33 : decode b_G_lightestBasic 33 = .ok (.getfield 22, 3) := by decide +kernel
theorem d_G_lightestBasic_36 : decode b_G_lightestBasic 36 = .ok (.iload_n 2, 1) := by decide +kernel
theorem d_G_lightestBasic_37 : decode b_G_lightestBasic 37 = .ok (.iaload, 1) := by decide +kernel
theorem d_G_lightestBasic_38 : decode b_G_lightestBasic 38 = .ok (.if_icmp .ge 5, 3) := by decide +kernel
theorem d_G_lightestBasic_41 : decode b_G_lightestBasic 41 = .ok (.iload_n 3, 1) := by decide +kernel
theorem d_G_lightestBasic_42 : decode b_G_lightestBasic 42 = .ok (.istore_n 2, 1) := by decide +kernel
theorem d_G_lightestBasic_43 : decode b_G_lightestBasic 43 = .ok (.iinc 3 1, 3) := by decide +kernel
theorem d_G_lightestBasic_46 : decode b_G_lightestBasic 46 = .ok (.goto (-42), 3) := by decide +kernel
theorem d_G_lightestBasic_49 : decode b_G_lightestBasic 49 = .ok (.iload_n 2, 1) := by decide +kernel
theorem d_G_lightestBasic_50 : decode b_G_lightestBasic 50 = .ok (.ireturn, 1) := by decide +kernel
abbrev b_M_init : ByteArray := prog_2_method_1_code
def y_M_init : MethodName := ⟨"MergingFragments$Message", "<init>", "(IIIII)V"⟩
theorem d_M_init_0 : decode b_M_init 0 = .ok (.aload_n 0, 1) := by decide +kernel
theorem d_M_init_1 : decode b_M_init 1 = .ok (.invokespecial 1, 3) := by decide +kernel
theorem d_M_init_4 : decode b_M_init 4 = .ok (.aload_n 0, 1) := by decide +kernel
theorem d_M_init_5 : decode b_M_init 5 = .ok (.iload_n 1, 1) := by decide +kernel
theorem d_M_init_6 : decode b_M_init 6 = .ok (.putfield 7, 3) := by decide +kernel
theorem d_M_init_9 : decode b_M_init 9 = .ok (.aload_n 0, 1) := by decide +kernel
theorem d_M_init_10 : decode b_M_init 10 = .ok (.iload_n 2, 1) := by decide +kernel
theorem d_M_init_11 : decode b_M_init 11 = .ok (.putfield 13, 3) := by decide +kernel
theorem d_M_init_14 : decode b_M_init 14 = .ok (.aload_n 0, 1) := by decide +kernel
theorem d_M_init_15 : decode b_M_init 15 = .ok (.iload_n 3, 1) := by decide +kernel
theorem d_M_init_16 : decode b_M_init 16 = .ok (.putfield 16, 3) := by decide +kernel
theorem d_M_init_19 : decode b_M_init 19 = .ok (.aload_n 0, 1) := by decide +kernel
theorem d_M_init_20 : decode b_M_init 20 = .ok (.iload 4, 2) := by decide +kernel
theorem d_M_init_22 : decode b_M_init 22 = .ok (.putfield 19, 3) := by decide +kernel
theorem d_M_init_25 : decode b_M_init 25 = .ok (.aload_n 0, 1) := by decide +kernel
theorem d_M_init_26 : decode b_M_init 26 = .ok (.iload 5, 2) := by decide +kernel
theorem d_M_init_28 : decode b_M_init 28 = .ok (.putfield 22, 3) := by decide +kernel
theorem d_M_init_31 : decode b_M_init 31 = .ok (.return_, 1) := by decide +kernel
abbrev b_Rc_init : ByteArray := prog_14_method_1_code
def y_Rc_init : MethodName := ⟨"java/lang/Record", "<init>", "()V"⟩
theorem d_Rc_init_0 : decode b_Rc_init 0 = .ok (.aload_n 0, 1) := by decide +kernel
theorem d_Rc_init_1 : decode b_Rc_init 1 = .ok (.invokespecial 1, 3) := by decide +kernel
theorem d_Rc_init_4 : decode b_Rc_init 4 = .ok (.return_, 1) := by decide +kernel
abbrev b_G_send : ByteArray := prog_1_method_17_code
def y_G_send : MethodName := ⟨"MergingFragments", "send", "(LMergingFragments$Node;LMergingFragments$Message;)V"⟩
theorem d_G_send_0 : decode b_G_send 0 = .ok (.aload_n 2, 1) := by decide +kernel
theorem d_G_send_1 : decode b_G_send 1 = .ok (.invokevirtual 140, 3) := by decide +kernel
theorem d_G_send_4 : decode b_G_send 4 = .ok (.istore_n 3, 1) := by decide +kernel
theorem d_G_send_5 : decode b_G_send 5 = .ok (.iload_n 3, 1) := by decide +kernel
theorem d_G_send_6 : decode b_G_send 6 = .ok (.iconst (-1), 1) := by decide +kernel
theorem d_G_send_7 : decode b_G_send 7 = .ok (.if_icmp .ne 4, 3) := by decide +kernel
theorem d_G_send_10 : decode b_G_send 10 = .ok (.return_, 1) := by decide +kernel
theorem d_G_send_11 : decode b_G_send 11 = .ok (.aload_n 0, 1) := by decide +kernel
theorem d_G_send_12 : decode b_G_send 12 = .ok (.getfield 15, 3) := by decide +kernel
theorem d_G_send_15 : decode b_G_send 15 = .ok (.iload_n 3, 1) := by decide +kernel
theorem d_G_send_16 : decode b_G_send 16 = .ok (.iaload, 1) := by decide +kernel
theorem d_G_send_17 : decode b_G_send 17 = .ok (.aload_n 1, 1) := by decide +kernel
theorem d_G_send_18 : decode b_G_send 18 = .ok (.getfield 156, 3) := by decide +kernel
theorem d_G_send_21 : decode b_G_send 21 = .ok (.if_icmp .ne 12, 3) := by decide +kernel
theorem d_G_send_24 : decode b_G_send 24 = .ok (.aload_n 0, 1) := by decide +kernel
theorem d_G_send_25 : decode b_G_send 25 = .ok (.getfield 19, 3) := by decide +kernel
theorem d_G_send_28 : decode b_G_send 28 = .ok (.iload_n 3, 1) := by decide +kernel
theorem d_G_send_29 : decode b_G_send 29 = .ok (.iaload, 1) := by decide +kernel
theorem d_G_send_30 : decode b_G_send 30 = .ok (.goto 9, 3) := by decide +kernel
theorem d_G_send_33 : decode b_G_send 33 = .ok (.aload_n 0, 1) := by decide +kernel
theorem d_G_send_34 : decode b_G_send 34 = .ok (.getfield 15, 3) := by decide +kernel
theorem d_G_send_37 : decode b_G_send 37 = .ok (.iload_n 3, 1) := by decide +kernel
theorem d_G_send_38 : decode b_G_send 38 = .ok (.iaload, 1) := by decide +kernel
theorem d_G_send_39 : decode b_G_send 39 = .ok (.istore 4, 2) := by decide +kernel
theorem d_G_send_41 : decode b_G_send 41 = .ok (.aload_n 0, 1) := by decide +kernel
theorem d_G_send_42 : decode b_G_send 42 = .ok (.getfield 11, 3) := by decide +kernel
theorem d_G_send_45 : decode b_G_send 45 = .ok (.iload 4, 2) := by decide +kernel
theorem d_G_send_47 : decode b_G_send 47 = .ok (.aaload, 1) := by decide +kernel
theorem d_G_send_48 : decode b_G_send 48 = .ok (.getfield 109, 3) := by decide +kernel
theorem d_G_send_51 : decode b_G_send 51 = .ok (.aload_n 2, 1) := by decide +kernel
theorem d_G_send_52 : decode b_G_send 52 = .ok (.invokevirtual 159, 3) := by decide +kernel
theorem d_G_send_55 : decode b_G_send 55 = .ok (.pop, 1) := by decide +kernel
theorem d_G_send_56 : decode b_G_send 56 = .ok (.aload_n 0, 1) := by decide +kernel
theorem d_G_send_57 : decode b_G_send 57 = .ok (.dup, 1) := by decide +kernel
theorem d_G_send_58 : decode b_G_send 58 = .ok (.getfield 32, 3) := by decide +kernel
theorem d_G_send_61 : decode b_G_send 61 = .ok (.iconst 1, 1) := by decide +kernel
theorem d_G_send_62 : decode b_G_send 62 = .ok (.iadd, 1) := by decide +kernel
theorem d_G_send_63 : decode b_G_send 63 = .ok (.putfield 32, 3) := by decide +kernel
theorem d_G_send_66 : decode b_G_send 66 = .ok (.return_, 1) := by decide +kernel
abbrev b_M_over : ByteArray := prog_2_method_6_code
def y_M_over : MethodName := ⟨"MergingFragments$Message", "over", "()I"⟩
theorem d_M_over_0 : decode b_M_over 0 = .ok (.aload_n 0, 1) := by decide +kernel
theorem d_M_over_1 : decode b_M_over 1 = .ok (.getfield 13, 3) := by decide +kernel
theorem d_M_over_4 : decode b_M_over 4 = .ok (.ireturn, 1) := by decide +kernel
abbrev b_A_add0 : ByteArray := prog_21_method_25_code
def y_A_add0 : MethodName := ⟨"java/util/ArrayList", "add", "(Ljava/lang/Object;)Z"⟩
theorem d_A_add0_0 : decode b_A_add0 0 = .ok (.aload_n 0, 1) := by decide +kernel
theorem d_A_add0_1 : decode b_A_add0 1 = .ok (.dup, 1) := by decide +kernel
theorem d_A_add0_2 : decode b_A_add0 2 = .ok (.getfield 63, 3) := by decide +kernel
theorem d_A_add0_5 : decode b_A_add0 5 = .ok (.iconst 1, 1) := by decide +kernel
theorem d_A_add0_6 : decode b_A_add0 6 = .ok (.iadd, 1) := by decide +kernel
theorem d_A_add0_7 : decode b_A_add0 7 = .ok (.putfield 63, 3) := by decide +kernel
theorem d_A_add0_10 : decode b_A_add0 10 = .ok (.aload_n 0, 1) := by decide +kernel
theorem d_A_add0_11 : decode b_A_add0 11 = .ok (.aload_n 1, 1) := by decide +kernel
theorem d_A_add0_12 : decode b_A_add0 12 = .ok (.aload_n 0, 1) := by decide +kernel
theorem d_A_add0_13 : decode b_A_add0 13 = .ok (.getfield 9, 3) := by decide +kernel
theorem d_A_add0_16 : decode b_A_add0 16 = .ok (.aload_n 0, 1) := by decide +kernel
theorem d_A_add0_17 : decode b_A_add0 17 = .ok (.getfield 48, 3) := by decide +kernel
theorem d_A_add0_20 : decode b_A_add0 20 = .ok (.invokevirtual 131, 3) := by decide +kernel
theorem d_A_add0_23 : decode b_A_add0 23 = .ok (.iconst 1, 1) := by decide +kernel
theorem d_A_add0_24 : decode b_A_add0 24 = .ok (.ireturn, 1) := by decide +kernel
abbrev b_A_add1 : ByteArray := prog_21_method_24_code
def y_A_add1 : MethodName := ⟨"java/util/ArrayList", "add", "(Ljava/lang/Object;[Ljava/lang/Object;I)V"⟩
theorem d_A_add1_0 : decode b_A_add1 0 = .ok (.iload_n 3, 1) := by decide +kernel
theorem d_A_add1_1 : decode b_A_add1 1 = .ok (.aload_n 2, 1) := by decide +kernel
theorem d_A_add1_2 : decode b_A_add1 2 = .ok (.arraylength, 1) := by decide +kernel
theorem d_A_add1_3 : decode b_A_add1 3 = .ok (.if_icmp .ne 8, 3) := by decide +kernel
theorem d_A_add1_6 : decode b_A_add1 6 = .ok (.aload_n 0, 1) := by decide +kernel
theorem d_A_add1_7 : decode b_A_add1 7 = .ok (.invokevirtual 129, 3) := by decide +kernel
theorem d_A_add1_10 : decode b_A_add1 10 = .ok (.astore_n 2, 1) := by decide +kernel
theorem d_A_add1_11 : decode b_A_add1 11 = .ok (.aload_n 2, 1) := by decide +kernel
theorem d_A_add1_12 : decode b_A_add1 12 = .ok (.iload_n 3, 1) := by decide +kernel
theorem d_A_add1_13 : decode b_A_add1 13 = .ok (.aload_n 1, 1) := by decide +kernel
theorem d_A_add1_14 : decode b_A_add1 14 = .ok (.aastore, 1) := by decide +kernel
theorem d_A_add1_15 : decode b_A_add1 15 = .ok (.aload_n 0, 1) := by decide +kernel
theorem d_A_add1_16 : decode b_A_add1 16 = .ok (.iload_n 3, 1) := by decide +kernel
theorem d_A_add1_17 : decode b_A_add1 17 = .ok (.iconst 1, 1) := by decide +kernel
theorem d_A_add1_18 : decode b_A_add1 18 = .ok (.iadd, 1) := by decide +kernel
theorem d_A_add1_19 : decode b_A_add1 19 = .ok (.putfield 48, 3) := by decide +kernel
theorem d_A_add1_22 : decode b_A_add1 22 = .ok (.return_, 1) := by decide +kernel
abbrev b_A_grow0 : ByteArray := prog_21_method_7_code
def y_A_grow0 : MethodName := ⟨"java/util/ArrayList", "grow", "()[Ljava/lang/Object;"⟩
theorem d_A_grow0_0 : decode b_A_grow0 0 = .ok (.aload_n 0, 1) := by decide +kernel
theorem d_A_grow0_1 : decode b_A_grow0 1 = .ok (.aload_n 0, 1) := by decide +kernel
theorem d_A_grow0_2 : decode b_A_grow0 2 = .ok (.getfield 48, 3) := by decide +kernel
theorem d_A_grow0_5 : decode b_A_grow0 5 = .ok (.iconst 1, 1) := by decide +kernel
theorem d_A_grow0_6 : decode b_A_grow0 6 = .ok (.iadd, 1) := by decide +kernel
theorem d_A_grow0_7 : decode b_A_grow0 7 = .ok (.invokevirtual 69, 3) := by decide +kernel
theorem d_A_grow0_10 : decode b_A_grow0 10 = .ok (.areturn, 1) := by decide +kernel
abbrev b_A_grow1 : ByteArray := prog_21_method_6_code
def y_A_grow1 : MethodName := ⟨"java/util/ArrayList", "grow", "(I)[Ljava/lang/Object;"⟩
theorem d_A_grow1_0 : decode b_A_grow1 0 = .ok (.aload_n 0, 1) := by decide +kernel
theorem d_A_grow1_1 : decode b_A_grow1 1 = .ok (.getfield 9, 3) := by decide +kernel
theorem d_A_grow1_4 : decode b_A_grow1 4 = .ok (.arraylength, 1) := by decide +kernel
theorem d_A_grow1_5 : decode b_A_grow1 5 = .ok (.istore_n 2, 1) := by decide +kernel
theorem d_A_grow1_6 : decode b_A_grow1 6 = .ok (.iload_n 2, 1) := by decide +kernel
theorem d_A_grow1_7 : decode b_A_grow1 7 = .ok (.ifCond .gt 13, 3) := by decide +kernel
theorem d_A_grow1_10 : decode b_A_grow1 10 = .ok (.aload_n 0, 1) := by decide +kernel
theorem d_A_grow1_11 : decode b_A_grow1 11 = .ok (.getfield 9, 3) := by decide +kernel
theorem d_A_grow1_14 : decode b_A_grow1 14 = .ok (.getstatic 39, 3) := by decide +kernel
theorem d_A_grow1_17 : decode b_A_grow1 17 = .ok (.if_acmp .eq 28, 3) := by decide +kernel
theorem d_A_grow1_20 : decode b_A_grow1 20 = .ok (.iload_n 2, 1) := by decide +kernel
theorem d_A_grow1_21 : decode b_A_grow1 21 = .ok (.iload_n 1, 1) := by decide +kernel
theorem d_A_grow1_22 : decode b_A_grow1 22 = .ok (.iload_n 2, 1) := by decide +kernel
theorem d_A_grow1_23 : decode b_A_grow1 23 = .ok (.isub, 1) := by decide +kernel
theorem d_A_grow1_24 : decode b_A_grow1 24 = .ok (.iload_n 2, 1) := by decide +kernel
theorem d_A_grow1_25 : decode b_A_grow1 25 = .ok (.iconst 1, 1) := by decide +kernel
theorem d_A_grow1_26 : decode b_A_grow1 26 = .ok (.ishr, 1) := by decide +kernel
theorem d_A_grow1_27 : decode b_A_grow1 27 = .ok (.invokestatic 73, 3) := by decide +kernel
theorem d_A_grow1_30 : decode b_A_grow1 30 = .ok (.istore_n 3, 1) := by decide +kernel
theorem d_A_grow1_31 : decode b_A_grow1 31 = .ok (.aload_n 0, 1) := by decide +kernel
theorem d_A_grow1_32 : decode b_A_grow1 32 = .ok (.aload_n 0, 1) := by decide +kernel
theorem d_A_grow1_33 : decode b_A_grow1 33 = .ok (.getfield 9, 3) := by decide +kernel
theorem d_A_grow1_36 : decode b_A_grow1 36 = .ok (.iload_n 3, 1) := by decide +kernel
theorem d_A_grow1_37 : decode b_A_grow1 37 = .ok (.invokestatic 66, 3) := by decide +kernel
theorem d_A_grow1_40 : decode b_A_grow1 40 = .ok (.dup_x1, 1) := by decide +kernel
theorem d_A_grow1_41 : decode b_A_grow1 41 = .ok (.putfield 9, 3) := by decide +kernel
theorem d_A_grow1_44 : decode b_A_grow1 44 = .ok (.areturn, 1) := by decide +kernel
theorem d_A_grow1_45 : decode b_A_grow1 45 = .ok (.aload_n 0, 1) := by decide +kernel
theorem d_A_grow1_46 : decode b_A_grow1 46 = .ok (.bipush 10, 2) := by decide +kernel
theorem d_A_grow1_48 : decode b_A_grow1 48 = .ok (.iload_n 1, 1) := by decide +kernel
theorem d_A_grow1_49 : decode b_A_grow1 49 = .ok (.invokestatic 79, 3) := by decide +kernel
theorem d_A_grow1_52 : decode b_A_grow1 52 = .ok (.anewarray 7, 3) := by decide +kernel
theorem d_A_grow1_55 : decode b_A_grow1 55 = .ok (.dup_x1, 1) := by decide +kernel
theorem d_A_grow1_56 : decode b_A_grow1 56 = .ok (.putfield 9, 3) := by decide +kernel
theorem d_A_grow1_59 : decode b_A_grow1 59 = .ok (.areturn, 1) := by decide +kernel
abbrev b_Su_newLength : ByteArray := prog_28_method_27_code
def y_Su_newLength : MethodName := ⟨"jdk/internal/util/ArraysSupport", "newLength", "(III)I"⟩
theorem d_Su_newLength_0 : decode b_Su_newLength 0 = .ok (.iload_n 0, 1) := by decide +kernel
theorem d_Su_newLength_1 : decode b_Su_newLength 1 = .ok (.iload_n 1, 1) := by decide +kernel
theorem d_Su_newLength_2 : decode b_Su_newLength 2 = .ok (.iload_n 2, 1) := by decide +kernel
theorem d_Su_newLength_3 : decode b_Su_newLength 3 = .ok (.invokestatic 194, 3) := by decide +kernel
theorem d_Su_newLength_6 : decode b_Su_newLength 6 = .ok (.iadd, 1) := by decide +kernel
theorem d_Su_newLength_7 : decode b_Su_newLength 7 = .ok (.istore_n 3, 1) := by decide +kernel
theorem d_Su_newLength_8 : decode b_Su_newLength 8 = .ok (.iconst 0, 1) := by decide +kernel
theorem d_Su_newLength_9 : decode b_Su_newLength 9 = .ok (.iload_n 3, 1) := by decide +kernel
theorem d_Su_newLength_10 : decode b_Su_newLength 10 = .ok (.if_icmp .ge 11, 3) := by decide +kernel
theorem d_Su_newLength_13 : decode b_Su_newLength 13 = .ok (.iload_n 3, 1) := by decide +kernel
theorem d_Su_newLength_14 : decode b_Su_newLength 14 = .ok (.ldc 200, 2) := by decide +kernel
theorem d_Su_newLength_16 : decode b_Su_newLength 16 = .ok (.if_icmp .gt 5, 3) := by decide +kernel
theorem d_Su_newLength_19 : decode b_Su_newLength 19 = .ok (.iload_n 3, 1) := by decide +kernel
theorem d_Su_newLength_20 : decode b_Su_newLength 20 = .ok (.ireturn, 1) := by decide +kernel
theorem d_Su_newLength_21 : decode b_Su_newLength 21 = .ok (.iload_n 0, 1) := by decide +kernel
theorem d_Su_newLength_22 : decode b_Su_newLength 22 = .ok (.iload_n 1, 1) := by decide +kernel
theorem d_Su_newLength_23 : decode b_Su_newLength 23 = .ok (.invokestatic 201, 3) := by decide +kernel
theorem d_Su_newLength_26 : decode b_Su_newLength 26 = .ok (.ireturn, 1) := by decide +kernel
abbrev b_Ma_max : ByteArray := prog_13_method_65_code
def y_Ma_max : MethodName := ⟨"java/lang/Math", "max", "(II)I"⟩
theorem d_Ma_max_0 : decode b_Ma_max 0 = .ok (.iload_n 0, 1) := by decide +kernel
theorem d_Ma_max_1 : decode b_Ma_max 1 = .ok (.iload_n 1, 1) := by decide +kernel
theorem d_Ma_max_2 : decode b_Ma_max 2 = .ok (.if_icmp .lt 7, 3) := by decide +kernel
theorem d_Ma_max_5 : decode b_Ma_max 5 = .ok (.iload_n 0, 1) := by decide +kernel
theorem d_Ma_max_6 : decode b_Ma_max 6 = .ok (.goto 4, 3) := by decide +kernel
theorem d_Ma_max_9 : decode b_Ma_max 9 = .ok (.iload_n 1, 1) := by decide +kernel
theorem d_Ma_max_10 : decode b_Ma_max 10 = .ok (.ireturn, 1) := by decide +kernel
abbrev b_Su_hugeLength : ByteArray := prog_28_method_28_code
def y_Su_hugeLength : MethodName := ⟨"jdk/internal/util/ArraysSupport", "hugeLength", "(II)I"⟩
theorem d_Su_hugeLength_0 : decode b_Su_hugeLength 0 = .ok (.iload_n 0, 1) := by decide +kernel
theorem d_Su_hugeLength_1 : decode b_Su_hugeLength 1 = .ok (.iload_n 1, 1) := by decide +kernel
theorem d_Su_hugeLength_2 : decode b_Su_hugeLength 2 = .ok (.iadd, 1) := by decide +kernel
theorem d_Su_hugeLength_3 : decode b_Su_hugeLength 3 = .ok (.istore_n 2, 1) := by decide +kernel
theorem d_Su_hugeLength_4 : decode b_Su_hugeLength 4 = .ok (.iload_n 2, 1) := by decide +kernel
theorem d_Su_hugeLength_5 : decode b_Su_hugeLength 5 = .ok (.ifCond .ge 44, 3) := by decide +kernel
theorem d_Su_hugeLength_8 : decode b_Su_hugeLength 8 = .ok (.new 204, 3) := by decide +kernel
theorem d_Su_hugeLength_11 : decode b_Su_hugeLength 11 = .ok (.dup, 1) := by decide +kernel
theorem d_Su_hugeLength_12 : decode b_Su_hugeLength 12 = .ok (.new 89, 3) := by decide +kernel
theorem d_Su_hugeLength_15 : decode b_Su_hugeLength 15 = .ok (.dup, 1) := by decide +kernel
theorem d_Su_hugeLength_16 : decode b_Su_hugeLength 16 = .ok (.invokespecial 91, 3) := by decide +kernel
theorem d_Su_hugeLength_19 : decode b_Su_hugeLength 19 = .ok (.ldc 206, 2) := by decide +kernel
theorem d_Su_hugeLength_21 : decode b_Su_hugeLength 21 = .ok (.invokevirtual 94, 3) := by decide +kernel
theorem d_Su_hugeLength_24 : decode b_Su_hugeLength 24 = .ok (.iload_n 0, 1) := by decide +kernel
theorem d_Su_hugeLength_25 : decode b_Su_hugeLength 25 = .ok (.invokevirtual 98, 3) := by decide +kernel
theorem d_Su_hugeLength_28 : decode b_Su_hugeLength 28 = .ok (.ldc 208, 2) := by decide +kernel
theorem d_Su_hugeLength_30 : decode b_Su_hugeLength 30 = .ok (.invokevirtual 94, 3) := by decide +kernel
theorem d_Su_hugeLength_33 : decode b_Su_hugeLength 33 = .ok (.iload_n 1, 1) := by decide +kernel
theorem d_Su_hugeLength_34 : decode b_Su_hugeLength 34 = .ok (.invokevirtual 98, 3) := by decide +kernel
theorem d_Su_hugeLength_37 : decode b_Su_hugeLength 37 = .ok (.ldc 210, 2) := by decide +kernel
theorem d_Su_hugeLength_39 : decode b_Su_hugeLength 39 = .ok (.invokevirtual 94, 3) := by decide +kernel
theorem d_Su_hugeLength_42 : decode b_Su_hugeLength 42 = .ok (.invokevirtual 101, 3) := by decide +kernel
theorem d_Su_hugeLength_45 : decode b_Su_hugeLength 45 = .ok (.invokespecial 212, 3) := by decide +kernel
theorem d_Su_hugeLength_48 : decode b_Su_hugeLength 48 = .ok (.athrow, 1) := by decide +kernel
theorem d_Su_hugeLength_49 : decode b_Su_hugeLength 49 = .ok (.iload_n 2, 1) := by decide +kernel
theorem d_Su_hugeLength_50 : decode b_Su_hugeLength 50 = .ok (.ldc 200, 2) := by decide +kernel
theorem d_Su_hugeLength_52 : decode b_Su_hugeLength 52 = .ok (.if_icmp .gt 6, 3) := by decide +kernel
theorem d_Su_hugeLength_55 : decode b_Su_hugeLength 55 = .ok (.ldc 200, 2) := by decide +kernel
theorem d_Su_hugeLength_57 : decode b_Su_hugeLength 57 = .ok (.ireturn, 1) := by decide +kernel
theorem d_Su_hugeLength_58 : decode b_Su_hugeLength 58 = .ok (.iload_n 2, 1) := by decide +kernel
theorem d_Su_hugeLength_59 : decode b_Su_hugeLength 59 = .ok (.ireturn, 1) := by decide +kernel
abbrev b_As_copyOf0 : ByteArray := prog_22_method_119_code
def y_As_copyOf0 : MethodName := ⟨"java/util/Arrays", "copyOf", "([Ljava/lang/Object;I)[Ljava/lang/Object;"⟩
theorem d_As_copyOf0_0 : decode b_As_copyOf0 0 = .ok (.aload_n 0, 1) := by decide +kernel
theorem d_As_copyOf0_1 : decode b_As_copyOf0 1 = .ok (.iload_n 1, 1) := by decide +kernel
theorem d_As_copyOf0_2 : decode b_As_copyOf0 2 = .ok (.aload_n 0, 1) := by decide +kernel
theorem d_As_copyOf0_3 : decode b_As_copyOf0 3 = .ok (.invokevirtual 86, 3) := by decide +kernel
theorem d_As_copyOf0_6 : decode b_As_copyOf0 6 = .ok (.invokestatic 300, 3) := by decide +kernel
theorem d_As_copyOf0_9 : decode b_As_copyOf0 9 = .ok (.areturn, 1) := by decide +kernel
abbrev b_As_copyOf1 : ByteArray := prog_22_method_120_code
def y_As_copyOf1 : MethodName := ⟨"java/util/Arrays", "copyOf", "([Ljava/lang/Object;ILjava/lang/Class;)[Ljava/lang/Object;"⟩
theorem d_As_copyOf1_0 : decode b_As_copyOf1 0 = .ok (.aload_n 2, 1) := by decide +kernel
theorem d_As_copyOf1_1 : decode b_As_copyOf1 1 = .ok (.ldc 110, 2) := by decide +kernel
theorem d_As_copyOf1_3 : decode b_As_copyOf1 3 = .ok (.if_acmp .ne 10, 3) := by decide +kernel
theorem d_As_copyOf1_6 : decode b_As_copyOf1 6 = .ok (.iload_n 1, 1) := by decide +kernel
theorem d_As_copyOf1_7 : decode b_As_copyOf1 7 = .ok (.anewarray 2, 3) := by decide +kernel
theorem d_As_copyOf1_10 : decode b_As_copyOf1 10 = .ok (.goto 14, 3) := by decide +kernel
theorem d_As_copyOf1_13 : decode b_As_copyOf1 13 = .ok (.aload_n 2, 1) := by decide +kernel
theorem d_As_copyOf1_14 : decode b_As_copyOf1 14 = .ok (.invokevirtual 90, 3) := by decide +kernel
theorem d_As_copyOf1_17 : decode b_As_copyOf1 17 = .ok (.iload_n 1, 1) := by decide +kernel
theorem d_As_copyOf1_18 : decode b_As_copyOf1 18 = .ok (.invokestatic 95, 3) := by decide +kernel
theorem d_As_copyOf1_21 : decode b_As_copyOf1 21 = .ok (.checkcast 110, 3) := by decide +kernel
theorem d_As_copyOf1_24 : decode b_As_copyOf1 24 = .ok (.astore_n 3, 1) := by decide +kernel
theorem d_As_copyOf1_25 : decode b_As_copyOf1 25 = .ok (.aload_n 0, 1) := by decide +kernel
theorem d_As_copyOf1_26 : decode b_As_copyOf1 26 = .ok (.iconst 0, 1) := by decide +kernel
theorem d_As_copyOf1_27 : decode b_As_copyOf1 27 = .ok (.aload_n 3, 1) := by decide +kernel
theorem d_As_copyOf1_28 : decode b_As_copyOf1 28 = .ok (.iconst 0, 1) := by decide +kernel
theorem d_As_copyOf1_29 : decode b_As_copyOf1 29 = .ok (.aload_n 0, 1) := by decide +kernel
theorem d_As_copyOf1_30 : decode b_As_copyOf1 30 = .ok (.arraylength, 1) := by decide +kernel
theorem d_As_copyOf1_31 : decode b_As_copyOf1 31 = .ok (.iload_n 1, 1) := by decide +kernel
theorem d_As_copyOf1_32 : decode b_As_copyOf1 32 = .ok (.invokestatic 304, 3) := by decide +kernel
theorem d_As_copyOf1_35 : decode b_As_copyOf1 35 = .ok (.invokestatic 150, 3) := by decide +kernel
theorem d_As_copyOf1_38 : decode b_As_copyOf1 38 = .ok (.aload_n 3, 1) := by decide +kernel
theorem d_As_copyOf1_39 : decode b_As_copyOf1 39 = .ok (.areturn, 1) := by decide +kernel
abbrev b_Ma_min : ByteArray := prog_13_method_69_code
def y_Ma_min : MethodName := ⟨"java/lang/Math", "min", "(II)I"⟩
theorem d_Ma_min_0 : decode b_Ma_min 0 = .ok (.iload_n 0, 1) := by decide +kernel
theorem d_Ma_min_1 : decode b_Ma_min 1 = .ok (.iload_n 1, 1) := by decide +kernel
theorem d_Ma_min_2 : decode b_Ma_min 2 = .ok (.if_icmp .gt 7, 3) := by decide +kernel
theorem d_Ma_min_5 : decode b_Ma_min 5 = .ok (.iload_n 0, 1) := by decide +kernel
theorem d_Ma_min_6 : decode b_Ma_min 6 = .ok (.goto 4, 3) := by decide +kernel
theorem d_Ma_min_9 : decode b_Ma_min 9 = .ok (.iload_n 1, 1) := by decide +kernel
theorem d_Ma_min_10 : decode b_Ma_min 10 = .ok (.ireturn, 1) := by decide +kernel
abbrev b_L_handle : ByteArray := method_6_code
def y_L_handle : MethodName := ⟨"MergingFragmentsLaw", "handle", "(LMergingFragments;I[J)I"⟩
theorem d_L_handle_0 : decode b_L_handle 0 = .ok (.aload_n 2, 1) := by decide +kernel
theorem d_L_handle_1 : decode b_L_handle 1 = .ok (.iconst 0, 1) := by decide +kernel
theorem d_L_handle_2 : decode b_L_handle 2 = .ok (.aload_n 0, 1) := by decide +kernel
theorem d_L_handle_3 : decode b_L_handle 3 = .ok (.iload_n 1, 1) := by decide +kernel
theorem d_L_handle_4 : decode b_L_handle 4 = .ok (.invokevirtual 27, 3) := by decide +kernel
theorem d_L_handle_7 : decode b_L_handle 7 = .ok (.i2l, 1) := by decide +kernel
theorem d_L_handle_8 : decode b_L_handle 8 = .ok (.lastore, 1) := by decide +kernel
theorem d_L_handle_9 : decode b_L_handle 9 = .ok (.goto 6, 3) := by decide +kernel
theorem d_L_handle_12 : decode b_L_handle 12 = .ok (.astore_n 3, 1) := by decide +kernel
theorem d_L_handle_13 : decode b_L_handle 13 = .ok (.iconst 1, 1) := by decide +kernel
theorem d_L_handle_14 : decode b_L_handle 14 = .ok (.ireturn, 1) := by decide +kernel
theorem d_L_handle_15 : decode b_L_handle 15 = .ok (.iconst 0, 1) := by decide +kernel
theorem d_L_handle_16 : decode b_L_handle 16 = .ok (.ireturn, 1) := by decide +kernel
