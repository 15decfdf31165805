/-! Method names and decoded instructions, by program (wip/mk07.py). -/
abbrev b_G_handle : ByteArray := prog_1_method_5_code
def y_G_handle : MethodName := ⟨"MergingFragments", "handle", "(I)I"⟩
theorem d_G_handle_0 : decode b_G_handle 0 = .ok (.aload_n 0, 1) := by decide +kernel
theorem d_G_handle_1 : decode b_G_handle 1 = .ok (.iload_n 1, 1) := by decide +kernel
theorem d_G_handle_2 : decode b_G_handle 2 = .ok (.invokevirtual 48, 3) := by decide +kernel
theorem d_G_handle_5 : decode b_G_handle 5 = .ok (.aload_n 0, 1) := by decide +kernel
theorem d_G_handle_6 : decode b_G_handle 6 = .ok (.aload_n 0, 1) := by decide +kernel
theorem d_G_handle_7 : decode b_G_handle 7 = .ok (.getfield 11, 3) := by decide +kernel
theorem d_G_handle_10 : decode b_G_handle 10 = .ok (.iload_n 1, 1) := by decide +kernel
theorem d_G_handle_11 : decode b_G_handle 11 = .ok (.aaload, 1) := by decide +kernel
theorem d_G_handle_12 : decode b_G_handle 12 = .ok (.invokevirtual 78, 3) := by decide +kernel
theorem d_G_handle_15 : decode b_G_handle 15 = .ok (.ireturn, 1) := by decide +kernel
abbrev b_G_handleFirst : ByteArray := prog_1_method_22_code
def y_G_handleFirst : MethodName := ⟨"MergingFragments", "handleFirst", "(LMergingFragments$Node;)I"⟩
theorem d_G_handleFirst_0 : decode b_G_handleFirst 0 = .ok (.aload_n 1, 1) := by decide +kernel
theorem d_G_handleFirst_1 : decode b_G_handleFirst 1 = .ok (.getfield 109, 3) := by decide +kernel
theorem d_G_handleFirst_4 : decode b_G_handleFirst 4 = .ok (.invokevirtual 176, 3) := by decide +kernel
theorem d_G_handleFirst_7 : decode b_G_handleFirst 7 = .ok (.ifCond .eq 5, 3) := by decide +kernel
theorem d_G_handleFirst_10 : decode b_G_handleFirst 10 = .ok (.iconst (-1), 1) := by decide +kernel
theorem d_G_handleFirst_11 : decode b_G_handleFirst 11 = .ok (.ireturn, 1) := by decide +kernel
theorem d_G_handleFirst_12 : decode b_G_handleFirst 12 = .ok (.aload_n 1, 1) := by decide +kernel
theorem d_G_handleFirst_13 : decode b_G_handleFirst 13 = .ok (.getfield 109, 3) := by decide +kernel
theorem d_G_handleFirst_16 : decode b_G_handleFirst 16 = .ok (.iconst 0, 1) := by decide +kernel
theorem d_G_handleFirst_17 : decode b_G_handleFirst 17 = .ok (.invokevirtual 179, 3) := by decide +kernel
theorem d_G_handleFirst_20 : decode b_G_handleFirst 20 = .ok (.checkcast 135, 3) := by decide +kernel
theorem d_G_handleFirst_23 : decode b_G_handleFirst 23 = .ok (.astore_n 2, 1) := by decide +kernel
theorem d_G_handleFirst_24 : decode b_G_handleFirst 24 = .ok (.aload_n 2, 1) := by decide +kernel
theorem d_G_handleFirst_25 : decode b_G_handleFirst 25 = .ok (.invokevirtual 137, 3) := by decide +kernel
theorem d_G_handleFirst_28 : decode b_G_handleFirst 28 = .ok (.tableswitch 94 0 5 #[40, 49, 58, 67, 76, 85], 40) := by decide +kernel
theorem d_G_handleFirst_68 : decode b_G_handleFirst 68 = .ok (.aload_n 0, 1) := by decide +kernel
theorem d_G_handleFirst_69 : decode b_G_handleFirst 69 = .ok (.aload_n 1, 1) := by decide +kernel
theorem d_G_handleFirst_70 : decode b_G_handleFirst 70 = .ok (.aload_n 2, 1) := by decide +kernel
theorem d_G_handleFirst_71 : decode b_G_handleFirst 71 = .ok (.invokevirtual 182, 3) := by decide +kernel
theorem d_G_handleFirst_74 : decode b_G_handleFirst 74 = .ok (.goto 53, 3) := by decide +kernel
theorem d_G_handleFirst_77 : decode b_G_handleFirst 77 = .ok (.aload_n 0, 1) := by decide +kernel
theorem d_G_handleFirst_78 : decode b_G_handleFirst 78 = .ok (.aload_n 1, 1) := by decide +kernel
theorem d_G_handleFirst_79 : decode b_G_handleFirst 79 = .ok (.aload_n 2, 1) := by decide +kernel
theorem d_G_handleFirst_80 : decode b_G_handleFirst 80 = .ok (.invokevirtual 185, 3) := by decide +kernel
theorem d_G_handleFirst_83 : decode b_G_handleFirst 83 = .ok (.goto 44, 3) := by decide +kernel
theorem d_G_handleFirst_86 : decode b_G_handleFirst 86 = .ok (.aload_n 0, 1) := by decide +kernel
theorem d_G_handleFirst_87 : decode b_G_handleFirst 87 = .ok (.aload_n 1, 1) := by decide +kernel
theorem d_G_handleFirst_88 : decode b_G_handleFirst 88 = .ok (.aload_n 2, 1) := by decide +kernel
theorem d_G_handleFirst_89 : decode b_G_handleFirst 89 = .ok (.invokevirtual 188, 3) := by decide +kernel
theorem d_G_handleFirst_92 : decode b_G_handleFirst 92 = .ok (.goto 35, 3) := by decide +kernel
theorem d_G_handleFirst_95 : decode b_G_handleFirst 95 = .ok (.aload_n 0, 1) := by decide +kernel
theorem d_G_handleFirst_96 : decode b_G_handleFirst 96 = .ok (.aload_n 1, 1) := by decide +kernel
theorem d_G_handleFirst_97 : decode b_G_handleFirst 97 = .ok (.aload_n 2, 1) := by decide +kernel
theorem d_G_handleFirst_98 : decode b_G_handleFirst 98 = .ok (.invokevirtual 191, 3) := by decide +kernel
theorem d_G_handleFirst_101 : decode b_G_handleFirst 101 = .ok (.goto 26, 3) := by decide +kernel
theorem d_G_handleFirst_104 : decode b_G_handleFirst 104 = .ok (.aload_n 0, 1) := by decide +kernel
theorem d_G_handleFirst_105 : decode b_G_handleFirst 105 = .ok (.aload_n 1, 1) := by decide +kernel
theorem d_G_handleFirst_106 : decode b_G_handleFirst 106 = .ok (.aload_n 2, 1) := by decide +kernel
theorem d_G_handleFirst_107 : decode b_G_handleFirst 107 = .ok (.invokevirtual 194, 3) := by decide +kernel
theorem d_G_handleFirst_110 : decode b_G_handleFirst 110 = .ok (.goto 17, 3) := by decide +kernel
theorem d_G_handleFirst_113 : decode b_G_handleFirst 113 = .ok (.aload_n 0, 1) := by decide +kernel
theorem d_G_handleFirst_114 : decode b_G_handleFirst 114 = .ok (.aload_n 1, 1) := by decide +kernel
theorem d_G_handleFirst_115 : decode b_G_handleFirst 115 = .ok (.aload_n 2, 1) := by decide +kernel
theorem d_G_handleFirst_116 : decode b_G_handleFirst 116 = .ok (.invokevirtual 197, 3) := by decide +kernel
theorem d_G_handleFirst_119 : decode b_G_handleFirst 119 = .ok (.goto 8, 3) := by decide +kernel
theorem d_G_handleFirst_122 : decode b_G_handleFirst 122 = .ok (.aload_n 0, 1) := by decide +kernel
theorem d_G_handleFirst_123 : decode b_G_handleFirst 123 = .ok (.aload_n 1, 1) := by decide +kernel
theorem d_G_handleFirst_124 : decode b_G_handleFirst 124 = .ok (.invokevirtual 200, 3) := by decide +kernel
theorem d_G_handleFirst_127 : decode b_G_handleFirst 127 = .ok (.aload_n 2, 1) := by decide +kernel
theorem d_G_handleFirst_128 : decode b_G_handleFirst 128 = .ok (.invokevirtual 137, 3) := by decide +kernel
theorem d_G_handleFirst_131 : decode b_G_handleFirst 131 = .ok (.ireturn, 1) := by decide +kernel
abbrev b_A_isEmpty : ByteArray := prog_21_method_9_code
def y_A_isEmpty : MethodName := ⟨"java/util/ArrayList", "isEmpty", "()Z"⟩
theorem d_A_isEmpty_0 : decode b_A_isEmpty 0 = .ok (.aload_n 0, 1) := by decide +kernel
theorem d_A_isEmpty_1 : decode b_A_isEmpty 1 = .ok (.getfield 48, 3) := by decide +kernel
theorem d_A_isEmpty_4 : decode b_A_isEmpty 4 = .ok (.ifCond .ne 7, 3) := by decide +kernel
theorem d_A_isEmpty_7 : decode b_A_isEmpty 7 = .ok (.iconst 1, 1) := by decide +kernel
theorem d_A_isEmpty_8 : decode b_A_isEmpty 8 = .ok (.goto 4, 3) := by decide +kernel
theorem d_A_isEmpty_11 : decode b_A_isEmpty 11 = .ok (.iconst 0, 1) := by decide +kernel
theorem d_A_isEmpty_12 : decode b_A_isEmpty 12 = .ok (.ireturn, 1) := by decide +kernel
abbrev b_A_remove : ByteArray := prog_21_method_29_code
def y_A_remove : MethodName := ⟨"java/util/ArrayList", "remove", "(I)Ljava/lang/Object;"⟩
theorem d_A_remove_0 : decode b_A_remove 0 = .ok (.iload_n 1, 1) := by decide +kernel
theorem d_A_remove_1 : decode b_A_remove 1 = .ok (.aload_n 0, 1) := by decide +kernel
theorem d_A_remove_2 : decode b_A_remove 2 = .ok (.getfield 48, 3) := by decide +kernel
theorem d_A_remove_5 : decode b_A_remove 5 = .ok (.invokestatic 118, 3) := by decide +kernel
theorem d_A_remove_8 : decode b_A_remove 8 = .ok (.pop, 1) := by decide +kernel
theorem d_A_remove_9 : decode b_A_remove 9 = .ok (.aload_n 0, 1) := by decide +kernel
theorem d_A_remove_10 : decode b_A_remove 10 = .ok (.getfield 9, 3) := by decide +kernel
theorem d_A_remove_13 : decode b_A_remove 13 = .ok (.astore_n 2, 1) := by decide +kernel
theorem d_A_remove_14 : decode b_A_remove 14 = .ok (.aload_n 2, 1) := by decide +kernel
theorem d_A_remove_15 : decode b_A_remove 15 = .ok (.iload_n 1, 1) := by decide +kernel
theorem d_A_remove_16 : decode b_A_remove 16 = .ok (.aaload, 1) := by decide +kernel
theorem d_A_remove_17 : decode b_A_remove 17 = .ok (.astore_n 3, 1) := by decide +kernel
theorem d_A_remove_18 : decode b_A_remove 18 = .ok (.aload_n 0, 1) := by decide +kernel
theorem d_A_remove_19 : decode b_A_remove 19 = .ok (.aload_n 2, 1) := by decide +kernel
theorem d_A_remove_20 : decode b_A_remove 20 = .ok (.iload_n 1, 1) := by decide +kernel
theorem d_A_remove_21 : decode b_A_remove 21 = .ok (.invokevirtual 144, 3) := by decide +kernel
theorem d_A_remove_24 : decode b_A_remove 24 = .ok (.aload_n 3, 1) := by decide +kernel
theorem d_A_remove_25 : decode b_A_remove 25 = .ok (.areturn, 1) := by decide +kernel
abbrev b_Ob_checkIndex : ByteArray := prog_25_method_17_code
def y_Ob_checkIndex : MethodName := ⟨"java/util/Objects", "checkIndex", "(II)I"⟩
theorem d_Ob_checkIndex_0 : decode b_Ob_checkIndex 0 = .ok (.iload_n 0, 1) := by decide +kernel
theorem d_Ob_checkIndex_1 : decode b_Ob_checkIndex 1 = .ok (.iload_n 1, 1) := by decide +kernel
theorem d_Ob_checkIndex_2 : decode b_Ob_checkIndex 2 = .ok (.aconst_null, 1) := by decide +kernel
theorem d_Ob_checkIndex_3 : decode b_Ob_checkIndex 3 = .ok (.invokestatic 105, 3) := by decide +kernel
theorem d_Ob_checkIndex_6 : decode b_Ob_checkIndex 6 = .ok (.ireturn, 1) := by decide +kernel
abbrev b_Pr_checkIndex : ByteArray := prog_29_method_11_code
def y_Pr_checkIndex : MethodName := ⟨"jdk/internal/util/Preconditions", "checkIndex", "(IILjava/util/function/BiFunction;)I"⟩
theorem d_Pr_checkIndex_0 : decode b_Pr_checkIndex 0 = .ok (.iload_n 0, 1) := by decide +kernel
theorem d_Pr_checkIndex_1 : decode b_Pr_checkIndex 1 = .ok (.ifCond .lt 8, 3) := by decide +kernel
theorem d_Pr_checkIndex_4 : decode b_Pr_checkIndex 4 = .ok (.iload_n 0, 1) := by decide +kernel
theorem d_Pr_checkIndex_5 : decode b_Pr_checkIndex 5 = .ok (.iload_n 1, 1) := by decide +kernel
theorem d_Pr_checkIndex_6 : decode b_Pr_checkIndex 6 = .ok (.if_icmp .lt 10, 3) := by decide +kernel
theorem d_Pr_checkIndex_9 : decode b_Pr_checkIndex 9 = .ok (.aload_n 2, 1) := by decide +kernel
theorem d_Pr_checkIndex_10 : decode b_Pr_checkIndex 10 = .ok (.iload_n 0, 1) := by decide +kernel
theorem d_Pr_checkIndex_11 : decode b_Pr_checkIndex 11 = .ok (.iload_n 1, 1) := by decide +kernel
theorem d_Pr_checkIndex_12 : decode b_Pr_checkIndex 12 = .ok (.invokestatic 95, 3) := by decide +kernel
theorem d_Pr_checkIndex_15 : decode b_Pr_checkIndex 15 = .ok (.athrow, 1) := by decide +kernel
theorem d_Pr_checkIndex_16 : decode b_Pr_checkIndex 16 = .ok (.iload_n 0, 1) := by decide +kernel
theorem d_Pr_checkIndex_17 : decode b_Pr_checkIndex 17 = .ok (.ireturn, 1) := by decide +kernel
abbrev b_A_fastRemove : ByteArray := prog_21_method_39_code
def y_A_fastRemove : MethodName := ⟨"java/util/ArrayList", "fastRemove", "([Ljava/lang/Object;I)V"⟩
theorem d_A_fastRemove_0 : decode b_A_fastRemove 0 = .ok (.aload_n 0, 1) := by decide +kernel
theorem d_A_fastRemove_1 : decode b_A_fastRemove 1 = .ok (.dup, 1) := by decide +kernel
theorem d_A_fastRemove_2 : decode b_A_fastRemove 2 = .ok (.getfield 63, 3) := by decide +kernel
theorem d_A_fastRemove_5 : decode b_A_fastRemove 5 = .ok (.iconst 1, 1) := by decide +kernel
theorem d_A_fastRemove_6 : decode b_A_fastRemove 6 = .ok (.iadd, 1) := by decide +kernel
theorem d_A_fastRemove_7 : decode b_A_fastRemove 7 = .ok (.putfield 63, 3) := by decide +kernel
theorem d_A_fastRemove_10 : decode b_A_fastRemove 10 = .ok (.aload_n 0, 1) := by decide +kernel
theorem d_A_fastRemove_11 : decode b_A_fastRemove 11 = .ok (.getfield 48, 3) := by decide +kernel
theorem d_A_fastRemove_14 : decode b_A_fastRemove 14 = .ok (.iconst 1, 1) := by decide +kernel
theorem d_A_fastRemove_15 : decode b_A_fastRemove 15 = .ok (.isub, 1) := by decide +kernel
theorem d_A_fastRemove_16 : decode b_A_fastRemove 16 = .ok (.dup, 1) := by decide +kernel
theorem d_A_fastRemove_17 : decode b_A_fastRemove 17 = .ok (.istore_n 3, 1) := by decide +kernel
theorem d_A_fastRemove_18 : decode b_A_fastRemove 18 = .ok (.iload_n 2, 1) := by decide +kernel
theorem d_A_fastRemove_19 : decode b_A_fastRemove 19 = .ok (.if_icmp .le 15, 3) := by decide +kernel
theorem d_A_fastRemove_22 : decode b_A_fastRemove 22 = .ok (.aload_n 1, 1) := by decide +kernel
theorem d_A_fastRemove_23 : decode b_A_fastRemove 23 = .ok (.iload_n 2, 1) := by decide +kernel
theorem d_A_fastRemove_24 : decode b_A_fastRemove 24 = .ok (.iconst 1, 1) := by decide +kernel
theorem d_A_fastRemove_25 : decode b_A_fastRemove 25 = .ok (.iadd, 1) := by decide +kernel
theorem d_A_fastRemove_26 : decode b_A_fastRemove 26 = .ok (.aload_n 1, 1) := by decide +kernel
theorem d_A_fastRemove_27 : decode b_A_fastRemove 27 = .ok (.iload_n 2, 1) := by decide +kernel
theorem d_A_fastRemove_28 : decode b_A_fastRemove 28 = .ok (.iload_n 3, 1) := by decide +kernel
theorem d_A_fastRemove_29 : decode b_A_fastRemove 29 = .ok (.iload_n 2, 1) := by decide +kernel
theorem d_A_fastRemove_30 : decode b_A_fastRemove 30 = .ok (.isub, 1) := by decide +kernel
theorem d_A_fastRemove_31 : decode b_A_fastRemove 31 = .ok (.invokestatic 112, 3) := by decide +kernel
theorem d_A_fastRemove_34 : decode b_A_fastRemove 34 = .ok (.aload_n 1, 1) := by decide +kernel
theorem d_A_fastRemove_35 : decode b_A_fastRemove 35 = .ok (.aload_n 0, 1) := by decide +kernel
theorem d_A_fastRemove_36 : decode b_A_fastRemove 36 = .ok (.iload_n 3, 1) := by decide +kernel
theorem d_A_fastRemove_37 : decode b_A_fastRemove 37 = .ok (.dup_x1, 1) := by decide +kernel
theorem d_A_fastRemove_38 : decode b_A_fastRemove 38 = .ok (.putfield 48, 3) := by decide +kernel
theorem d_A_fastRemove_41 : decode b_A_fastRemove 41 = .ok (.aconst_null, 1) := by decide +kernel
theorem d_A_fastRemove_42 : decode b_A_fastRemove 42 = .ok (.aastore, 1) := by decide +kernel
theorem d_A_fastRemove_43 : decode b_A_fastRemove 43 = .ok (.return_, 1) := by decide +kernel
abbrev b_M_kind : ByteArray := prog_2_method_5_code
def y_M_kind : MethodName := ⟨"MergingFragments$Message", "kind", "()I"⟩
theorem d_M_kind_0 : decode b_M_kind 0 = .ok (.aload_n 0, 1) := by decide +kernel
theorem d_M_kind_1 : decode b_M_kind 1 = .ok (.getfield 7, 3) := by decide +kernel
theorem d_M_kind_4 : decode b_M_kind 4 = .ok (.ireturn, 1) := by decide +kernel
abbrev b_G_handleConnect : ByteArray := prog_1_method_23_code
def y_G_handleConnect : MethodName := ⟨"MergingFragments", "handleConnect", "(LMergingFragments$Node;LMergingFragments$Message;)V"⟩
theorem d_G_handleConnect_0 : decode b_G_handleConnect 0 = .ok (.aload_n 0, 1) := by decide +kernel
theorem d_G_handleConnect_1 : decode b_G_handleConnect 1 = .ok (.aload_n 1, 1) := by decide +kernel
theorem d_G_handleConnect_2 : decode b_G_handleConnect 2 = .ok (.invokevirtual 74, 3) := by decide +kernel
theorem d_G_handleConnect_5 : decode b_G_handleConnect 5 = .ok (.aload_n 2, 1) := by decide +kernel
theorem d_G_handleConnect_6 : decode b_G_handleConnect 6 = .ok (.invokevirtual 140, 3) := by decide +kernel
theorem d_G_handleConnect_9 : decode b_G_handleConnect 9 = .ok (.istore_n 3, 1) := by decide +kernel
theorem d_G_handleConnect_10 : decode b_G_handleConnect 10 = .ok (.aload_n 2, 1) := by decide +kernel
theorem d_G_handleConnect_11 : decode b_G_handleConnect 11 = .ok (.invokevirtual 143, 3) := by decide +kernel
theorem d_G_handleConnect_14 : decode b_G_handleConnect 14 = .ok (.aload_n 1, 1) := by decide +kernel
theorem d_G_handleConnect_15 : decode b_G_handleConnect 15 = .ok (.getfield 88, 3) := by decide +kernel
theorem d_G_handleConnect_18 : decode b_G_handleConnect 18 = .ok (.if_icmp .ge 57, 3) := by decide +kernel
theorem d_G_handleConnect_21 : decode b_G_handleConnect 21 = .ok (.aload_n 1, 1) := by decide +kernel
theorem d_G_handleConnect_22 : decode b_G_handleConnect 22 = .ok (.getfield 68, 3) := by decide +kernel
theorem d_G_handleConnect_25 : decode b_G_handleConnect 25 = .ok (.iload_n 3, 1) := by decide +kernel
theorem d_G_handleConnect_26 : decode b_G_handleConnect 26 = .ok (.iconst 1, 1) := by decide +kernel
theorem d_G_handleConnect_27 : decode b_G_handleConnect 27 = .ok (.iastore, 1) := by decide +kernel
theorem d_G_handleConnect_28 : decode b_G_handleConnect 28 = .ok (.aload_n 0, 1) := by decide +kernel
theorem d_G_handleConnect_29 : decode b_G_handleConnect 29 = .ok (.aload_n 1, 1) := by decide +kernel
theorem d_G_handleConnect_30 : decode b_G_handleConnect 30 = .ok (.new 135, 3) := by decide +kernel
theorem d_G_handleConnect_33 : decode b_G_handleConnect 33 = .ok (.dup, 1) := by decide +kernel
theorem d_G_handleConnect_34 : decode b_G_handleConnect 34 = .ok (.iconst 1, 1) := by decide +kernel
theorem d_G_handleConnect_35 : decode b_G_handleConnect 35 = .ok (.iload_n 3, 1) := by decide +kernel
theorem d_G_handleConnect_36 : decode b_G_handleConnect 36 = .ok (.aload_n 1, 1) := by decide +kernel
theorem d_G_handleConnect_37 : decode b_G_handleConnect 37 = .ok (.getfield 88, 3) := by decide +kernel
theorem d_G_handleConnect_40 : decode b_G_handleConnect 40 = .ok (.aload_n 1, 1) := by decide +kernel
theorem d_G_handleConnect_41 : decode b_G_handleConnect 41 = .ok (.getfield 91, 3) := by decide +kernel
theorem d_G_handleConnect_44 : decode b_G_handleConnect 44 = .ok (.aload_n 1, 1) := by decide +kernel
theorem d_G_handleConnect_45 : decode b_G_handleConnect 45 = .ok (.getfield 71, 3) := by decide +kernel
theorem d_G_handleConnect_48 : decode b_G_handleConnect 48 = .ok (.invokespecial 166, 3) := by decide +kernel
theorem d_G_handleConnect_51 : decode b_G_handleConnect 51 = .ok (.invokevirtual 169, 3) := by decide +kernel
theorem d_G_handleConnect_54 : decode b_G_handleConnect 54 = .ok (.aload_n 1, 1) := by decide +kernel
theorem d_G_handleConnect_55 : decode b_G_handleConnect 55 = .ok (.getfield 71, 3) := by decide +kernel
theorem d_G_handleConnect_58 : decode b_G_handleConnect 58 = .ok (.iconst 1, 1) := by decide +kernel
theorem d_G_handleConnect_59 : decode b_G_handleConnect 59 = .ok (.if_icmp .ne 60, 3) := by decide +kernel
theorem d_G_handleConnect_62 : decode b_G_handleConnect 62 = .ok (.aload_n 1, 1) := by decide +kernel
theorem d_G_handleConnect_63 : decode b_G_handleConnect 63 = .ok (.dup, 1) := by decide +kernel
theorem d_G_handleConnect_64 : decode b_G_handleConnect 64 = .ok (.getfield 94, 3) := by decide +kernel
theorem d_G_handleConnect_67 : decode b_G_handleConnect 67 = .ok (.iconst 1, 1) := by decide +kernel
theorem d_G_handleConnect_68 : decode b_G_handleConnect 68 = .ok (.iadd, 1) := by decide +kernel
theorem d_G_handleConnect_69 : decode b_G_handleConnect 69 = .ok (.putfield 94, 3) := by decide +kernel
theorem d_G_handleConnect_72 : decode b_G_handleConnect 72 = .ok (.goto 47, 3) := by decide +kernel
theorem d_G_handleConnect_75 : decode b_G_handleConnect 75 = .ok (.aload_n 1, 1) := by decide +kernel
theorem d_G_handleConnect_76 : decode b_G_handleConnect 76 = .ok (.getfield 68, 3) := by decide +kernel
theorem d_G_handleConnect_79 : decode b_G_handleConnect 79 = .ok (.iload_n 3, 1) := by decide +kernel
theorem d_G_handleConnect_80 : decode b_G_handleConnect 80 = .ok (.iaload, 1) := by decide +kernel
theorem d_G_handleConnect_81 : decode b_G_handleConnect 81 = .ok (.ifCond .ne 11, 3) := by decide +kernel
theorem d_G_handleConnect_84 : decode b_G_handleConnect 84 = .ok (.aload_n 1, 1) := by decide +kernel
theorem d_G_handleConnect_85 : decode b_G_handleConnect 85 = .ok (.aload_n 2, 1) := by decide +kernel
theorem d_G_handleConnect_86 : decode b_G_handleConnect 86 = .ok (.invokevirtual 203, 3) := by decide +kernel
theorem d_G_handleConnect_89 : decode b_G_handleConnect 89 = .ok (.goto 30, 3) := by decide +kernel
theorem d_G_handleConnect_92 : decode b_G_handleConnect 92 = .ok (.aload_n 0, 1) := by decide +kernel
theorem d_G_handleConnect_93 : decode b_G_handleConnect 93 = .ok (.aload_n 1, 1) := by decide +kernel
theorem d_G_handleConnect_94 : decode b_G_handleConnect 94 = .ok (.new 135, 3) := by decide +kernel
theorem d_G_handleConnect_97 : decode b_G_handleConnect 97 = .ok (.dup, 1) := by decide +kernel
theorem d_G_handleConnect_98 : decode b_G_handleConnect 98 = .ok (.iconst 1, 1) := by decide +kernel
theorem d_G_handleConnect_99 : decode b_G_handleConnect 99 = .ok (.iload_n 3, 1) := by decide +kernel
theorem d_G_handleConnect_100 : decode b_G_handleConnect 100 = .ok (.aload_n 1, 1) := by decide +kernel
theorem d_G_handleConnect_101 : decode b_G_handleConnect 101 = .ok (.getfield 88, 3) := by decide +kernel
theorem d_G_handleConnect_104 : decode b_G_handleConnect 104 = .ok (.iconst 1, 1) := by decide +kernel
theorem d_G_handleConnect_105 : decode b_G_handleConnect 105 = .ok (.iadd, 1) := by decide +kernel
theorem d_G_handleConnect_106 : decode b_G_handleConnect 106 = .ok (.aload_n 0, 1) := by decide +kernel
theorem d_G_handleConnect_107 : decode b_G_handleConnect 107 = .ok (.getfield 22, 3) := by decide +kernel
theorem d_G_handleConnect_110 : decode b_G_handleConnect 110 = .ok (.iload_n 3, 1) := by decide +kernel
theorem d_G_handleConnect_111 : decode b_G_handleConnect 111 = .ok (.iaload, 1) := by decide +kernel
theorem d_G_handleConnect_112 : decode b_G_handleConnect 112 = .ok (.iconst 1, 1) := by decide +kernel
theorem d_G_handleConnect_113 : decode b_G_handleConnect 113 = .ok (.invokespecial 166, 3) := by decide +kernel
theorem d_G_handleConnect_116 : decode b_G_handleConnect 116 = .ok (.invokevirtual 169, 3) := by decide +kernel
theorem d_G_handleConnect_119 : decode b_G_handleConnect 119 = .ok (.return_, 1) := by decide +kernel
abbrev b_M_first : ByteArray := prog_2_method_7_code
def y_M_first : MethodName := ⟨"MergingFragments$Message", "first", "()I"⟩
theorem d_M_first_0 : decode b_M_first 0 = .ok (.aload_n 0, 1) := by decide +kernel
theorem d_M_first_1 : decode b_M_first 1 = .ok (.getfield 16, 3) := by decide +kernel
theorem d_M_first_4 : decode b_M_first 4 = .ok (.ireturn, 1) := by decide +kernel
abbrev b_N_putBack : ByteArray := prog_3_method_6_code
def y_N_putBack : MethodName := ⟨"MergingFragments$Node", "putBack", "(LMergingFragments$Message;)V"⟩
theorem d_N_putBack_0 : decode b_N_putBack 0 = .ok (.aload_n 0, 1) := by decide +kernel
theorem d_N_putBack_1 : decode b_N_putBack 1 = .ok (.getfield 18, 3) := by decide +kernel
theorem d_N_putBack_4 : decode b_N_putBack 4 = .ok (.aload_n 1, 1) := by decide +kernel
theorem d_N_putBack_5 : decode b_N_putBack 5 = .ok (.invokevirtual 69, 3) := by decide +kernel
theorem d_N_putBack_8 : decode b_N_putBack 8 = .ok (.pop, 1) := by decide +kernel
theorem d_N_putBack_9 : decode b_N_putBack 9 = .ok (.return_, 1) := by decide +kernel
abbrev b_G_handleInitiate : ByteArray := prog_1_method_24_code
def y_G_handleInitiate : MethodName := ⟨"MergingFragments", "handleInitiate", "(LMergingFragments$Node;LMergingFragments$Message;)V"⟩
theorem d_G_handleInitiate_0 : decode b_G_handleInitiate 0 = .ok (.aload_n 1, 1) := by decide +kernel
theorem d_G_handleInitiate_1 : decode b_G_handleInitiate 1 = .ok (.aload_n 2, 1) := by decide +kernel
theorem d_G_handleInitiate_2 : decode b_G_handleInitiate 2 = .ok (.invokevirtual 143, 3) := by decide +kernel
theorem d_G_handleInitiate_5 : decode b_G_handleInitiate 5 = .ok (.putfield 88, 3) := by decide +kernel
theorem d_G_handleInitiate_8 : decode b_G_handleInitiate 8 = .ok (.aload_n 1, 1) := by decide +kernel
theorem d_G_handleInitiate_9 : decode b_G_handleInitiate 9 = .ok (.aload_n 2, 1) := by decide +kernel
theorem d_G_handleInitiate_10 : decode b_G_handleInitiate 10 = .ok (.invokevirtual 146, 3) := by decide +kernel
theorem d_G_handleInitiate_13 : decode b_G_handleInitiate 13 = .ok (.putfield 91, 3) := by decide +kernel
theorem d_G_handleInitiate_16 : decode b_G_handleInitiate 16 = .ok (.aload_n 1, 1) := by decide +kernel
theorem d_G_handleInitiate_17 : decode b_G_handleInitiate 17 = .ok (.aload_n 2, 1) := by decide +kernel
theorem d_G_handleInitiate_18 : decode b_G_handleInitiate 18 = .ok (.invokevirtual 149, 3) := by decide +kernel
theorem d_G_handleInitiate_21 : decode b_G_handleInitiate 21 = .ok (.putfield 71, 3) := by decide +kernel
theorem d_G_handleInitiate_24 : decode b_G_handleInitiate 24 = .ok (.aload_n 1, 1) := by decide +kernel
theorem d_G_handleInitiate_25 : decode b_G_handleInitiate 25 = .ok (.aload_n 2, 1) := by decide +kernel
theorem d_G_handleInitiate_26 : decode b_G_handleInitiate 26 = .ok (.invokevirtual 140, 3) := by decide +kernel
theorem d_G_handleInitiate_29 : decode b_G_handleInitiate 29 = .ok (.putfield 97, 3) := by decide +kernel
theorem d_G_handleInitiate_32 : decode b_G_handleInitiate 32 = .ok (.aload_n 1, 1) := by decide +kernel
theorem d_G_handleInitiate_33 : decode b_G_handleInitiate 33 = .ok (.invokevirtual 207, 3) := by decide +kernel
theorem d_G_handleInitiate_36 : decode b_G_handleInitiate 36 = .ok (.iconst 0, 1) := by decide +kernel
theorem d_G_handleInitiate_37 : decode b_G_handleInitiate 37 = .ok (.istore_n 3, 1) := by decide +kernel
theorem d_G_handleInitiate_38 : decode b_G_handleInitiate 38 = .ok (.iload_n 3, 1) := by decide +kernel
theorem d_G_handleInitiate_39 : decode b_G_handleInitiate 39 = .ok (.aload_n 0, 1) := by decide +kernel
theorem d_G_handleInitiate_40 : decode b_G_handleInitiate 40 = .ok (.getfield 29, 3) := by decide +kernel
theorem d_G_handleInitiate_43 : decode b_G_handleInitiate 43 = .ok (.if_icmp .ge 71, 3) := by decide +kernel
theorem d_G_handleInitiate_46 : decode b_G_handleInitiate 46 = .ok (.aload_n 1, 1) := by decide +kernel
theorem d_G_handleInitiate_47 : decode b_G_handleInitiate 47 = .ok (.getfield 68, 3) := by decide +kernel
theorem d_G_handleInitiate_50 : decode b_G_handleInitiate 50 = .ok (.iload_n 3, 1) := by decide +kernel
theorem d_G_handleInitiate_51 : decode b_G_handleInitiate 51 = .ok (.iaload, 1) := by decide +kernel
theorem d_G_handleInitiate_52 : decode b_G_handleInitiate 52 = .ok (.iconst 1, 1) := by decide +kernel
theorem d_G_handleInitiate_53 : decode b_G_handleInitiate 53 = .ok (.if_icmp .ne 55, 3) := by decide +kernel
theorem d_G_handleInitiate_56 : decode b_G_handleInitiate 56 = .ok (.iload_n 3, 1) := by decide +kernel
theorem d_G_handleInitiate_57 : decode b_G_handleInitiate 57 = .ok (.aload_n 1, 1) := by decide +kernel
theorem d_G_handleInitiate_58 : decode b_G_handleInitiate 58 = .ok (.getfield 97, 3) := by decide +kernel
theorem d_G_handleInitiate_61 : decode b_G_handleInitiate 61 = .ok (.if_icmp .eq 47, 3) := by decide +kernel
theorem d_G_handleInitiate_64 : decode b_G_handleInitiate 64 = .ok (.aload_n 0, 1) := by decide +kernel
theorem d_G_handleInitiate_65 : decode b_G_handleInitiate 65 = .ok (.aload_n 1, 1) := by decide +kernel
theorem d_G_handleInitiate_66 : decode b_G_handleInitiate 66 = .ok (.new 135, 3) := by decide +kernel
theorem d_G_handleInitiate_69 : decode b_G_handleInitiate 69 = .ok (.dup, 1) := by decide +kernel
theorem d_G_handleInitiate_70 : decode b_G_handleInitiate 70 = .ok (.iconst 1, 1) := by decide +kernel
theorem d_G_handleInitiate_71 : decode b_G_handleInitiate 71 = .ok (.iload_n 3, 1) := by decide +kernel
theorem d_G_handleInitiate_72 : decode b_G_handleInitiate 72 = .ok (.aload_n 1, 1) := by decide +kernel
theorem d_G_handleInitiate_73 : decode b_G_handleInitiate 73 = .ok (.getfield 88, 3) := by decide +kernel
theorem d_G_handleInitiate_76 : decode b_G_handleInitiate 76 = .ok (.aload_n 1, 1) := by decide +kernel
theorem d_G_handleInitiate_77 : decode b_G_handleInitiate 77 = .ok (.getfield 91, 3) := by decide +kernel
theorem d_G_handleInitiate_80 : decode b_G_handleInitiate 80 = .ok (.aload_n 1, 1) := by decide +kernel
theorem d_G_handleInitiate_81 : decode b_G_handleInitiate 81 = .ok (.getfield 71, 3) := by decide +kernel
theorem d_G_handleInitiate_84 : decode b_G_handleInitiate 84 = .ok (.invokespecial 166, 3) := by decide +kernel
theorem d_G_handleInitiate_87 : decode b_G_handleInitiate 87 = .ok (.invokevirtual 169, 3) := by decide +kernel
theorem d_G_handleInitiate_90 : decode b_G_handleInitiate 90 = .ok (.aload_n 1, 1) := by decide +kernel
theorem d_G_handleInitiate_91 : decode b_G_handleInitiate 91 = .ok (.getfield 71, 3) := by decide +kernel
theorem d_G_handleInitiate_94 : decode b_G_handleInitiate 94 = .ok (.iconst 1, 1) := by decide +kernel
theorem d_G_handleInitiate_95 : decode b_G_handleInitiate 95 = .ok (.if_icmp .ne 13, 3) := by decide +kernel
theorem d_G_handleInitiate_98 : decode b_G_handleInitiate 98 = .ok (.aload_n 1, 1) := by decide +kernel
theorem d_G_handleInitiate_99 : decode b_G_handleInitiate 99 = .ok (.dup, 1) := by decide +kernel
theorem d_G_handleInitiate_100 : decode b_G_handleInitiate 100 = .ok (.getfield 94, 3) := by decide +kernel
theorem d_G_handleInitiate_103 : decode b_G_handleInitiate 103 = .ok (.iconst 1, 1) := by decide +kernel
theorem d_G_handleInitiate_104 : decode b_G_handleInitiate 104 = .ok (.iadd, 1) := by decide +kernel
theorem d_G_handleInitiate_105 : decode b_G_handleInitiate 105 = .ok (.putfield 94, 3) := by decide +kernel
theorem d_G_handleInitiate_108 : decode b_G_handleInitiate 108 = .ok (.iinc 3 1, 3) := by decide +kernel
theorem d_G_handleInitiate_111 : decode b_G_handleInitiate 111 = .ok (.goto (-73), 3) := by decide +kernel
theorem d_G_handleInitiate_114 : decode b_G_handleInitiate 114 = .ok (.aload_n 1, 1) := by decide +kernel
theorem d_G_handleInitiate_115 : decode b_G_handleInitiate 115 = .ok (.getfield 71, 3) := by decide +kernel
theorem d_G_handleInitiate_118 : decode b_G_handleInitiate 118 = .ok (.iconst 1, 1) := by decide +kernel
theorem d_G_handleInitiate_119 : decode b_G_handleInitiate 119 = .ok (.if_icmp .ne 8, 3) := by decide +kernel
theorem d_G_handleInitiate_122 : decode b_G_handleInitiate 122 = .ok (.aload_n 0, 1) := by decide +kernel
theorem d_G_handleInitiate_123 : decode b_G_handleInitiate 123 = .ok (.aload_n 1, 1) := by decide +kernel
theorem d_G_handleInitiate_124 : decode b_G_handleInitiate 124 = .ok (.invokevirtual 210, 3) := by decide +kernel
theorem d_G_handleInitiate_127 : decode b_G_handleInitiate 127 = .ok (.return_, 1) := by decide +kernel
abbrev b_M_second : ByteArray := prog_2_method_8_code
def y_M_second : MethodName := ⟨"MergingFragments$Message", "second", "()I"⟩
theorem d_M_second_0 : decode b_M_second 0 = .ok (.aload_n 0, 1) := by decide +kernel
theorem d_M_second_1 : decode b_M_second 1 = .ok (.getfield 19, 3) := by decide +kernel
theorem d_M_second_4 : decode b_M_second 4 = .ok (.ireturn, 1) := by decide +kernel
abbrev b_M_third : ByteArray := prog_2_method_9_code
def y_M_third : MethodName := ⟨"MergingFragments$Message", "third", "()I"⟩
theorem d_M_third_0 : decode b_M_third 0 = .ok (.aload_n 0, 1) := by decide +kernel
theorem d_M_third_1 : decode b_M_third 1 = .ok (.getfield 22, 3) := by decide +kernel
theorem d_M_third_4 : decode b_M_third 4 = .ok (.ireturn, 1) := by decide +kernel
abbrev b_G_testLightest : ByteArray := prog_1_method_19_code
def y_G_testLightest : MethodName := ⟨"MergingFragments", "testLightest", "(LMergingFragments$Node;)V"⟩
theorem d_G_testLightest_0 : decode b_G_testLightest 0 = .ok (.aload_n 1, 1) := by decide +kernel
theorem d_G_testLightest_1 : decode b_G_testLightest 1 = .ok (.aload_n 0, 1) := by decide +kernel
theorem d_G_testLightest_2 : decode b_G_testLightest 2 = .ok (.aload_n 1, 1) := by decide +kernel
theorem d_G_testLightest_3 : decode b_G_testLightest 3 = .ok (.invokevirtual 163, 3) := by decide +kernel
theorem d_G_testLightest_6 : decode b_G_testLightest 6 = .ok (.putfield 103, 3) := by decide +kernel
theorem d_G_testLightest_9 : decode b_G_testLightest 9 = .ok (.aload_n 1, 1) := by decide +kernel
theorem d_G_testLightest_10 : decode b_G_testLightest 10 = .ok (.getfield 103, 3) := by decide +kernel
theorem d_G_testLightest_13 : decode b_G_testLightest 13 = .ok (.iconst (-1), 1) := by decide +kernel
theorem d_G_testLightest_14 : decode b_G_testLightest 14 = .ok (.if_icmp .eq 32, 3) := by decide +kernel
theorem d_G_testLightest_17 : decode b_G_testLightest 17 = .ok (.aload_n 0, 1) := by decide +kernel
theorem d_G_testLightest_18 : decode b_G_testLightest 18 = .ok (.aload_n 1, 1) := by decide +kernel
theorem d_G_testLightest_19 : decode b_G_testLightest 19 = .ok (.new 135, 3) := by decide +kernel
theorem d_G_testLightest_22 : decode b_G_testLightest 22 = .ok (.dup, 1) := by decide +kernel
theorem d_G_testLightest_23 : decode b_G_testLightest 23 = .ok (.iconst 2, 1) := by decide +kernel
theorem d_G_testLightest_24 : decode b_G_testLightest 24 = .ok (.aload_n 1, 1) := by decide +kernel
theorem d_G_testLightest_25 : decode b_G_testLightest 25 = .ok (.getfield 103, 3) := by decide +kernel
theorem d_G_testLightest_28 : decode b_G_testLightest 28 = .ok (.aload_n 1, 1) := by decide +kernel
theorem d_G_testLightest_29 : decode b_G_testLightest 29 = .ok (.getfield 88, 3) := by decide +kernel
theorem d_G_testLightest_32 : decode b_G_testLightest 32 = .ok (.aload_n 1, 1) := by decide +kernel
theorem d_G_testLightest_33 : decode b_G_testLightest 33 = .ok (.getfield 91, 3) := by decide +kernel
theorem d_G_testLightest_36 : decode b_G_testLightest 36 = .ok (.iconst 0, 1) := by decide +kernel
theorem d_G_testLightest_37 : decode b_G_testLightest 37 = .ok (.invokespecial 166, 3) := by decide +kernel
theorem d_G_testLightest_40 : decode b_G_testLightest 40 = .ok (.invokevirtual 169, 3) := by decide +kernel
theorem d_G_testLightest_43 : decode b_G_testLightest 43 = .ok (.goto 8, 3) := by decide +kernel
theorem d_G_testLightest_46 : decode b_G_testLightest 46 = .ok (.aload_n 0, 1) := by decide +kernel
theorem d_G_testLightest_47 : decode b_G_testLightest 47 = .ok (.aload_n 1, 1) := by decide +kernel
theorem d_G_testLightest_48 : decode b_G_testLightest 48 = .ok (.invokevirtual 173, 3) := by decide +kernel
theorem d_G_testLightest_51 : decode b_G_testLightest 51 = .ok (.return_, 1) := by decide +kernel
abbrev b_G_reportIfReady : ByteArray := prog_1_method_20_code
def y_G_reportIfReady : MethodName := ⟨"MergingFragments", "reportIfReady", "(LMergingFragments$Node;)V"⟩
theorem d_G_reportIfReady_0 : decode b_G_reportIfReady 0 = .ok (.aload_n 1, 1) := by decide +kernel
theorem d_G_reportIfReady_1 : decode b_G_reportIfReady 1 = .ok (.getfield 94, 3) := by decide +kernel
theorem d_G_reportIfReady_4 : decode b_G_reportIfReady 4 = .ok (.ifCond .ne 39, 3) := by decide +kernel
theorem d_G_reportIfReady_7 : decode b_G_reportIfReady 7 = .ok (.aload_n 1, 1) := by decide +kernel
theorem d_G_reportIfReady_8 : decode b_G_reportIfReady 8 = .ok (.getfield 103, 3) := by decide +kernel
theorem d_G_reportIfReady_11 : decode b_G_reportIfReady 11 = .ok (.iconst (-1), 1) := by decide +kernel
theorem d_G_reportIfReady_12 : decode b_G_reportIfReady 12 = .ok (.if_icmp .ne 31, 3) := by decide +kernel
theorem d_G_reportIfReady_15 : decode b_G_reportIfReady 15 = .ok (.aload_n 1, 1) := by decide +kernel
theorem d_G_reportIfReady_16 : decode b_G_reportIfReady 16 = .ok (.iconst 2, 1) := by decide +kernel
theorem d_G_reportIfReady_17 : decode b_G_reportIfReady 17 = .ok (.putfield 71, 3) := by decide +kernel
theorem d_G_reportIfReady_20 : decode b_G_reportIfReady 20 = .ok (.aload_n 0, 1) := by decide +kernel
theorem d_G_reportIfReady_21 : decode b_G_reportIfReady 21 = .ok (.aload_n 1, 1) := by decide +kernel
theorem d_G_reportIfReady_22 : decode b_G_reportIfReady 22 = .ok (.new 135, 3) := by decide +kernel
theorem d_G_reportIfReady_25 : decode b_G_reportIfReady 25 = .ok (.dup, 1) := by decide +kernel
theorem d_G_reportIfReady_26 : decode b_G_reportIfReady 26 = .ok (.iconst 5, 1) := by decide +kernel
theorem d_G_reportIfReady_27 : decode b_G_reportIfReady 27 = .ok (.aload_n 1, 1) := by decide +kernel
theorem d_G_reportIfReady_28 : decode b_G_reportIfReady 28 = .ok (.getfield 97, 3) := by decide +kernel
theorem d_G_reportIfReady_31 : decode b_G_reportIfReady 31 = .ok (.aload_n 1, 1) := by decide +kernel
theorem d_G_reportIfReady_32 : decode b_G_reportIfReady 32 = .ok (.getfield 106, 3) := by decide +kernel
theorem d_G_reportIfReady_35 : decode b_G_reportIfReady 35 = .ok (.iconst 0, 1) := by decide +kernel
theorem d_G_reportIfReady_36 : decode b_G_reportIfReady 36 = .ok (.iconst 0, 1) := by decide +kernel
theorem d_G_reportIfReady_37 : decode b_G_reportIfReady 37 = .ok (.invokespecial 166, 3) := by decide +kernel
theorem d_G_reportIfReady_40 : decode b_G_reportIfReady 40 = .ok (.invokevirtual 169, 3) := by decide +kernel
theorem d_G_reportIfReady_43 : decode b_G_reportIfReady 43 = .ok (.return_, 1) := by decide +kernel
abbrev b_G_handleTest : ByteArray := prog_1_method_25_code
def y_G_handleTest : MethodName := ⟨"MergingFragments", "handleTest", "(LMergingFragments$Node;LMergingFragments$Message;)V"⟩
theorem d_G_handleTest_0 : decode b_G_handleTest 0 = .ok (.aload_n 0, 1) := by decide +kernel
theorem d_G_handleTest_1 : decode b_G_handleTest 1 = .ok (.aload_n 1, 1) := by decide +kernel
theorem d_G_handleTest_2 : decode b_G_handleTest 2 = .ok (.invokevirtual 74, 3) := by decide +kernel
theorem d_G_handleTest_5 : decode b_G_handleTest 5 = .ok (.aload_n 2, 1) := by decide +kernel
theorem d_G_handleTest_6 : decode b_G_handleTest 6 = .ok (.invokevirtual 140, 3) := by decide +kernel
theorem d_G_handleTest_9 : decode b_G_handleTest 9 = .ok (.istore_n 3, 1) := by decide +kernel
theorem d_G_handleTest_10 : decode b_G_handleTest 10 = .ok (.aload_n 2, 1) := by decide +kernel
theorem d_G_handleTest_11 : decode b_G_handleTest 11 = .ok (.invokevirtual 143, 3) := by decide +kernel
theorem d_G_handleTest_14 : decode b_G_handleTest 14 = .ok (.aload_n 1, 1) := by decide +kernel
theorem d_G_handleTest_15 : decode b_G_handleTest 15 = .ok (.getfield 88, 3) := by decide +kernel
theorem d_G_handleTest_18 : decode b_G_handleTest 18 = .ok (.if_icmp .le 11, 3) := by decide +kernel
theorem d_G_handleTest_21 : decode b_G_handleTest 21 = .ok (.aload_n 1, 1) := by decide +kernel
theorem d_G_handleTest_22 : decode b_G_handleTest 22 = .ok (.aload_n 2, 1) := by decide +kernel
theorem d_G_handleTest_23 : decode b_G_handleTest 23 = .ok (.invokevirtual 203, 3) := by decide +kernel
theorem d_G_handleTest_26 : decode b_G_handleTest 26 = .ok (.goto 72, 3) := by decide +kernel
theorem d_G_handleTest_29 : decode b_G_handleTest 29 = .ok (.aload_n 2, 1) := by decide +kernel
theorem d_G_handleTest_30 : decode b_G_handleTest 30 = .ok (.invokevirtual 146, 3) := by decide +kernel
theorem d_G_handleTest_33 : decode b_G_handleTest 33 = .ok (.aload_n 1, 1) := by decide +kernel
theorem d_G_handleTest_34 : decode b_G_handleTest 34 = .ok (.getfield 91, 3) := by decide +kernel
theorem d_G_handleTest_37 : decode b_G_handleTest 37 = .ok (.if_icmp .eq 23, 3) := by decide +kernel
theorem d_G_handleTest_40 : decode b_G_handleTest 40 = .ok (.aload_n 0, 1) := by decide +kernel
theorem d_G_handleTest_41 : decode b_G_handleTest 41 = .ok (.aload_n 1, 1) := by decide +kernel
theorem d_G_handleTest_42 : decode b_G_handleTest 42 = .ok (.new 135, 3) := by decide +kernel
theorem d_G_handleTest_45 : decode b_G_handleTest 45 = .ok (.dup, 1) := by decide +kernel
theorem d_G_handleTest_46 : decode b_G_handleTest 46 = .ok (.iconst 3, 1) := by decide +kernel
theorem d_G_handleTest_47 : decode b_G_handleTest 47 = .ok (.iload_n 3, 1) := by decide +kernel
theorem d_G_handleTest_48 : decode b_G_handleTest 48 = .ok (.iconst 0, 1) := by decide +kernel
theorem d_G_handleTest_49 : decode b_G_handleTest 49 = .ok (.iconst 0, 1) := by decide +kernel
theorem d_G_handleTest_50 : decode b_G_handleTest 50 = .ok (.iconst 0, 1) := by decide +kernel
theorem d_G_handleTest_51 : decode b_G_handleTest 51 = .ok (.invokespecial 166, 3) := by decide +kernel
theorem d_G_handleTest_54 : decode b_G_handleTest 54 = .ok (.invokevirtual 169, 3) := by decide +kernel
theorem d_G_handleTest_57 : decode b_G_handleTest 57 = .ok (.goto 41, 3) := by decide +kernel
theorem d_G_handleTest_60 : decode b_G_handleTest 60 = .ok (.aload_n 1, 1) := by decide +kernel
theorem d_G_handleTest_61 : decode b_G_handleTest 61 = .ok (.iload_n 3, 1) := by decide +kernel
theorem d_G_handleTest_62 : decode b_G_handleTest 62 = .ok (.invokevirtual 213, 3) := by decide +kernel
theorem d_G_handleTest_65 : decode b_G_handleTest 65 = .ok (.aload_n 1, 1) := by decide +kernel
theorem d_G_handleTest_66 : decode b_G_handleTest 66 = .ok (.getfield 103, 3) := by decide +kernel
theorem d_G_handleTest_69 : decode b_G_handleTest 69 = .ok (.iload_n 3, 1) := by decide +kernel
theorem d_G_handleTest_70 : decode b_G_handleTest 70 = .ok (.if_icmp .eq 23, 3) := by decide +kernel
theorem d_G_handleTest_73 : decode b_G_handleTest 73 = .ok (.aload_n 0, 1) := by decide +kernel
theorem d_G_handleTest_74 : decode b_G_handleTest 74 = .ok (.aload_n 1, 1) := by decide +kernel
theorem d_G_handleTest_75 : decode b_G_handleTest 75 = .ok (.new 135, 3) := by decide +kernel
theorem d_G_handleTest_78 : decode b_G_handleTest 78 = .ok (.dup, 1) := by decide +kernel
theorem d_G_handleTest_79 : decode b_G_handleTest 79 = .ok (.iconst 4, 1) := by decide +kernel
theorem d_G_handleTest_80 : decode b_G_handleTest 80 = .ok (.iload_n 3, 1) := by decide +kernel
theorem d_G_handleTest_81 : decode b_G_handleTest 81 = .ok (.iconst 0, 1) := by decide +kernel
theorem d_G_handleTest_82 : decode b_G_handleTest 82 = .ok (.iconst 0, 1) := by decide +kernel
theorem d_G_handleTest_83 : decode b_G_handleTest 83 = .ok (.iconst 0, 1) := by decide +kernel
theorem d_G_handleTest_84 : decode b_G_handleTest 84 = .ok (.invokespecial 166, 3) := by decide +kernel
theorem d_G_handleTest_87 : decode b_G_handleTest 87 = .ok (.invokevirtual 169, 3) := by decide +kernel
theorem d_G_handleTest_90 : decode b_G_handleTest 90 = .ok (.goto 8, 3) := by decide +kernel
theorem d_G_handleTest_93 : decode b_G_handleTest 93 = .ok (.aload_n 0, 1) := by decide +kernel
theorem d_G_handleTest_94 : decode b_G_handleTest 94 = .ok (.aload_n 1, 1) := by decide +kernel
theorem d_G_handleTest_95 : decode b_G_handleTest 95 = .ok (.invokevirtual 210, 3) := by decide +kernel
theorem d_G_handleTest_98 : decode b_G_handleTest 98 = .ok (.return_, 1) := by decide +kernel
abbrev b_N_rejectIfBasic : ByteArray := prog_3_method_5_code
def y_N_rejectIfBasic : MethodName := ⟨"MergingFragments$Node", "rejectIfBasic", "(I)V"⟩
theorem d_N_rejectIfBasic_0 : decode b_N_rejectIfBasic 0 = .ok (.aload_n 0, 1) := by decide +kernel
theorem d_N_rejectIfBasic_1 : decode b_N_rejectIfBasic 1 = .ok (.getfield 9, 3) := by decide +kernel
theorem d_N_rejectIfBasic_4 : decode b_N_rejectIfBasic 4 = .ok (.iload_n 1, 1) := by decide +kernel
theorem d_N_rejectIfBasic_5 : decode b_N_rejectIfBasic 5 = .ok (.iaload, 1) := by decide +kernel
theorem d_N_rejectIfBasic_6 : decode b_N_rejectIfBasic 6 = .ok (.ifCond .ne 10, 3) := by decide +kernel
theorem d_N_rejectIfBasic_9 : decode b_N_rejectIfBasic 9 = .ok (.aload_n 0, 1) := by decide +kernel
theorem d_N_rejectIfBasic_10 : decode b_N_rejectIfBasic 10 = .ok (.getfield 9, 3) := by decide +kernel
theorem d_N_rejectIfBasic_13 : decode b_N_rejectIfBasic 13 = .ok (.iload_n 1, 1) := by decide +kernel
theorem d_N_rejectIfBasic_14 : decode b_N_rejectIfBasic 14 = .ok (.iconst 2, 1) := by decide +kernel
theorem d_N_rejectIfBasic_15 : decode b_N_rejectIfBasic 15 = .ok (.iastore, 1) := by decide +kernel
theorem d_N_rejectIfBasic_16 : decode b_N_rejectIfBasic 16 = .ok (.return_, 1) := by decide +kernel
abbrev b_G_handleAccept : ByteArray := prog_1_method_26_code
def y_G_handleAccept : MethodName := ⟨"MergingFragments", "handleAccept", "(LMergingFragments$Node;LMergingFragments$Message;)V"⟩
theorem d_G_handleAccept_0 : decode b_G_handleAccept 0 = .ok (.aload_n 1, 1) := by decide +kernel
theorem d_G_handleAccept_1 : decode b_G_handleAccept 1 = .ok (.iconst (-1), 1) := by decide +kernel
theorem d_G_handleAccept_2 : decode b_G_handleAccept 2 = .ok (.putfield 103, 3) := by decide +kernel
theorem d_G_handleAccept_5 : decode b_G_handleAccept 5 = .ok (.aload_n 1, 1) := by decide +kernel
theorem d_G_handleAccept_6 : decode b_G_handleAccept 6 = .ok (.aload_n 2, 1) := by decide +kernel
theorem d_G_handleAccept_7 : decode b_G_handleAccept 7 = .ok (.invokevirtual 140, 3) := by decide +kernel
theorem d_G_handleAccept_10 : decode b_G_handleAccept 10 = .ok (.aload_n 0, 1) := by decide +kernel
theorem d_G_handleAccept_11 : decode b_G_handleAccept 11 = .ok (.getfield 22, 3) := by decide +kernel
theorem d_G_handleAccept_14 : decode b_G_handleAccept 14 = .ok (.aload_n 2, 1) := by decide +kernel
theorem d_G_handleAccept_15 : decode b_G_handleAccept 15 = .ok (.invokevirtual 140, 3) := by decide +kernel
theorem d_G_handleAccept_18 : decode b_G_handleAccept 18 = .ok (.iaload, 1) := by decide +kernel
theorem d_G_handleAccept_19 : decode b_G_handleAccept 19 = .ok (.invokevirtual 216, 3) := by decide +kernel
theorem d_G_handleAccept_22 : decode b_G_handleAccept 22 = .ok (.aload_n 0, 1) := by decide +kernel
theorem d_G_handleAccept_23 : decode b_G_handleAccept 23 = .ok (.aload_n 1, 1) := by decide +kernel
theorem d_G_handleAccept_24 : decode b_G_handleAccept 24 = .ok (.invokevirtual 173, 3) := by decide +kernel
theorem d_G_handleAccept_27 : decode b_G_handleAccept 27 = .ok (.return_, 1) := by decide +kernel
abbrev b_N_improveBest : ByteArray := prog_3_method_4_code
def y_N_improveBest : MethodName := ⟨"MergingFragments$Node", "improveBest", "(II)V"⟩
theorem d_N_improveBest_0 : decode b_N_improveBest 0 = .ok (.iload_n 2, 1) := by decide +kernel
theorem d_N_improveBest_1 : decode b_N_improveBest 1 = .ok (.aload_n 0, 1) := by decide +kernel
theorem d_N_improveBest_2 : decode b_N_improveBest 2 = .ok (.getfield 66, 3) := by decide +kernel
theorem d_N_improveBest_5 : decode b_N_improveBest 5 = .ok (.if_icmp .ge 13, 3) := by decide +kernel
theorem d_N_improveBest_8 : decode b_N_improveBest 8 = .ok (.aload_n 0, 1) := by decide +kernel
theorem d_N_improveBest_9 : decode b_N_improveBest 9 = .ok (.iload_n 1, 1) := by decide +kernel
theorem d_N_improveBest_10 : decode b_N_improveBest 10 = .ok (.putfield 63, 3) := by decide +kernel
theorem d_N_improveBest_13 : decode b_N_improveBest 13 = .ok (.aload_n 0, 1) := by decide +kernel
theorem d_N_improveBest_14 : decode b_N_improveBest 14 = .ok (.iload_n 2, 1) := by decide +kernel
theorem d_N_improveBest_15 : decode b_N_improveBest 15 = .ok (.putfield 66, 3) := by decide +kernel
theorem d_N_improveBest_18 : decode b_N_improveBest 18 = .ok (.return_, 1) := by decide +kernel
abbrev b_G_handleReject : ByteArray := prog_1_method_27_code
def y_G_handleReject : MethodName := ⟨"MergingFragments", "handleReject", "(LMergingFragments$Node;LMergingFragments$Message;)V"⟩
theorem d_G_handleReject_0 : decode b_G_handleReject 0 = .ok (.aload_n 1, 1) := by decide +kernel
theorem d_G_handleReject_1 : decode b_G_handleReject 1 = .ok (.aload_n 2, 1) := by decide +kernel
theorem d_G_handleReject_2 : decode b_G_handleReject 2 = .ok (.invokevirtual 140, 3) := by decide +kernel
theorem d_G_handleReject_5 : decode b_G_handleReject 5 = .ok (.invokevirtual 213, 3) := by decide +kernel
theorem d_G_handleReject_8 : decode b_G_handleReject 8 = .ok (.aload_n 0, 1) := by decide +kernel
theorem d_G_handleReject_9 : decode b_G_handleReject 9 = .ok (.aload_n 1, 1) := by decide +kernel
theorem d_G_handleReject_10 : decode b_G_handleReject 10 = .ok (.invokevirtual 210, 3) := by decide +kernel
theorem d_G_handleReject_13 : decode b_G_handleReject 13 = .ok (.return_, 1) := by decide +kernel
abbrev b_G_handleReport : ByteArray := prog_1_method_28_code
def y_G_handleReport : MethodName := ⟨"MergingFragments", "handleReport", "(LMergingFragments$Node;LMergingFragments$Message;)V"⟩
theorem d_G_handleReport_0 : decode b_G_handleReport 0 = .ok (.aload_n 2, 1) := by decide +kernel
theorem d_G_handleReport_1 : decode b_G_handleReport 1 = .ok (.invokevirtual 143, 3) := by decide +kernel
theorem d_G_handleReport_4 : decode b_G_handleReport 4 = .ok (.istore_n 3, 1) := by decide +kernel
theorem d_G_handleReport_5 : decode b_G_handleReport 5 = .ok (.aload_n 2, 1) := by decide +kernel
theorem d_G_handleReport_6 : decode b_G_handleReport 6 = .ok (.invokevirtual 140, 3) := by decide +kernel
theorem d_G_handleReport_9 : decode b_G_handleReport 9 = .ok (.aload_n 1, 1) := by decide +kernel
theorem d_G_handleReport_10 : decode b_G_handleReport 10 = .ok (.getfield 97, 3) := by decide +kernel
theorem d_G_handleReport_13 : decode b_G_handleReport 13 = .ok (.if_icmp .eq 30, 3) := by decide +kernel
theorem d_G_handleReport_16 : decode b_G_handleReport 16 = .ok (.aload_n 1, 1) := by decide +kernel
theorem d_G_handleReport_17 : decode b_G_handleReport 17 = .ok (.dup, 1) := by decide +kernel
theorem d_G_handleReport_18 : decode b_G_handleReport 18 = .ok (.getfield 94, 3) := by decide +kernel
theorem d_G_handleReport_21 : decode b_G_handleReport 21 = .ok (.iconst 1, 1) := by decide +kernel
theorem d_G_handleReport_22 : decode b_G_handleReport 22 = .ok (.isub, 1) := by decide +kernel
theorem d_G_handleReport_23 : decode b_G_handleReport 23 = .ok (.putfield 94, 3) := by decide +kernel
theorem d_G_handleReport_26 : decode b_G_handleReport 26 = .ok (.aload_n 1, 1) := by decide +kernel
theorem d_G_handleReport_27 : decode b_G_handleReport 27 = .ok (.aload_n 2, 1) := by decide +kernel
theorem d_G_handleReport_28 : decode b_G_handleReport 28 = .ok (.invokevirtual 140, 3) := by decide +kernel
theorem d_G_handleReport_31 : decode b_G_handleReport 31 = .ok (.iload_n 3, 1) := by decide +kernel
theorem d_G_handleReport_32 : decode b_G_handleReport 32 = .ok (.invokevirtual 216, 3) := by decide +kernel
theorem d_G_handleReport_35 : decode b_G_handleReport 35 = .ok (.aload_n 0, 1) := by decide +kernel
theorem d_G_handleReport_36 : decode b_G_handleReport 36 = .ok (.aload_n 1, 1) := by decide +kernel
theorem d_G_handleReport_37 : decode b_G_handleReport 37 = .ok (.invokevirtual 173, 3) := by decide +kernel
theorem d_G_handleReport_40 : decode b_G_handleReport 40 = .ok (.goto 46, 3) := by decide +kernel
theorem d_G_handleReport_43 : decode b_G_handleReport 43 = .ok (.aload_n 1, 1) := by decide +kernel
theorem d_G_handleReport_44 : decode b_G_handleReport 44 = .ok (.getfield 71, 3) := by decide +kernel
theorem d_G_handleReport_47 : decode b_G_handleReport 47 = .ok (.iconst 1, 1) := by decide +kernel
theorem d_G_handleReport_48 : decode b_G_handleReport 48 = .ok (.if_icmp .ne 11, 3) := by decide +kernel
theorem d_G_handleReport_51 : decode b_G_handleReport 51 = .ok (.aload_n 1, 1) := by decide +kernel
theorem d_G_handleReport_52 : decode b_G_handleReport 52 = .ok (.aload_n 2, 1) := by decide +kernel
theorem d_G_handleReport_53 : decode b_G_handleReport 53 = .ok (.invokevirtual 203, 3) := by decide +kernel
theorem d_G_handleReport_56 : decode b_G_handleReport 56 = .ok (.goto 30, 3) := by decide +kernel
theorem d_G_handleReport_59 : decode b_G_handleReport 59 = .ok (.iload_n 3, 1) := by decide +kernel
theorem d_G_handleReport_60 : decode b_G_handleReport 60 = .ok (.aload_n 1, 1) := by decide +kernel
theorem d_G_handleReport_61 : decode b_G_handleReport 61 = .ok (.getfield 106, 3) := by decide +kernel
theorem d_G_handleReport_64 : decode b_G_handleReport 64 = .ok (.if_icmp .le 11, 3) := by decide +kernel
theorem d_G_handleReport_67 : decode b_G_handleReport 67 = .ok (.aload_n 0, 1) := by decide +kernel
theorem d_G_handleReport_68 : decode b_G_handleReport 68 = .ok (.aload_n 1, 1) := by decide +kernel
theorem d_G_handleReport_69 : decode b_G_handleReport 69 = .ok (.invokevirtual 200, 3) := by decide +kernel
theorem d_G_handleReport_72 : decode b_G_handleReport 72 = .ok (.goto 14, 3) := by decide +kernel
theorem d_G_handleReport_75 : decode b_G_handleReport 75 = .ok (.iload_n 3, 1) := by decide +kernel
theorem d_G_handleReport_76 : decode b_G_handleReport 76 = .ok (.bipush 100, 2) := by decide +kernel
theorem d_G_handleReport_78 : decode b_G_handleReport 78 = .ok (.if_icmp .ne 8, 3) := by decide +kernel
theorem d_G_handleReport_81 : decode b_G_handleReport 81 = .ok (.aload_n 1, 1) := by decide +kernel
theorem d_G_handleReport_82 : decode b_G_handleReport 82 = .ok (.iconst 1, 1) := by decide +kernel
theorem d_G_handleReport_83 : decode b_G_handleReport 83 = .ok (.putfield 118, 3) := by decide +kernel
theorem d_G_handleReport_86 : decode b_G_handleReport 86 = .ok (.return_, 1) := by decide +kernel
abbrev b_G_moveCore : ByteArray := prog_1_method_21_code
def y_G_moveCore : MethodName := ⟨"MergingFragments", "moveCore", "(LMergingFragments$Node;)V"⟩
theorem d_G_moveCore_0 : decode b_G_moveCore 0 = .ok (.aload_n 1, 1) := by decide +kernel
theorem d_G_moveCore_1 : decode b_G_moveCore 1 = .ok (.getfield 100, 3) := by decide +kernel
theorem d_G_moveCore_4 : decode b_G_moveCore 4 = .ok (.iconst (-1), 1) := by decide +kernel
theorem d_G_moveCore_5 : decode b_G_moveCore 5 = .ok (.if_icmp .ne 4, 3) := by decide +kernel
theorem d_G_moveCore_8 : decode b_G_moveCore 8 = .ok (.return_, 1) := by decide +kernel
theorem d_G_moveCore_9 : decode b_G_moveCore 9 = .ok (.aload_n 1, 1) := by decide +kernel
theorem d_G_moveCore_10 : decode b_G_moveCore 10 = .ok (.getfield 68, 3) := by decide +kernel
theorem d_G_moveCore_13 : decode b_G_moveCore 13 = .ok (.aload_n 1, 1) := by decide +kernel
theorem d_G_moveCore_14 : decode b_G_moveCore 14 = .ok (.getfield 100, 3) := by decide +kernel
theorem d_G_moveCore_17 : decode b_G_moveCore 17 = .ok (.iaload, 1) := by decide +kernel
theorem d_G_moveCore_18 : decode b_G_moveCore 18 = .ok (.iconst 1, 1) := by decide +kernel
theorem d_G_moveCore_19 : decode b_G_moveCore 19 = .ok (.if_icmp .ne 27, 3) := by decide +kernel
theorem d_G_moveCore_22 : decode b_G_moveCore 22 = .ok (.aload_n 0, 1) := by decide +kernel
theorem d_G_moveCore_23 : decode b_G_moveCore 23 = .ok (.aload_n 1, 1) := by decide +kernel
theorem d_G_moveCore_24 : decode b_G_moveCore 24 = .ok (.new 135, 3) := by decide +kernel
theorem d_G_moveCore_27 : decode b_G_moveCore 27 = .ok (.dup, 1) := by decide +kernel
theorem d_G_moveCore_28 : decode b_G_moveCore 28 = .ok (.bipush 6, 2) := by decide +kernel
theorem d_G_moveCore_30 : decode b_G_moveCore 30 = .ok (.aload_n 1, 1) := by decide +kernel
theorem d_G_moveCore_31 : decode b_G_moveCore 31 = .ok (.getfield 100, 3) := by decide +kernel
theorem d_G_moveCore_34 : decode b_G_moveCore 34 = .ok (.iconst 0, 1) := by decide +kernel
theorem d_G_moveCore_35 : decode b_G_moveCore 35 = .ok (.iconst 0, 1) := by decide +kernel
theorem d_G_moveCore_36 : decode b_G_moveCore 36 = .ok (.iconst 0, 1) := by decide +kernel
theorem d_G_moveCore_37 : decode b_G_moveCore 37 = .ok (.invokespecial 166, 3) := by decide +kernel
theorem d_G_moveCore_40 : decode b_G_moveCore 40 = .ok (.invokevirtual 169, 3) := by decide +kernel
theorem d_G_moveCore_43 : decode b_G_moveCore 43 = .ok (.goto 36, 3) := by decide +kernel
theorem d_G_moveCore_46 : decode b_G_moveCore 46 = .ok (.aload_n 0, 1) := by decide +kernel
theorem d_G_moveCore_47 : decode b_G_moveCore 47 = .ok (.aload_n 1, 1) := by decide +kernel
theorem d_G_moveCore_48 : decode b_G_moveCore 48 = .ok (.new 135, 3) := by decide +kernel
theorem d_G_moveCore_51 : decode b_G_moveCore 51 = .ok (.dup, 1) := by decide +kernel
theorem d_G_moveCore_52 : decode b_G_moveCore 52 = .ok (.iconst 0, 1) := by decide +kernel
theorem d_G_moveCore_53 : decode b_G_moveCore 53 = .ok (.aload_n 1, 1) := by decide +kernel
theorem d_G_moveCore_54 : decode b_G_moveCore 54 = .ok (.getfield 100, 3) := by decide +kernel
theorem d_G_moveCore_57 : decode b_G_moveCore 57 = .ok (.aload_n 1, 1) := by decide +kernel
theorem d_G_moveCore_58 : decode b_G_moveCore 58 = .ok (.getfield 88, 3) := by decide +kernel
theorem d_G_moveCore_61 : decode b_G_moveCore 61 = .ok (.iconst 0, 1) := by decide +kernel
theorem d_G_moveCore_62 : decode b_G_moveCore 62 = .ok (.iconst 0, 1) := by decide +kernel
theorem d_G_moveCore_63 : decode b_G_moveCore 63 = .ok (.invokespecial 166, 3) := by decide +kernel
theorem d_G_moveCore_66 : decode b_G_moveCore 66 = .ok (.invokevirtual 169, 3) := by decide +kernel
theorem d_G_moveCore_69 : decode b_G_moveCore 69 = .ok (.aload_n 1, 1) := by decide +kernel
theorem d_G_moveCore_70 : decode b_G_moveCore 70 = .ok (.getfield 68, 3) := by decide +kernel
theorem d_G_moveCore_73 : decode b_G_moveCore 73 = .ok (.aload_n 1, 1) := by decide +kernel
theorem d_G_moveCore_74 : decode b_G_moveCore 74 = .ok (.getfield 100, 3) := by decide +kernel
theorem d_G_moveCore_77 : decode b_G_moveCore 77 = .ok (.iconst 1, 1) := by decide +kernel
theorem d_G_moveCore_78 : decode b_G_moveCore 78 = .ok (.iastore, 1) := by decide +kernel
theorem d_G_moveCore_79 : decode b_G_moveCore 79 = .ok (.return_, 1) := by decide +kernel
abbrev b_L_run : ByteArray := method_7_code
def y_L_run : MethodName := ⟨"MergingFragmentsLaw", "run", "(LMergingFragments;II[J)I"⟩
theorem d_L_run_0 : decode b_L_run 0 = .ok (.aload_n 3, 1) := by decide +kernel
theorem d_L_run_1 : decode b_L_run 1 = .ok (.iconst 0, 1) := by decide +kernel
theorem d_L_run_2 : decode b_L_run 2 = .ok (.aload_n 0, 1) := by decide +kernel
theorem d_L_run_3 : decode b_L_run 3 = .ok (.iload_n 1, 1) := by decide +kernel
theorem d_L_run_4 : decode b_L_run 4 = .ok (.iload_n 2, 1) := by decide +kernel
theorem d_L_run_5 : decode b_L_run 5 = .ok (.invokevirtual 31, 3) := by decide +kernel
theorem d_L_run_8 : decode b_L_run 8 = .ok (.i2l, 1) := by decide +kernel
theorem d_L_run_9 : decode b_L_run 9 = .ok (.lastore, 1) := by decide +kernel
theorem d_L_run_10 : decode b_L_run 10 = .ok (.goto 11, 3) := by decide +kernel
theorem d_L_run_13 : decode b_L_run 13 = .ok (.astore 4, 2) := by decide +kernel
theorem d_L_run_15 : decode b_L_run 15 = .ok (.iconst 1, 1) := by decide +kernel
theorem d_L_run_16 : decode b_L_run 16 = .ok (.ireturn, 1) := by decide +kernel
theorem d_L_run_17 : decode b_L_run 17 = .ok (.astore 4, 2) := by decide +kernel
theorem d_L_run_19 : decode b_L_run 19 = .ok (.iconst 2, 1) := by decide +kernel
theorem d_L_run_20 : decode b_L_run 20 = .ok (.ireturn, 1) := by decide +kernel
theorem d_L_run_21 : decode b_L_run 21 = .ok (.iconst 0, 1) := by decide +kernel
theorem d_L_run_22 : decode b_L_run 22 = .ok (.ireturn, 1) := by decide +kernel
abbrev b_G_run : ByteArray := prog_1_method_6_code
def y_G_run : MethodName := ⟨"MergingFragments", "run", "(II)I"⟩
theorem d_G_run_0 : decode b_G_run 0 = .ok (.aload_n 0, 1) := by decide +kernel
theorem d_G_run_1 : decode b_G_run 1 = .ok (.iload_n 1, 1) := by decide +kernel
theorem d_G_run_2 : decode b_G_run 2 = .ok (.invokevirtual 48, 3) := by decide +kernel
theorem d_G_run_5 : decode b_G_run 5 = .ok (.iload_n 2, 1) := by decide +kernel
theorem d_G_run_6 : decode b_G_run 6 = .ok (.ifCond .lt 10, 3) := by decide +kernel
theorem d_G_run_9 : decode b_G_run 9 = .ok (.iload_n 2, 1) := by decide +kernel
theorem d_G_run_10 : decode b_G_run 10 = .ok (.sipush 999, 3) := by decide +kernel
theorem d_G_run_13 : decode b_G_run 13 = .ok (.if_icmp .le 13, 3) := by decide +kernel
theorem d_G_run_16 : decode b_G_run 16 = .ok (.new 38, 3) := by decide +kernel
theorem d_G_run_19 : decode b_G_run 19 = .ok (.dup, 1) := by decide +kernel
theorem d_G_run_20 : decode b_G_run 20 = .ok (.ldc 82, 2) := by decide +kernel
theorem d_G_run_22 : decode b_G_run 22 = .ok (.invokespecial 42, 3) := by decide +kernel
theorem d_G_run_25 : decode b_G_run 25 = .ok (.athrow, 1) := by decide +kernel
theorem d_G_run_26 : decode b_G_run 26 = .ok (.iconst 0, 1) := by decide +kernel
theorem d_G_run_27 : decode b_G_run 27 = .ok (.istore_n 3, 1) := by decide +kernel
theorem d_G_run_28 : decode b_G_run 28 = .ok (.iload_n 1, 1) := by decide +kernel
theorem d_G_run_29 : decode b_G_run 29 = .ok (.istore 4, 2) := by decide +kernel
theorem d_G_run_31 : decode b_G_run 31 = .ok (.iload_n 2, 1) := by decide +kernel
theorem d_G_run_32 : decode b_G_run 32 = .ok (.aload_n 0, 1) := by decide +kernel
theorem d_G_run_33 : decode b_G_run 33 = .ok (.getfield 25, 3) := by decide +kernel
theorem d_G_run_36 : decode b_G_run 36 = .ok (.imul, 1) := by decide +kernel
theorem d_G_run_37 : decode b_G_run 37 = .ok (.istore 5, 2) := by decide +kernel
theorem d_G_run_39 : decode b_G_run 39 = .ok (.iconst 0, 1) := by decide +kernel
theorem d_G_run_40 : decode b_G_run 40 = .ok (.istore 6, 2) := by decide +kernel
theorem d_G_run_42 : decode b_G_run 42 = .ok (.iload 6, 2) := by decide +kernel
theorem d_G_run_44 : decode b_G_run 44 = .ok (.iload 5, 2) := by decide +kernel
theorem d_G_run_46 : decode b_G_run 46 = .ok (.if_icmp .ge 60, 3) := by decide +kernel
theorem d_G_run_49 : decode b_G_run 49 = .ok (.iload_n 3, 1) := by decide +kernel
theorem d_G_run_50 : decode b_G_run 50 = .ok (.iload_n 2, 1) := by decide +kernel
theorem d_G_run_51 : decode b_G_run 51 = .ok (.if_icmp .ge 55, 3) := by decide +kernel
theorem d_G_run_54 : decode b_G_run 54 = .ok (.aload_n 0, 1) := by decide +kernel
theorem d_G_run_55 : decode b_G_run 55 = .ok (.invokevirtual 84, 3) := by decide +kernel
theorem d_G_run_58 : decode b_G_run 58 = .ok (.ifCond .le 48, 3) := by decide +kernel
theorem d_G_run_61 : decode b_G_run 61 = .ok (.aload_n 0, 1) := by decide +kernel
theorem d_G_run_62 : decode b_G_run 62 = .ok (.aload_n 0, 1) := by decide +kernel
theorem d_G_run_63 : decode b_G_run 63 = .ok (.getfield 11, 3) := by decide +kernel
theorem d_G_run_66 : decode b_G_run 66 = .ok (.iload 4, 2) := by decide +kernel
theorem d_G_run_68 : decode b_G_run 68 = .ok (.aaload, 1) := by decide +kernel
theorem d_G_run_69 : decode b_G_run 69 = .ok (.invokevirtual 78, 3) := by decide +kernel
theorem d_G_run_72 : decode b_G_run 72 = .ok (.iconst (-1), 1) := by decide +kernel
theorem d_G_run_73 : decode b_G_run 73 = .ok (.if_icmp .eq 6, 3) := by decide +kernel
theorem d_G_run_76 : decode b_G_run 76 = .ok (.iinc 3 1, 3) := by decide +kernel
theorem d_G_run_79 : decode b_G_run 79 = .ok (.iload 4, 2) := by decide +kernel
theorem d_G_run_81 : decode b_G_run 81 = .ok (.iconst 1, 1) := by decide +kernel
theorem d_G_run_82 : decode b_G_run 82 = .ok (.iadd, 1) := by decide +kernel
theorem d_G_run_83 : decode b_G_run 83 = .ok (.aload_n 0, 1) := by decide +kernel
theorem d_G_run_84 : decode b_G_run 84 = .ok (.getfield 25, 3) := by decide +kernel
theorem d_G_run_87 : decode b_G_run 87 = .ok (.if_icmp .ge 10, 3) := by decide +kernel
theorem d_G_run_90 : decode b_G_run 90 = .ok (.iload 4, 2) := by decide +kernel
theorem d_G_run_92 : decode b_G_run 92 = .ok (.iconst 1, 1) := by decide +kernel
theorem d_G_run_93 : decode b_G_run 93 = .ok (.iadd, 1) := by decide +kernel
theorem d_G_run_94 : decode b_G_run 94 = .ok (.goto 4, 3) := by decide +kernel
theorem d_G_run_97 : decode b_G_run 97 = .ok (.iconst 0, 1) := by decide +kernel
theorem d_G_run_98 : decode b_G_run 98 = .ok (.istore 4, 2) := by decide +kernel
theorem d_G_run_100 : decode b_G_run 100 = .ok (.iinc 6 1, 3) := by decide +kernel
theorem d_G_run_103 : decode b_G_run 103 = .ok (.goto (-61), 3) := by decide +kernel
theorem d_G_run_106 : decode b_G_run 106 = .ok (.iload_n 3, 1) := by decide +kernel
theorem d_G_run_107 : decode b_G_run 107 = .ok (.ireturn, 1) := by decide +kernel
abbrev b_L_about : ByteArray := method_8_code
def y_L_about : MethodName := ⟨"MergingFragmentsLaw", "about", "(LMergingFragments;II[J)I"⟩
theorem d_L_about_0 : decode b_L_about 0 = .ok (.aload_n 3, 1) := by decide +kernel
theorem d_L_about_1 : decode b_L_about 1 = .ok (.iconst 0, 1) := by decide +kernel
theorem d_L_about_2 : decode b_L_about 2 = .ok (.aload_n 0, 1) := by decide +kernel
theorem d_L_about_3 : decode b_L_about 3 = .ok (.iload_n 1, 1) := by decide +kernel
theorem d_L_about_4 : decode b_L_about 4 = .ok (.iload_n 2, 1) := by decide +kernel
theorem d_L_about_5 : decode b_L_about 5 = .ok (.invokevirtual 35, 3) := by decide +kernel
theorem d_L_about_8 : decode b_L_about 8 = .ok (.i2l, 1) := by decide +kernel
theorem d_L_about_9 : decode b_L_about 9 = .ok (.lastore, 1) := by decide +kernel
theorem d_L_about_10 : decode b_L_about 10 = .ok (.goto 11, 3) := by decide +kernel
theorem d_L_about_13 : decode b_L_about 13 = .ok (.astore 4, 2) := by decide +kernel
theorem d_L_about_15 : decode b_L_about 15 = .ok (.iconst 1, 1) := by decide +kernel
theorem d_L_about_16 : decode b_L_about 16 = .ok (.ireturn, 1) := by decide +kernel
theorem d_L_about_17 : decode b_L_about 17 = .ok (.astore 4, 2) := by decide +kernel
theorem d_L_about_19 : decode b_L_about 19 = .ok (.iconst 2, 1) := by decide +kernel
theorem d_L_about_20 : decode b_L_about 20 = .ok (.ireturn, 1) := by decide +kernel
theorem d_L_about_21 : decode b_L_about 21 = .ok (.iconst 0, 1) := by decide +kernel
theorem d_L_about_22 : decode b_L_about 22 = .ok (.ireturn, 1) := by decide +kernel
abbrev b_G_about : ByteArray := prog_1_method_7_code
def y_G_about : MethodName := ⟨"MergingFragments", "about", "(II)I"⟩
theorem d_G_about_0 : decode b_G_about 0 = .ok (.aload_n 0, 1) := by decide +kernel
theorem d_G_about_1 : decode b_G_about 1 = .ok (.iload_n 1, 1) := by decide +kernel
theorem d_G_about_2 : decode b_G_about 2 = .ok (.invokevirtual 48, 3) := by decide +kernel
theorem d_G_about_5 : decode b_G_about 5 = .ok (.aload_n 0, 1) := by decide +kernel
theorem d_G_about_6 : decode b_G_about 6 = .ok (.getfield 11, 3) := by decide +kernel
theorem d_G_about_9 : decode b_G_about 9 = .ok (.iload_n 1, 1) := by decide +kernel
theorem d_G_about_10 : decode b_G_about 10 = .ok (.aaload, 1) := by decide +kernel
theorem d_G_about_11 : decode b_G_about 11 = .ok (.astore_n 3, 1) := by decide +kernel
theorem d_G_about_12 : decode b_G_about 12 = .ok (.iload_n 2, 1) := by decide +kernel
theorem d_G_about_13 : decode b_G_about 13 = .ok (.tableswitch 116 0 9 #[55, 60, 65, 70, 75, 80, 85, 90, 95, 103], 55) := by decide +kernel
theorem d_G_about_68 : decode b_G_about 68 = .ok (.aload_n 3, 1) := by decide +kernel
theorem d_G_about_69 : decode b_G_about 69 = .ok (.getfield 71, 3) := by decide +kernel
theorem d_G_about_72 : decode b_G_about 72 = .ok (.ireturn, 1) := by decide +kernel
theorem d_G_about_73 : decode b_G_about 73 = .ok (.aload_n 3, 1) := by decide +kernel
theorem d_G_about_74 : decode b_G_about 74 = .ok (.getfield 88, 3) := by decide +kernel
theorem d_G_about_77 : decode b_G_about 77 = .ok (.ireturn, 1) := by decide +kernel
theorem d_G_about_78 : decode b_G_about 78 = .ok (.aload_n 3, 1) := by decide +kernel
theorem d_G_about_79 : decode b_G_about 79 = .ok (.getfield 91, 3) := by decide +kernel
theorem d_G_about_82 : decode b_G_about 82 = .ok (.ireturn, 1) := by decide +kernel
theorem d_G_about_83 : decode b_G_about 83 = .ok (.aload_n 3, 1) := by decide +kernel
theorem d_G_about_84 : decode b_G_about 84 = .ok (.getfield 94, 3) := by decide +kernel
theorem d_G_about_87 : decode b_G_about 87 = .ok (.ireturn, 1) := by decide +kernel
theorem d_G_about_88 : decode b_G_about 88 = .ok (.aload_n 3, 1) := by decide +kernel
theorem d_G_about_89 : decode b_G_about 89 = .ok (.getfield 97, 3) := by decide +kernel
theorem d_G_about_92 : decode b_G_about 92 = .ok (.ireturn, 1) := by decide +kernel
theorem d_G_about_93 : decode b_G_about 93 = .ok (.aload_n 3, 1) := by decide +kernel
theorem d_G_about_94 : decode b_G_about 94 = .ok (.getfield 100, 3) := by decide +kernel
theorem d_G_about_97 : decode b_G_about 97 = .ok (.ireturn, 1) := by decide +kernel
theorem d_G_about_98 : decode b_G_about 98 = .ok (.aload_n 3, 1) := by decide +kernel
theorem d_G_about_99 : decode b_G_about 99 = .ok (.getfield 103, 3) := by decide +kernel
theorem d_G_about_102 : decode b_G_about 102 = .ok (.ireturn, 1) := by decide +kernel
theorem d_G_about_103 : decode b_G_about 103 = .ok (.aload_n 3, 1) := by decide +kernel
theorem d_G_about_104 : decode b_G_about 104 = .ok (.getfield 106, 3) := by decide +kernel
theorem d_G_about_107 : decode b_G_about 107 = .ok (.ireturn, 1) := by decide +kernel
theorem d_G_about_108 : decode b_G_about 108 = .ok (.aload_n 3, 1) := by decide +kernel
theorem d_G_about_109 : decode b_G_about 109 = .ok (.getfield 109, 3) := by decide +kernel
theorem d_G_about_112 : decode b_G_about 112 = .ok (.invokevirtual 113, 3) := by decide +kernel
theorem d_G_about_115 : decode b_G_about 115 = .ok (.ireturn, 1) := by decide +kernel
theorem d_G_about_116 : decode b_G_about 116 = .ok (.aload_n 3, 1) := by decide +kernel
theorem d_G_about_117 : decode b_G_about 117 = .ok (.getfield 118, 3) := by decide +kernel
theorem d_G_about_120 : decode b_G_about 120 = .ok (.ifCond .eq 7, 3) := by decide +kernel
theorem d_G_about_123 : decode b_G_about 123 = .ok (.iconst 1, 1) := by decide +kernel
theorem d_G_about_124 : decode b_G_about 124 = .ok (.goto 4, 3) := by decide +kernel
theorem d_G_about_127 : decode b_G_about 127 = .ok (.iconst 0, 1) := by decide +kernel
theorem d_G_about_128 : decode b_G_about 128 = .ok (.ireturn, 1) := by decide +kernel
theorem d_G_about_129 : decode b_G_about 129 = .ok (.new 38, 3) := by decide +kernel
theorem d_G_about_132 : decode b_G_about 132 = .ok (.dup, 1) := by decide +kernel
theorem d_G_about_133 : decode b_G_about 133 = .ok (.ldc 122, 2) := by decide +kernel
theorem d_G_about_135 : decode b_G_about 135 = .ok (.invokespecial 42, 3) := by decide +kernel
theorem d_G_about_138 : decode b_G_about 138 = .ok (.athrow, 1) := by decide +kernel
abbrev b_L_mark : ByteArray := method_9_code
def y_L_mark : MethodName := ⟨"MergingFragmentsLaw", "mark", "(LMergingFragments;II[J)I"⟩
theorem d_L_mark_0 : decode b_L_mark 0 = .ok (.aload_n 3, 1) := by decide +kernel
theorem d_L_mark_1 : decode b_L_mark 1 = .ok (.iconst 0, 1) := by decide +kernel
theorem d_L_mark_2 : decode b_L_mark 2 = .ok (.aload_n 0, 1) := by decide +kernel
theorem d_L_mark_3 : decode b_L_mark 3 = .ok (.iload_n 1, 1) := by decide +kernel
theorem d_L_mark_4 : decode b_L_mark 4 = .ok (.iload_n 2, 1) := by decide +kernel
theorem d_L_mark_5 : decode b_L_mark 5 = .ok (.invokevirtual 38, 3) := by decide +kernel
theorem d_L_mark_8 : decode b_L_mark 8 = .ok (.i2l, 1) := by decide +kernel
theorem d_L_mark_9 : decode b_L_mark 9 = .ok (.lastore, 1) := by decide +kernel
theorem d_L_mark_10 : decode b_L_mark 10 = .ok (.goto 7, 3) := by decide +kernel
theorem d_L_mark_13 : decode b_L_mark 13 = .ok (.astore 4, 2) := by decide +kernel
theorem d_L_mark_15 : decode b_L_mark 15 = .ok (.iconst 1, 1) := by decide +kernel
theorem d_L_mark_16 : decode b_L_mark 16 = .ok (.ireturn, 1) := by decide +kernel
theorem d_L_mark_17 : decode b_L_mark 17 = .ok (.iconst 0, 1) := by decide +kernel
theorem d_L_mark_18 : decode b_L_mark 18 = .ok (.ireturn, 1) := by decide +kernel
abbrev b_G_mark : ByteArray := prog_1_method_8_code
def y_G_mark : MethodName := ⟨"MergingFragments", "mark", "(II)I"⟩
theorem d_G_mark_0 : decode b_G_mark 0 = .ok (.aload_n 0, 1) := by decide +kernel
theorem d_G_mark_1 : decode b_G_mark 1 = .ok (.iload_n 1, 1) := by decide +kernel
theorem d_G_mark_2 : decode b_G_mark 2 = .ok (.invokevirtual 48, 3) := by decide +kernel
theorem d_G_mark_5 : decode b_G_mark 5 = .ok (.iload_n 2, 1) := by decide +kernel
theorem d_G_mark_6 : decode b_G_mark 6 = .ok (.ifCond .lt 11, 3) := by decide +kernel
theorem d_G_mark_9 : decode b_G_mark 9 = .ok (.iload_n 2, 1) := by decide +kernel
theorem d_G_mark_10 : decode b_G_mark 10 = .ok (.aload_n 0, 1) := by decide +kernel
theorem d_G_mark_11 : decode b_G_mark 11 = .ok (.getfield 29, 3) := by decide +kernel
theorem d_G_mark_14 : decode b_G_mark 14 = .ok (.if_icmp .lt 13, 3) := by decide +kernel
theorem d_G_mark_17 : decode b_G_mark 17 = .ok (.new 124, 3) := by decide +kernel
theorem d_G_mark_20 : decode b_G_mark 20 = .ok (.dup, 1) := by decide +kernel
theorem d_G_mark_21 : decode b_G_mark 21 = .ok (.ldc 126, 2) := by decide +kernel
theorem d_G_mark_23 : decode b_G_mark 23 = .ok (.invokespecial 128, 3) := by decide +kernel
theorem d_G_mark_26 : decode b_G_mark 26 = .ok (.athrow, 1) := by decide +kernel
theorem d_G_mark_27 : decode b_G_mark 27 = .ok (.aload_n 0, 1) := by decide +kernel
theorem d_G_mark_28 : decode b_G_mark 28 = .ok (.getfield 11, 3) := by decide +kernel
theorem d_G_mark_31 : decode b_G_mark 31 = .ok (.iload_n 1, 1) := by decide +kernel
theorem d_G_mark_32 : decode b_G_mark 32 = .ok (.aaload, 1) := by decide +kernel
theorem d_G_mark_33 : decode b_G_mark 33 = .ok (.getfield 68, 3) := by decide +kernel
theorem d_G_mark_36 : decode b_G_mark 36 = .ok (.iload_n 2, 1) := by decide +kernel
theorem d_G_mark_37 : decode b_G_mark 37 = .ok (.iaload, 1) := by decide +kernel
theorem d_G_mark_38 : decode b_G_mark 38 = .ok (.ireturn, 1) := by decide +kernel
abbrev b_L_message : ByteArray := method_10_code
def y_L_message : MethodName := ⟨"MergingFragmentsLaw", "message", "(LMergingFragments;III[J)I"⟩
theorem d_L_message_0 : decode b_L_message 0 = .ok (.aload 4, 2) := by decide +kernel
theorem d_L_message_2 : decode b_L_message 2 = .ok (.iconst 0, 1) := by decide +kernel
theorem d_L_message_3 : decode b_L_message 3 = .ok (.aload_n 0, 1) := by decide +kernel
theorem d_L_message_4 : decode b_L_message 4 = .ok (.iload_n 1, 1) := by decide +kernel
theorem d_L_message_5 : decode b_L_message 5 = .ok (.iload_n 2, 1) := by decide +kernel
theorem d_L_message_6 : decode b_L_message 6 = .ok (.iload_n 3, 1) := by decide +kernel
theorem d_L_message_7 : decode b_L_message 7 = .ok (.invokevirtual 41, 3) := by decide +kernel
theorem d_L_message_10 : decode b_L_message 10 = .ok (.i2l, 1) := by decide +kernel
theorem d_L_message_11 : decode b_L_message 11 = .ok (.lastore, 1) := by decide +kernel
theorem d_L_message_12 : decode b_L_message 12 = .ok (.goto 11, 3) := by decide +kernel
theorem d_L_message_15 : decode b_L_message 15 = .ok (.astore 5, 2) := by decide +kernel
theorem d_L_message_17 : decode b_L_message 17 = .ok (.iconst 1, 1) := by decide +kernel
theorem d_L_message_18 : decode b_L_message 18 = .ok (.ireturn, 1) := by decide +kernel
theorem d_L_message_19 : decode b_L_message 19 = .ok (.astore 5, 2) := by decide +kernel
theorem d_L_message_21 : decode b_L_message 21 = .ok (.iconst 2, 1) := by decide +kernel
theorem d_L_message_22 : decode b_L_message 22 = .ok (.ireturn, 1) := by decide +kernel
theorem d_L_message_23 : decode b_L_message 23 = .ok (.iconst 0, 1) := by decide +kernel
theorem d_L_message_24 : decode b_L_message 24 = .ok (.ireturn, 1) := by decide +kernel
abbrev b_G_message : ByteArray := prog_1_method_9_code
def y_G_message : MethodName := ⟨"MergingFragments", "message", "(III)I"⟩
theorem d_G_message_0 : decode b_G_message 0 = .ok (.aload_n 0, 1) := by decide +kernel
theorem d_G_message_1 : decode b_G_message 1 = .ok (.iload_n 1, 1) := by decide +kernel
theorem d_G_message_2 : decode b_G_message 2 = .ok (.invokevirtual 48, 3) := by decide +kernel
theorem d_G_message_5 : decode b_G_message 5 = .ok (.aload_n 0, 1) := by decide +kernel
theorem d_G_message_6 : decode b_G_message 6 = .ok (.getfield 11, 3) := by decide +kernel
theorem d_G_message_9 : decode b_G_message 9 = .ok (.iload_n 1, 1) := by decide +kernel
theorem d_G_message_10 : decode b_G_message 10 = .ok (.aaload, 1) := by decide +kernel
theorem d_G_message_11 : decode b_G_message 11 = .ok (.getfield 109, 3) := by decide +kernel
theorem d_G_message_14 : decode b_G_message 14 = .ok (.astore 4, 2) := by decide +kernel
theorem d_G_message_16 : decode b_G_message 16 = .ok (.iload_n 2, 1) := by decide +kernel
theorem d_G_message_17 : decode b_G_message 17 = .ok (.ifCond .lt 12, 3) := by decide +kernel
theorem d_G_message_20 : decode b_G_message 20 = .ok (.iload_n 2, 1) := by decide +kernel
theorem d_G_message_21 : decode b_G_message 21 = .ok (.aload 4, 2) := by decide +kernel
theorem d_G_message_23 : decode b_G_message 23 = .ok (.invokevirtual 113, 3) := by decide +kernel
theorem d_G_message_26 : decode b_G_message 26 = .ok (.if_icmp .lt 13, 3) := by decide +kernel
theorem d_G_message_29 : decode b_G_message 29 = .ok (.new 124, 3) := by decide +kernel
theorem d_G_message_32 : decode b_G_message 32 = .ok (.dup, 1) := by decide +kernel
theorem d_G_message_33 : decode b_G_message 33 = .ok (.ldc 129, 2) := by decide +kernel
theorem d_G_message_35 : decode b_G_message 35 = .ok (.invokespecial 128, 3) := by decide +kernel
theorem d_G_message_38 : decode b_G_message 38 = .ok (.athrow, 1) := by decide +kernel
theorem d_G_message_39 : decode b_G_message 39 = .ok (.aload 4, 2) := by decide +kernel
theorem d_G_message_41 : decode b_G_message 41 = .ok (.iload_n 2, 1) := by decide +kernel
theorem d_G_message_42 : decode b_G_message 42 = .ok (.invokevirtual 131, 3) := by decide +kernel
theorem d_G_message_45 : decode b_G_message 45 = .ok (.checkcast 135, 3) := by decide +kernel
theorem d_G_message_48 : decode b_G_message 48 = .ok (.astore 5, 2) := by decide +kernel
theorem d_G_message_50 : decode b_G_message 50 = .ok (.iload_n 3, 1) := by decide +kernel
theorem d_G_message_51 : decode b_G_message 51 = .ok (.tableswitch 63 0 4 #[33, 39, 45, 51, 57], 33) := by decide +kernel
theorem d_G_message_84 : decode b_G_message 84 = .ok (.aload 5, 2) := by decide +kernel
theorem d_G_message_86 : decode b_G_message 86 = .ok (.invokevirtual 137, 3) := by decide +kernel
theorem d_G_message_89 : decode b_G_message 89 = .ok (.ireturn, 1) := by decide +kernel
theorem d_G_message_90 : decode b_G_message 90 = .ok (.aload 5, 2) := by decide +kernel
theorem d_G_message_92 : decode b_G_message 92 = .ok (.invokevirtual 140, 3) := by decide +kernel
theorem d_G_message_95 : decode b_G_message 95 = .ok (.ireturn, 1) := by decide +kernel
theorem d_G_message_96 : decode b_G_message 96 = .ok (.aload 5, 2) := by decide +kernel
theorem d_G_message_98 : decode b_G_message 98 = .ok (.invokevirtual 143, 3) := by decide +kernel
theorem d_G_message_101 : decode b_G_message 101 = .ok (.ireturn, 1) := by decide +kernel
theorem d_G_message_102 : decode b_G_message 102 = .ok (.aload 5, 2) := by decide +kernel
theorem d_G_message_104 : decode b_G_message 104 = .ok (.invokevirtual 146, 3) := by decide +kernel
theorem d_G_message_107 : decode b_G_message 107 = .ok (.ireturn, 1) := by decide +kernel
theorem d_G_message_108 : decode b_G_message 108 = .ok (.aload 5, 2) := by decide +kernel
theorem d_G_message_110 : decode b_G_message 110 = .ok (.invokevirtual 149, 3) := by decide +kernel
theorem d_G_message_113 : decode b_G_message 113 = .ok (.ireturn, 1) := by decide +kernel
theorem d_G_message_114 : decode b_G_message 114 = .ok (.new 38, 3) := by decide +kernel
theorem d_G_message_117 : decode b_G_message 117 = .ok (.dup, 1) := by decide +kernel
theorem d_G_message_118 : decode b_G_message 118 = .ok (.ldc 152, 2) := by decide +kernel
theorem d_G_message_120 : decode b_G_message 120 = .ok (.invokespecial 42, 3) := by decide +kernel
theorem d_G_message_123 : decode b_G_message 123 = .ok (.athrow, 1) := by decide +kernel
abbrev b_A_get : ByteArray := prog_21_method_20_code
def y_A_get : MethodName := ⟨"java/util/ArrayList", "get", "(I)Ljava/lang/Object;"⟩
theorem d_A_get_0 : decode b_A_get 0 = .ok (.iload_n 1, 1) := by decide +kernel
theorem d_A_get_1 : decode b_A_get 1 = .ok (.aload_n 0, 1) := by decide +kernel
theorem d_A_get_2 : decode b_A_get 2 = .ok (.getfield 48, 3) := by decide +kernel
theorem d_A_get_5 : decode b_A_get 5 = .ok (.invokestatic 118, 3) := by decide +kernel
theorem d_A_get_8 : decode b_A_get 8 = .ok (.pop, 1) := by decide +kernel
theorem d_A_get_9 : decode b_A_get 9 = .ok (.aload_n 0, 1) := by decide +kernel
theorem d_A_get_10 : decode b_A_get 10 = .ok (.iload_n 1, 1) := by decide +kernel
theorem d_A_get_11 : decode b_A_get 11 = .ok (.invokevirtual 123, 3) := by decide +kernel
theorem d_A_get_14 : decode b_A_get 14 = .ok (.areturn, 1) := by decide +kernel
abbrev b_A_elementData : ByteArray := prog_21_method_18_code
def y_A_elementData : MethodName := ⟨"java/util/ArrayList", "elementData", "(I)Ljava/lang/Object;"⟩
theorem d_A_elementData_0 : decode b_A_elementData 0 = .ok (.aload_n 0, 1) := by decide +kernel
theorem d_A_elementData_1 : decode b_A_elementData 1 = .ok (.getfield 9, 3) := by decide +kernel
theorem d_A_elementData_4 : decode b_A_elementData 4 = .ok (.iload_n 1, 1) := by decide +kernel
theorem d_A_elementData_5 : decode b_A_elementData 5 = .ok (.aaload, 1) := by decide +kernel
theorem d_A_elementData_6 : decode b_A_elementData 6 = .ok (.areturn, 1) := by decide +kernel
abbrev b_R_init : ByteArray := prog_5_method_1_code
def y_R_init : MethodName := ⟨"MergingFragmentsModel", "<init>", "()V"⟩
theorem d_R_init_0 : decode b_R_init 0 = .ok (.aload_n 0, 1) := by decide +kernel
theorem d_R_init_1 : decode b_R_init 1 = .ok (.invokespecial 1, 3) := by decide +kernel
theorem d_R_init_4 : decode b_R_init 4 = .ok (.aload_n 0, 1) := by decide +kernel
theorem d_R_init_5 : decode b_R_init 5 = .ok (.bipush 24, 2) := by decide +kernel
theorem d_R_init_7 : decode b_R_init 7 = .ok (.newarray .int, 2) := by decide +kernel
theorem d_R_init_9 : decode b_R_init 9 = .ok (.putfield 7, 3) := by decide +kernel
theorem d_R_init_12 : decode b_R_init 12 = .ok (.aload_n 0, 1) := by decide +kernel
theorem d_R_init_13 : decode b_R_init 13 = .ok (.bipush 12, 2) := by decide +kernel
theorem d_R_init_15 : decode b_R_init 15 = .ok (.newarray .int, 2) := by decide +kernel
theorem d_R_init_17 : decode b_R_init 17 = .ok (.putfield 13, 3) := by decide +kernel
theorem d_R_init_20 : decode b_R_init 20 = .ok (.aload_n 0, 1) := by decide +kernel
theorem d_R_init_21 : decode b_R_init 21 = .ok (.bipush 24, 2) := by decide +kernel
theorem d_R_init_23 : decode b_R_init 23 = .ok (.newarray .int, 2) := by decide +kernel
theorem d_R_init_25 : decode b_R_init 25 = .ok (.putfield 16, 3) := by decide +kernel
theorem d_R_init_28 : decode b_R_init 28 = .ok (.aload_n 0, 1) := by decide +kernel
theorem d_R_init_29 : decode b_R_init 29 = .ok (.bipush 7, 2) := by decide +kernel
theorem d_R_init_31 : decode b_R_init 31 = .ok (.newarray .int, 2) := by decide +kernel
theorem d_R_init_33 : decode b_R_init 33 = .ok (.putfield 19, 3) := by decide +kernel
theorem d_R_init_36 : decode b_R_init 36 = .ok (.aload_n 0, 1) := by decide +kernel
theorem d_R_init_37 : decode b_R_init 37 = .ok (.bipush 7, 2) := by decide +kernel
theorem d_R_init_39 : decode b_R_init 39 = .ok (.newarray .int, 2) := by decide +kernel
theorem d_R_init_41 : decode b_R_init 41 = .ok (.putfield 22, 3) := by decide +kernel
theorem d_R_init_44 : decode b_R_init 44 = .ok (.aload_n 0, 1) := by decide +kernel
theorem d_R_init_45 : decode b_R_init 45 = .ok (.bipush 7, 2) := by decide +kernel
theorem d_R_init_47 : decode b_R_init 47 = .ok (.newarray .int, 2) := by decide +kernel
theorem d_R_init_49 : decode b_R_init 49 = .ok (.putfield 25, 3) := by decide +kernel
theorem d_R_init_52 : decode b_R_init 52 = .ok (.aload_n 0, 1) := by decide +kernel
theorem d_R_init_53 : decode b_R_init 53 = .ok (.bipush 7, 2) := by decide +kernel
theorem d_R_init_55 : decode b_R_init 55 = .ok (.newarray .int, 2) := by decide +kernel
theorem d_R_init_57 : decode b_R_init 57 = .ok (.putfield 28, 3) := by decide +kernel
theorem d_R_init_60 : decode b_R_init 60 = .ok (.aload_n 0, 1) := by decide +kernel
theorem d_R_init_61 : decode b_R_init 61 = .ok (.bipush 7, 2) := by decide +kernel
theorem d_R_init_63 : decode b_R_init 63 = .ok (.newarray .int, 2) := by decide +kernel
theorem d_R_init_65 : decode b_R_init 65 = .ok (.putfield 31, 3) := by decide +kernel
theorem d_R_init_68 : decode b_R_init 68 = .ok (.aload_n 0, 1) := by decide +kernel
theorem d_R_init_69 : decode b_R_init 69 = .ok (.bipush 7, 2) := by decide +kernel
theorem d_R_init_71 : decode b_R_init 71 = .ok (.newarray .int, 2) := by decide +kernel
theorem d_R_init_73 : decode b_R_init 73 = .ok (.putfield 34, 3) := by decide +kernel
theorem d_R_init_76 : decode b_R_init 76 = .ok (.aload_n 0, 1) := by decide +kernel
theorem d_R_init_77 : decode b_R_init 77 = .ok (.bipush 7, 2) := by decide +kernel
theorem d_R_init_79 : decode b_R_init 79 = .ok (.newarray .int, 2) := by decide +kernel
theorem d_R_init_81 : decode b_R_init 81 = .ok (.putfield 37, 3) := by decide +kernel
theorem d_R_init_84 : decode b_R_init 84 = .ok (.aload_n 0, 1) := by decide +kernel
theorem d_R_init_85 : decode b_R_init 85 = .ok (.bipush 7, 2) := by decide +kernel
theorem d_R_init_87 : decode b_R_init 87 = .ok (.newarray .int, 2) := by decide +kernel
theorem d_R_init_89 : decode b_R_init 89 = .ok (.putfield 40, 3) := by decide +kernel
theorem d_R_init_92 : decode b_R_init 92 = .ok (.aload_n 0, 1) := by decide +kernel
theorem d_R_init_93 : decode b_R_init 93 = .ok (.bipush 7, 2) := by decide +kernel
theorem d_R_init_95 : decode b_R_init 95 = .ok (.newarray .boolean, 2) := by decide +kernel
theorem d_R_init_97 : decode b_R_init 97 = .ok (.putfield 43, 3) := by decide +kernel
theorem d_R_init_100 : decode b_R_init 100 = .ok (.aload_n 0, 1) := by decide +kernel
theorem d_R_init_101 : decode b_R_init 101 = .ok (.bipush 7, 2) := by decide +kernel
theorem d_R_init_103 : decode b_R_init 103 = .ok (.newarray .int, 2) := by decide +kernel
theorem d_R_init_105 : decode b_R_init 105 = .ok (.putfield 47, 3) := by decide +kernel
theorem d_R_init_108 : decode b_R_init 108 = .ok (.aload_n 0, 1) := by decide +kernel
theorem d_R_init_109 : decode b_R_init 109 = .ok (.bipush 7, 2) := by decide +kernel
theorem d_R_init_111 : decode b_R_init 111 = .ok (.newarray .int, 2) := by decide +kernel
theorem d_R_init_113 : decode b_R_init 113 = .ok (.putfield 50, 3) := by decide +kernel
theorem d_R_init_116 : decode b_R_init 116 = .ok (.aload_n 0, 1) := by decide +kernel
theorem d_R_init_117 : decode b_R_init 117 = .ok (.sipush 1400, 3) := by decide +kernel
theorem d_R_init_120 : decode b_R_init 120 = .ok (.newarray .int, 2) := by decide +kernel
theorem d_R_init_122 : decode b_R_init 122 = .ok (.putfield 53, 3) := by decide +kernel
theorem d_R_init_125 : decode b_R_init 125 = .ok (.aload_n 0, 1) := by decide +kernel
theorem d_R_init_126 : decode b_R_init 126 = .ok (.sipush 1400, 3) := by decide +kernel
theorem d_R_init_129 : decode b_R_init 129 = .ok (.newarray .int, 2) := by decide +kernel
theorem d_R_init_131 : decode b_R_init 131 = .ok (.putfield 56, 3) := by decide +kernel
theorem d_R_init_134 : decode b_R_init 134 = .ok (.aload_n 0, 1) := by decide +kernel
theorem d_R_init_135 : decode b_R_init 135 = .ok (.sipush 1400, 3) := by decide +kernel
theorem d_R_init_138 : decode b_R_init 138 = .ok (.newarray .int, 2) := by decide +kernel
theorem d_R_init_140 : decode b_R_init 140 = .ok (.putfield 59, 3) := by decide +kernel
theorem d_R_init_143 : decode b_R_init 143 = .ok (.aload_n 0, 1) := by decide +kernel
theorem d_R_init_144 : decode b_R_init 144 = .ok (.sipush 1400, 3) := by decide +kernel
theorem d_R_init_147 : decode b_R_init 147 = .ok (.newarray .int, 2) := by decide +kernel
theorem d_R_init_149 : decode b_R_init 149 = .ok (.putfield 62, 3) := by decide +kernel
theorem d_R_init_152 : decode b_R_init 152 = .ok (.aload_n 0, 1) := by decide +kernel
theorem d_R_init_153 : decode b_R_init 153 = .ok (.sipush 1400, 3) := by decide +kernel
theorem d_R_init_156 : decode b_R_init 156 = .ok (.newarray .int, 2) := by decide +kernel
theorem d_R_init_158 : decode b_R_init 158 = .ok (.putfield 65, 3) := by decide +kernel
theorem d_R_init_161 : decode b_R_init 161 = .ok (.return_, 1) := by decide +kernel
