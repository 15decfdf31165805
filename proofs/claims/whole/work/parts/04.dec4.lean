/-! Method names and decoded instructions, by program (wip/mk07.py). -/
abbrev b_R_reject : ByteArray := prog_5_method_17_code
def y_R_reject : MethodName := ⟨"MergingFragmentsModel", "reject", "(II)V"⟩
theorem d_R_reject_0 : decode b_R_reject 0 = .ok (.aload_n 0, 1) := by decide +kernel
theorem d_R_reject_1 : decode b_R_reject 1 = .ok (.iload_n 1, 1) := by decide +kernel
theorem d_R_reject_2 : decode b_R_reject 2 = .ok (.iload_n 2, 1) := by decide +kernel
theorem d_R_reject_3 : decode b_R_reject 3 = .ok (.invokevirtual 85, 3) := by decide +kernel
theorem d_R_reject_6 : decode b_R_reject 6 = .ok (.istore_n 3, 1) := by decide +kernel
theorem d_R_reject_7 : decode b_R_reject 7 = .ok (.aload_n 0, 1) := by decide +kernel
theorem d_R_reject_8 : decode b_R_reject 8 = .ok (.getfield 16, 3) := by decide +kernel
theorem d_R_reject_11 : decode b_R_reject 11 = .ok (.iload_n 3, 1) := by decide +kernel
theorem d_R_reject_12 : decode b_R_reject 12 = .ok (.iaload, 1) := by decide +kernel
theorem d_R_reject_13 : decode b_R_reject 13 = .ok (.ifCond .ne 10, 3) := by decide +kernel
theorem d_R_reject_16 : decode b_R_reject 16 = .ok (.aload_n 0, 1) := by decide +kernel
theorem d_R_reject_17 : decode b_R_reject 17 = .ok (.getfield 16, 3) := by decide +kernel
theorem d_R_reject_20 : decode b_R_reject 20 = .ok (.iload_n 3, 1) := by decide +kernel
theorem d_R_reject_21 : decode b_R_reject 21 = .ok (.iconst 2, 1) := by decide +kernel
theorem d_R_reject_22 : decode b_R_reject 22 = .ok (.iastore, 1) := by decide +kernel
theorem d_R_reject_23 : decode b_R_reject 23 = .ok (.return_, 1) := by decide +kernel
abbrev b_R_offer : ByteArray := prog_5_method_19_code
def y_R_offer : MethodName := ⟨"MergingFragmentsModel", "offer", "(III)V"⟩
theorem d_R_offer_0 : decode b_R_offer 0 = .ok (.iload_n 3, 1) := by decide +kernel
theorem d_R_offer_1 : decode b_R_offer 1 = .ok (.aload_n 0, 1) := by decide +kernel
theorem d_R_offer_2 : decode b_R_offer 2 = .ok (.getfield 37, 3) := by decide +kernel
theorem d_R_offer_5 : decode b_R_offer 5 = .ok (.iload_n 1, 1) := by decide +kernel
theorem d_R_offer_6 : decode b_R_offer 6 = .ok (.iaload, 1) := by decide +kernel
theorem d_R_offer_7 : decode b_R_offer 7 = .ok (.if_icmp .ge 17, 3) := by decide +kernel
theorem d_R_offer_10 : decode b_R_offer 10 = .ok (.aload_n 0, 1) := by decide +kernel
theorem d_R_offer_11 : decode b_R_offer 11 = .ok (.getfield 34, 3) := by decide +kernel
theorem d_R_offer_14 : decode b_R_offer 14 = .ok (.iload_n 1, 1) := by decide +kernel
theorem d_R_offer_15 : decode b_R_offer 15 = .ok (.iload_n 2, 1) := by decide +kernel
theorem d_R_offer_16 : decode b_R_offer 16 = .ok (.iastore, 1) := by decide +kernel
theorem d_R_offer_17 : decode b_R_offer 17 = .ok (.aload_n 0, 1) := by decide +kernel
theorem d_R_offer_18 : decode b_R_offer 18 = .ok (.getfield 37, 3) := by decide +kernel
theorem d_R_offer_21 : decode b_R_offer 21 = .ok (.iload_n 1, 1) := by decide +kernel
theorem d_R_offer_22 : decode b_R_offer 22 = .ok (.iload_n 3, 1) := by decide +kernel
theorem d_R_offer_23 : decode b_R_offer 23 = .ok (.iastore, 1) := by decide +kernel
theorem d_R_offer_24 : decode b_R_offer 24 = .ok (.return_, 1) := by decide +kernel
abbrev b_R_reported : ByteArray := prog_5_method_20_code
def y_R_reported : MethodName := ⟨"MergingFragmentsModel", "reported", "(III)V"⟩
theorem d_R_reported_0 : decode b_R_reported 0 = .ok (.iload_n 2, 1) := by decide +kernel
theorem d_R_reported_1 : decode b_R_reported 1 = .ok (.aload_n 0, 1) := by decide +kernel
theorem d_R_reported_2 : decode b_R_reported 2 = .ok (.getfield 31, 3) := by decide +kernel
theorem d_R_reported_5 : decode b_R_reported 5 = .ok (.iload_n 1, 1) := by decide +kernel
theorem d_R_reported_6 : decode b_R_reported 6 = .ok (.iaload, 1) := by decide +kernel
theorem d_R_reported_7 : decode b_R_reported 7 = .ok (.if_icmp .eq 28, 3) := by decide +kernel
theorem d_R_reported_10 : decode b_R_reported 10 = .ok (.aload_n 0, 1) := by decide +kernel
theorem d_R_reported_11 : decode b_R_reported 11 = .ok (.getfield 28, 3) := by decide +kernel
theorem d_R_reported_14 : decode b_R_reported 14 = .ok (.iload_n 1, 1) := by decide +kernel
theorem d_R_reported_15 : decode b_R_reported 15 = .ok (.dup2, 1) := by decide +kernel
theorem d_R_reported_16 : decode b_R_reported 16 = .ok (.iaload, 1) := by decide +kernel
theorem d_R_reported_17 : decode b_R_reported 17 = .ok (.iconst 1, 1) := by decide +kernel
theorem d_R_reported_18 : decode b_R_reported 18 = .ok (.isub, 1) := by decide +kernel
theorem d_R_reported_19 : decode b_R_reported 19 = .ok (.iastore, 1) := by decide +kernel
theorem d_R_reported_20 : decode b_R_reported 20 = .ok (.aload_n 0, 1) := by decide +kernel
theorem d_R_reported_21 : decode b_R_reported 21 = .ok (.iload_n 1, 1) := by decide +kernel
theorem d_R_reported_22 : decode b_R_reported 22 = .ok (.iload_n 2, 1) := by decide +kernel
theorem d_R_reported_23 : decode b_R_reported 23 = .ok (.iload_n 3, 1) := by decide +kernel
theorem d_R_reported_24 : decode b_R_reported 24 = .ok (.invokevirtual 117, 3) := by decide +kernel
theorem d_R_reported_27 : decode b_R_reported 27 = .ok (.aload_n 0, 1) := by decide +kernel
theorem d_R_reported_28 : decode b_R_reported 28 = .ok (.iload_n 1, 1) := by decide +kernel
theorem d_R_reported_29 : decode b_R_reported 29 = .ok (.invokevirtual 103, 3) := by decide +kernel
theorem d_R_reported_32 : decode b_R_reported 32 = .ok (.goto 57, 3) := by decide +kernel
theorem d_R_reported_35 : decode b_R_reported 35 = .ok (.aload_n 0, 1) := by decide +kernel
theorem d_R_reported_36 : decode b_R_reported 36 = .ok (.getfield 19, 3) := by decide +kernel
theorem d_R_reported_39 : decode b_R_reported 39 = .ok (.iload_n 1, 1) := by decide +kernel
theorem d_R_reported_40 : decode b_R_reported 40 = .ok (.iaload, 1) := by decide +kernel
theorem d_R_reported_41 : decode b_R_reported 41 = .ok (.iconst 1, 1) := by decide +kernel
theorem d_R_reported_42 : decode b_R_reported 42 = .ok (.if_icmp .ne 16, 3) := by decide +kernel
theorem d_R_reported_45 : decode b_R_reported 45 = .ok (.aload_n 0, 1) := by decide +kernel
theorem d_R_reported_46 : decode b_R_reported 46 = .ok (.iload_n 1, 1) := by decide +kernel
theorem d_R_reported_47 : decode b_R_reported 47 = .ok (.iconst 5, 1) := by decide +kernel
theorem d_R_reported_48 : decode b_R_reported 48 = .ok (.iload_n 2, 1) := by decide +kernel
theorem d_R_reported_49 : decode b_R_reported 49 = .ok (.iload_n 3, 1) := by decide +kernel
theorem d_R_reported_50 : decode b_R_reported 50 = .ok (.iconst 0, 1) := by decide +kernel
theorem d_R_reported_51 : decode b_R_reported 51 = .ok (.iconst 0, 1) := by decide +kernel
theorem d_R_reported_52 : decode b_R_reported 52 = .ok (.invokevirtual 92, 3) := by decide +kernel
theorem d_R_reported_55 : decode b_R_reported 55 = .ok (.goto 34, 3) := by decide +kernel
theorem d_R_reported_58 : decode b_R_reported 58 = .ok (.iload_n 3, 1) := by decide +kernel
theorem d_R_reported_59 : decode b_R_reported 59 = .ok (.aload_n 0, 1) := by decide +kernel
theorem d_R_reported_60 : decode b_R_reported 60 = .ok (.getfield 37, 3) := by decide +kernel
theorem d_R_reported_63 : decode b_R_reported 63 = .ok (.iload_n 1, 1) := by decide +kernel
theorem d_R_reported_64 : decode b_R_reported 64 = .ok (.iaload, 1) := by decide +kernel
theorem d_R_reported_65 : decode b_R_reported 65 = .ok (.if_icmp .le 11, 3) := by decide +kernel
theorem d_R_reported_68 : decode b_R_reported 68 = .ok (.aload_n 0, 1) := by decide +kernel
theorem d_R_reported_69 : decode b_R_reported 69 = .ok (.iload_n 1, 1) := by decide +kernel
theorem d_R_reported_70 : decode b_R_reported 70 = .ok (.invokevirtual 121, 3) := by decide +kernel
theorem d_R_reported_73 : decode b_R_reported 73 = .ok (.goto 16, 3) := by decide +kernel
theorem d_R_reported_76 : decode b_R_reported 76 = .ok (.iload_n 3, 1) := by decide +kernel
theorem d_R_reported_77 : decode b_R_reported 77 = .ok (.bipush 100, 2) := by decide +kernel
theorem d_R_reported_79 : decode b_R_reported 79 = .ok (.if_icmp .ne 10, 3) := by decide +kernel
theorem d_R_reported_82 : decode b_R_reported 82 = .ok (.aload_n 0, 1) := by decide +kernel
theorem d_R_reported_83 : decode b_R_reported 83 = .ok (.getfield 43, 3) := by decide +kernel
theorem d_R_reported_86 : decode b_R_reported 86 = .ok (.iload_n 1, 1) := by decide +kernel
theorem d_R_reported_87 : decode b_R_reported 87 = .ok (.iconst 1, 1) := by decide +kernel
theorem d_R_reported_88 : decode b_R_reported 88 = .ok (.bastore, 1) := by decide +kernel
theorem d_R_reported_89 : decode b_R_reported 89 = .ok (.return_, 1) := by decide +kernel
abbrev b_R_moveCore : ByteArray := prog_5_method_14_code
def y_R_moveCore : MethodName := ⟨"MergingFragmentsModel", "moveCore", "(I)V"⟩
theorem d_R_moveCore_0 : decode b_R_moveCore 0 = .ok (.aload_n 0, 1) := by decide +kernel
theorem d_R_moveCore_1 : decode b_R_moveCore 1 = .ok (.iload_n 1, 1) := by decide +kernel
theorem d_R_moveCore_2 : decode b_R_moveCore 2 = .ok (.aload_n 0, 1) := by decide +kernel
theorem d_R_moveCore_3 : decode b_R_moveCore 3 = .ok (.getfield 34, 3) := by decide +kernel
theorem d_R_moveCore_6 : decode b_R_moveCore 6 = .ok (.iload_n 1, 1) := by decide +kernel
theorem d_R_moveCore_7 : decode b_R_moveCore 7 = .ok (.iaload, 1) := by decide +kernel
theorem d_R_moveCore_8 : decode b_R_moveCore 8 = .ok (.invokevirtual 85, 3) := by decide +kernel
theorem d_R_moveCore_11 : decode b_R_moveCore 11 = .ok (.istore_n 2, 1) := by decide +kernel
theorem d_R_moveCore_12 : decode b_R_moveCore 12 = .ok (.aload_n 0, 1) := by decide +kernel
theorem d_R_moveCore_13 : decode b_R_moveCore 13 = .ok (.getfield 16, 3) := by decide +kernel
theorem d_R_moveCore_16 : decode b_R_moveCore 16 = .ok (.iload_n 2, 1) := by decide +kernel
theorem d_R_moveCore_17 : decode b_R_moveCore 17 = .ok (.iaload, 1) := by decide +kernel
theorem d_R_moveCore_18 : decode b_R_moveCore 18 = .ok (.iconst 1, 1) := by decide +kernel
theorem d_R_moveCore_19 : decode b_R_moveCore 19 = .ok (.if_icmp .ne 22, 3) := by decide +kernel
theorem d_R_moveCore_22 : decode b_R_moveCore 22 = .ok (.aload_n 0, 1) := by decide +kernel
theorem d_R_moveCore_23 : decode b_R_moveCore 23 = .ok (.iload_n 1, 1) := by decide +kernel
theorem d_R_moveCore_24 : decode b_R_moveCore 24 = .ok (.bipush 6, 2) := by decide +kernel
theorem d_R_moveCore_26 : decode b_R_moveCore 26 = .ok (.aload_n 0, 1) := by decide +kernel
theorem d_R_moveCore_27 : decode b_R_moveCore 27 = .ok (.getfield 34, 3) := by decide +kernel
theorem d_R_moveCore_30 : decode b_R_moveCore 30 = .ok (.iload_n 1, 1) := by decide +kernel
theorem d_R_moveCore_31 : decode b_R_moveCore 31 = .ok (.iaload, 1) := by decide +kernel
theorem d_R_moveCore_32 : decode b_R_moveCore 32 = .ok (.iconst 0, 1) := by decide +kernel
theorem d_R_moveCore_33 : decode b_R_moveCore 33 = .ok (.iconst 0, 1) := by decide +kernel
theorem d_R_moveCore_34 : decode b_R_moveCore 34 = .ok (.iconst 0, 1) := by decide +kernel
theorem d_R_moveCore_35 : decode b_R_moveCore 35 = .ok (.invokevirtual 100, 3) := by decide +kernel
theorem d_R_moveCore_38 : decode b_R_moveCore 38 = .ok (.goto 30, 3) := by decide +kernel
theorem d_R_moveCore_41 : decode b_R_moveCore 41 = .ok (.aload_n 0, 1) := by decide +kernel
theorem d_R_moveCore_42 : decode b_R_moveCore 42 = .ok (.iload_n 1, 1) := by decide +kernel
theorem d_R_moveCore_43 : decode b_R_moveCore 43 = .ok (.iconst 0, 1) := by decide +kernel
theorem d_R_moveCore_44 : decode b_R_moveCore 44 = .ok (.aload_n 0, 1) := by decide +kernel
theorem d_R_moveCore_45 : decode b_R_moveCore 45 = .ok (.getfield 34, 3) := by decide +kernel
theorem d_R_moveCore_48 : decode b_R_moveCore 48 = .ok (.iload_n 1, 1) := by decide +kernel
theorem d_R_moveCore_49 : decode b_R_moveCore 49 = .ok (.iaload, 1) := by decide +kernel
theorem d_R_moveCore_50 : decode b_R_moveCore 50 = .ok (.aload_n 0, 1) := by decide +kernel
theorem d_R_moveCore_51 : decode b_R_moveCore 51 = .ok (.getfield 22, 3) := by decide +kernel
theorem d_R_moveCore_54 : decode b_R_moveCore 54 = .ok (.iload_n 1, 1) := by decide +kernel
theorem d_R_moveCore_55 : decode b_R_moveCore 55 = .ok (.iaload, 1) := by decide +kernel
theorem d_R_moveCore_56 : decode b_R_moveCore 56 = .ok (.iconst 0, 1) := by decide +kernel
theorem d_R_moveCore_57 : decode b_R_moveCore 57 = .ok (.iconst 0, 1) := by decide +kernel
theorem d_R_moveCore_58 : decode b_R_moveCore 58 = .ok (.invokevirtual 100, 3) := by decide +kernel
theorem d_R_moveCore_61 : decode b_R_moveCore 61 = .ok (.aload_n 0, 1) := by decide +kernel
theorem d_R_moveCore_62 : decode b_R_moveCore 62 = .ok (.getfield 16, 3) := by decide +kernel
theorem d_R_moveCore_65 : decode b_R_moveCore 65 = .ok (.iload_n 2, 1) := by decide +kernel
theorem d_R_moveCore_66 : decode b_R_moveCore 66 = .ok (.iconst 1, 1) := by decide +kernel
theorem d_R_moveCore_67 : decode b_R_moveCore 67 = .ok (.iastore, 1) := by decide +kernel
theorem d_R_moveCore_68 : decode b_R_moveCore 68 = .ok (.return_, 1) := by decide +kernel
abbrev b_R_run : ByteArray := prog_5_method_25_code
def y_R_run : MethodName := ⟨"MergingFragmentsModel", "run", "(II)I"⟩
theorem d_R_run_0 : decode b_R_run 0 = .ok (.aload_n 0, 1) := by decide +kernel
theorem d_R_run_1 : decode b_R_run 1 = .ok (.aload_n 0, 1) := by decide +kernel
theorem d_R_run_2 : decode b_R_run 2 = .ok (.iload_n 1, 1) := by decide +kernel
theorem d_R_run_3 : decode b_R_run 3 = .ok (.invokevirtual 81, 3) := by decide +kernel
theorem d_R_run_6 : decode b_R_run 6 = .ok (.ifCond .eq 7, 3) := by decide +kernel
theorem d_R_run_9 : decode b_R_run 9 = .ok (.iconst 1, 1) := by decide +kernel
theorem d_R_run_10 : decode b_R_run 10 = .ok (.goto 19, 3) := by decide +kernel
theorem d_R_run_13 : decode b_R_run 13 = .ok (.iload_n 2, 1) := by decide +kernel
theorem d_R_run_14 : decode b_R_run 14 = .ok (.ifCond .lt 10, 3) := by decide +kernel
theorem d_R_run_17 : decode b_R_run 17 = .ok (.iload_n 2, 1) := by decide +kernel
theorem d_R_run_18 : decode b_R_run 18 = .ok (.sipush 999, 3) := by decide +kernel
theorem d_R_run_21 : decode b_R_run 21 = .ok (.if_icmp .le 7, 3) := by decide +kernel
theorem d_R_run_24 : decode b_R_run 24 = .ok (.iconst 2, 1) := by decide +kernel
theorem d_R_run_25 : decode b_R_run 25 = .ok (.goto 4, 3) := by decide +kernel
theorem d_R_run_28 : decode b_R_run 28 = .ok (.iconst 0, 1) := by decide +kernel
theorem d_R_run_29 : decode b_R_run 29 = .ok (.putfield 68, 3) := by decide +kernel
theorem d_R_run_32 : decode b_R_run 32 = .ok (.aload_n 0, 1) := by decide +kernel
theorem d_R_run_33 : decode b_R_run 33 = .ok (.getfield 68, 3) := by decide +kernel
theorem d_R_run_36 : decode b_R_run 36 = .ok (.ifCond .le 5, 3) := by decide +kernel
theorem d_R_run_39 : decode b_R_run 39 = .ok (.iconst 0, 1) := by decide +kernel
theorem d_R_run_40 : decode b_R_run 40 = .ok (.ireturn, 1) := by decide +kernel
theorem d_R_run_41 : decode b_R_run 41 = .ok (.iconst 0, 1) := by decide +kernel
theorem d_R_run_42 : decode b_R_run 42 = .ok (.istore_n 3, 1) := by decide +kernel
theorem d_R_run_43 : decode b_R_run 43 = .ok (.iload_n 1, 1) := by decide +kernel
theorem d_R_run_44 : decode b_R_run 44 = .ok (.istore 4, 2) := by decide +kernel
theorem d_R_run_46 : decode b_R_run 46 = .ok (.iload_n 3, 1) := by decide +kernel
theorem d_R_run_47 : decode b_R_run 47 = .ok (.iload_n 2, 1) := by decide +kernel
theorem d_R_run_48 : decode b_R_run 48 = .ok (.if_icmp .ge 36, 3) := by decide +kernel
theorem d_R_run_51 : decode b_R_run 51 = .ok (.aload_n 0, 1) := by decide +kernel
theorem d_R_run_52 : decode b_R_run 52 = .ok (.invokevirtual 142, 3) := by decide +kernel
theorem d_R_run_55 : decode b_R_run 55 = .ok (.ifCond .le 29, 3) := by decide +kernel
theorem d_R_run_58 : decode b_R_run 58 = .ok (.aload_n 0, 1) := by decide +kernel
theorem d_R_run_59 : decode b_R_run 59 = .ok (.iload 4, 2) := by decide +kernel
theorem d_R_run_61 : decode b_R_run 61 = .ok (.invokevirtual 138, 3) := by decide +kernel
theorem d_R_run_64 : decode b_R_run 64 = .ok (.ifCond .lt 6, 3) := by decide +kernel
theorem d_R_run_67 : decode b_R_run 67 = .ok (.iinc 3 1, 3) := by decide +kernel
theorem d_R_run_70 : decode b_R_run 70 = .ok (.iload 4, 2) := by decide +kernel
theorem d_R_run_72 : decode b_R_run 72 = .ok (.iconst 1, 1) := by decide +kernel
theorem d_R_run_73 : decode b_R_run 73 = .ok (.iadd, 1) := by decide +kernel
theorem d_R_run_74 : decode b_R_run 74 = .ok (.aload_n 0, 1) := by decide +kernel
theorem d_R_run_75 : decode b_R_run 75 = .ok (.getfield 72, 3) := by decide +kernel
theorem d_R_run_78 : decode b_R_run 78 = .ok (.irem, 1) := by decide +kernel
theorem d_R_run_79 : decode b_R_run 79 = .ok (.istore 4, 2) := by decide +kernel
theorem d_R_run_81 : decode b_R_run 81 = .ok (.goto (-35), 3) := by decide +kernel
theorem d_R_run_84 : decode b_R_run 84 = .ok (.iload_n 3, 1) := by decide +kernel
theorem d_R_run_85 : decode b_R_run 85 = .ok (.ireturn, 1) := by decide +kernel
abbrev b_R_all : ByteArray := prog_5_method_24_code
def y_R_all : MethodName := ⟨"MergingFragmentsModel", "all", "()I"⟩
theorem d_R_all_0 : decode b_R_all 0 = .ok (.iconst 0, 1) := by decide +kernel
theorem d_R_all_1 : decode b_R_all 1 = .ok (.istore_n 1, 1) := by decide +kernel
theorem d_R_all_2 : decode b_R_all 2 = .ok (.iconst 0, 1) := by decide +kernel
theorem d_R_all_3 : decode b_R_all 3 = .ok (.istore_n 2, 1) := by decide +kernel
theorem d_R_all_4 : decode b_R_all 4 = .ok (.iload_n 2, 1) := by decide +kernel
theorem d_R_all_5 : decode b_R_all 5 = .ok (.aload_n 0, 1) := by decide +kernel
theorem d_R_all_6 : decode b_R_all 6 = .ok (.getfield 72, 3) := by decide +kernel
theorem d_R_all_9 : decode b_R_all 9 = .ok (.if_icmp .ge 18, 3) := by decide +kernel
theorem d_R_all_12 : decode b_R_all 12 = .ok (.iload_n 1, 1) := by decide +kernel
theorem d_R_all_13 : decode b_R_all 13 = .ok (.aload_n 0, 1) := by decide +kernel
theorem d_R_all_14 : decode b_R_all 14 = .ok (.getfield 50, 3) := by decide +kernel
theorem d_R_all_17 : decode b_R_all 17 = .ok (.iload_n 2, 1) := by decide +kernel
theorem d_R_all_18 : decode b_R_all 18 = .ok (.iaload, 1) := by decide +kernel
theorem d_R_all_19 : decode b_R_all 19 = .ok (.iadd, 1) := by decide +kernel
theorem d_R_all_20 : decode b_R_all 20 = .ok (.istore_n 1, 1) := by decide +kernel
theorem d_R_all_21 : decode b_R_all 21 = .ok (.iinc 2 1, 3) := by decide +kernel
theorem d_R_all_24 : decode b_R_all 24 = .ok (.goto (-20), 3) := by decide +kernel
theorem d_R_all_27 : decode b_R_all 27 = .ok (.iload_n 1, 1) := by decide +kernel
theorem d_R_all_28 : decode b_R_all 28 = .ok (.ireturn, 1) := by decide +kernel
abbrev b_R_about : ByteArray := prog_5_method_26_code
def y_R_about : MethodName := ⟨"MergingFragmentsModel", "about", "(II)I"⟩
theorem d_R_about_0 : decode b_R_about 0 = .ok (.aload_n 0, 1) := by decide +kernel
theorem d_R_about_1 : decode b_R_about 1 = .ok (.aload_n 0, 1) := by decide +kernel
theorem d_R_about_2 : decode b_R_about 2 = .ok (.iload_n 1, 1) := by decide +kernel
theorem d_R_about_3 : decode b_R_about 3 = .ok (.invokevirtual 81, 3) := by decide +kernel
theorem d_R_about_6 : decode b_R_about 6 = .ok (.ifCond .eq 7, 3) := by decide +kernel
theorem d_R_about_9 : decode b_R_about 9 = .ok (.iconst 1, 1) := by decide +kernel
theorem d_R_about_10 : decode b_R_about 10 = .ok (.goto 18, 3) := by decide +kernel
theorem d_R_about_13 : decode b_R_about 13 = .ok (.iload_n 2, 1) := by decide +kernel
theorem d_R_about_14 : decode b_R_about 14 = .ok (.ifCond .lt 9, 3) := by decide +kernel
theorem d_R_about_17 : decode b_R_about 17 = .ok (.iload_n 2, 1) := by decide +kernel
theorem d_R_about_18 : decode b_R_about 18 = .ok (.bipush 9, 2) := by decide +kernel
theorem d_R_about_20 : decode b_R_about 20 = .ok (.if_icmp .le 7, 3) := by decide +kernel
theorem d_R_about_23 : decode b_R_about 23 = .ok (.iconst 2, 1) := by decide +kernel
theorem d_R_about_24 : decode b_R_about 24 = .ok (.goto 4, 3) := by decide +kernel
theorem d_R_about_27 : decode b_R_about 27 = .ok (.iconst 0, 1) := by decide +kernel
theorem d_R_about_28 : decode b_R_about 28 = .ok (.putfield 68, 3) := by decide +kernel
theorem d_R_about_31 : decode b_R_about 31 = .ok (.aload_n 0, 1) := by decide +kernel
theorem d_R_about_32 : decode b_R_about 32 = .ok (.getfield 68, 3) := by decide +kernel
theorem d_R_about_35 : decode b_R_about 35 = .ok (.ifCond .le 5, 3) := by decide +kernel
theorem d_R_about_38 : decode b_R_about 38 = .ok (.iconst 0, 1) := by decide +kernel
theorem d_R_about_39 : decode b_R_about 39 = .ok (.ireturn, 1) := by decide +kernel
theorem d_R_about_40 : decode b_R_about 40 = .ok (.iload_n 2, 1) := by decide +kernel
theorem d_R_about_41 : decode b_R_about 41 = .ok (.tableswitch 114 0 8 #[51, 58, 65, 72, 79, 86, 93, 100, 107], 51) := by decide +kernel
theorem d_R_about_92 : decode b_R_about 92 = .ok (.aload_n 0, 1) := by decide +kernel
theorem d_R_about_93 : decode b_R_about 93 = .ok (.getfield 19, 3) := by decide +kernel
theorem d_R_about_96 : decode b_R_about 96 = .ok (.iload_n 1, 1) := by decide +kernel
theorem d_R_about_97 : decode b_R_about 97 = .ok (.iaload, 1) := by decide +kernel
theorem d_R_about_98 : decode b_R_about 98 = .ok (.ireturn, 1) := by decide +kernel
theorem d_R_about_99 : decode b_R_about 99 = .ok (.aload_n 0, 1) := by decide +kernel
theorem d_R_about_100 : decode b_R_about 100 = .ok (.getfield 22, 3) := by decide +kernel
theorem d_R_about_103 : decode b_R_about 103 = .ok (.iload_n 1, 1) := by decide +kernel
theorem d_R_about_104 : decode b_R_about 104 = .ok (.iaload, 1) := by decide +kernel
theorem d_R_about_105 : decode b_R_about 105 = .ok (.ireturn, 1) := by decide +kernel
theorem d_R_about_106 : decode b_R_about 106 = .ok (.aload_n 0, 1) := by decide +kernel
theorem d_R_about_107 : decode b_R_about 107 = .ok (.getfield 25, 3) := by decide +kernel
theorem d_R_about_110 : decode b_R_about 110 = .ok (.iload_n 1, 1) := by decide +kernel
theorem d_R_about_111 : decode b_R_about 111 = .ok (.iaload, 1) := by decide +kernel
theorem d_R_about_112 : decode b_R_about 112 = .ok (.ireturn, 1) := by decide +kernel
theorem d_R_about_113 : decode b_R_about 113 = .ok (.aload_n 0, 1) := by decide +kernel
theorem d_R_about_114 : decode b_R_about 114 = .ok (.getfield 28, 3) := by decide +kernel
theorem d_R_about_117 : decode b_R_about 117 = .ok (.iload_n 1, 1) := by decide +kernel
theorem d_R_about_118 : decode b_R_about 118 = .ok (.iaload, 1) := by decide +kernel
theorem d_R_about_119 : decode b_R_about 119 = .ok (.ireturn, 1) := by decide +kernel
theorem d_R_about_120 : decode b_R_about 120 = .ok (.aload_n 0, 1) := by decide +kernel
theorem d_R_about_121 : decode b_R_about 121 = .ok (.getfield 31, 3) := by decide +kernel
theorem d_R_about_124 : decode b_R_about 124 = .ok (.iload_n 1, 1) := by decide +kernel
theorem d_R_about_125 : decode b_R_about 125 = .ok (.iaload, 1) := by decide +kernel
theorem d_R_about_126 : decode b_R_about 126 = .ok (.ireturn, 1) := by decide +kernel
theorem d_R_about_127 : decode b_R_about 127 = .ok (.aload_n 0, 1) := by decide +kernel
theorem d_R_about_128 : decode b_R_about 128 = .ok (.getfield 34, 3) := by decide +kernel
theorem d_R_about_131 : decode b_R_about 131 = .ok (.iload_n 1, 1) := by decide +kernel
theorem d_R_about_132 : decode b_R_about 132 = .ok (.iaload, 1) := by decide +kernel
theorem d_R_about_133 : decode b_R_about 133 = .ok (.ireturn, 1) := by decide +kernel
theorem d_R_about_134 : decode b_R_about 134 = .ok (.aload_n 0, 1) := by decide +kernel
theorem d_R_about_135 : decode b_R_about 135 = .ok (.getfield 40, 3) := by decide +kernel
theorem d_R_about_138 : decode b_R_about 138 = .ok (.iload_n 1, 1) := by decide +kernel
theorem d_R_about_139 : decode b_R_about 139 = .ok (.iaload, 1) := by decide +kernel
theorem d_R_about_140 : decode b_R_about 140 = .ok (.ireturn, 1) := by decide +kernel
theorem d_R_about_141 : decode b_R_about 141 = .ok (.aload_n 0, 1) := by decide +kernel
theorem d_R_about_142 : decode b_R_about 142 = .ok (.getfield 37, 3) := by decide +kernel
theorem d_R_about_145 : decode b_R_about 145 = .ok (.iload_n 1, 1) := by decide +kernel
theorem d_R_about_146 : decode b_R_about 146 = .ok (.iaload, 1) := by decide +kernel
theorem d_R_about_147 : decode b_R_about 147 = .ok (.ireturn, 1) := by decide +kernel
theorem d_R_about_148 : decode b_R_about 148 = .ok (.aload_n 0, 1) := by decide +kernel
theorem d_R_about_149 : decode b_R_about 149 = .ok (.getfield 50, 3) := by decide +kernel
theorem d_R_about_152 : decode b_R_about 152 = .ok (.iload_n 1, 1) := by decide +kernel
theorem d_R_about_153 : decode b_R_about 153 = .ok (.iaload, 1) := by decide +kernel
theorem d_R_about_154 : decode b_R_about 154 = .ok (.ireturn, 1) := by decide +kernel
theorem d_R_about_155 : decode b_R_about 155 = .ok (.aload_n 0, 1) := by decide +kernel
theorem d_R_about_156 : decode b_R_about 156 = .ok (.getfield 43, 3) := by decide +kernel
theorem d_R_about_159 : decode b_R_about 159 = .ok (.iload_n 1, 1) := by decide +kernel
theorem d_R_about_160 : decode b_R_about 160 = .ok (.baload, 1) := by decide +kernel
theorem d_R_about_161 : decode b_R_about 161 = .ok (.ifCond .eq 7, 3) := by decide +kernel
theorem d_R_about_164 : decode b_R_about 164 = .ok (.iconst 1, 1) := by decide +kernel
theorem d_R_about_165 : decode b_R_about 165 = .ok (.goto 4, 3) := by decide +kernel
theorem d_R_about_168 : decode b_R_about 168 = .ok (.iconst 0, 1) := by decide +kernel
theorem d_R_about_169 : decode b_R_about 169 = .ok (.ireturn, 1) := by decide +kernel
abbrev b_R_mark : ByteArray := prog_5_method_27_code
def y_R_mark : MethodName := ⟨"MergingFragmentsModel", "mark", "(II)I"⟩
theorem d_R_mark_0 : decode b_R_mark 0 = .ok (.aload_n 0, 1) := by decide +kernel
theorem d_R_mark_1 : decode b_R_mark 1 = .ok (.aload_n 0, 1) := by decide +kernel
theorem d_R_mark_2 : decode b_R_mark 2 = .ok (.iload_n 1, 1) := by decide +kernel
theorem d_R_mark_3 : decode b_R_mark 3 = .ok (.invokevirtual 81, 3) := by decide +kernel
theorem d_R_mark_6 : decode b_R_mark 6 = .ok (.ifCond .ne 15, 3) := by decide +kernel
theorem d_R_mark_9 : decode b_R_mark 9 = .ok (.iload_n 2, 1) := by decide +kernel
theorem d_R_mark_10 : decode b_R_mark 10 = .ok (.ifCond .lt 11, 3) := by decide +kernel
theorem d_R_mark_13 : decode b_R_mark 13 = .ok (.iload_n 2, 1) := by decide +kernel
theorem d_R_mark_14 : decode b_R_mark 14 = .ok (.aload_n 0, 1) := by decide +kernel
theorem d_R_mark_15 : decode b_R_mark 15 = .ok (.getfield 75, 3) := by decide +kernel
theorem d_R_mark_18 : decode b_R_mark 18 = .ok (.if_icmp .lt 7, 3) := by decide +kernel
theorem d_R_mark_21 : decode b_R_mark 21 = .ok (.iconst 1, 1) := by decide +kernel
theorem d_R_mark_22 : decode b_R_mark 22 = .ok (.goto 4, 3) := by decide +kernel
theorem d_R_mark_25 : decode b_R_mark 25 = .ok (.iconst 0, 1) := by decide +kernel
theorem d_R_mark_26 : decode b_R_mark 26 = .ok (.putfield 68, 3) := by decide +kernel
theorem d_R_mark_29 : decode b_R_mark 29 = .ok (.aload_n 0, 1) := by decide +kernel
theorem d_R_mark_30 : decode b_R_mark 30 = .ok (.getfield 68, 3) := by decide +kernel
theorem d_R_mark_33 : decode b_R_mark 33 = .ok (.ifCond .le 5, 3) := by decide +kernel
theorem d_R_mark_36 : decode b_R_mark 36 = .ok (.iconst 0, 1) := by decide +kernel
theorem d_R_mark_37 : decode b_R_mark 37 = .ok (.ireturn, 1) := by decide +kernel
theorem d_R_mark_38 : decode b_R_mark 38 = .ok (.aload_n 0, 1) := by decide +kernel
theorem d_R_mark_39 : decode b_R_mark 39 = .ok (.iload_n 1, 1) := by decide +kernel
theorem d_R_mark_40 : decode b_R_mark 40 = .ok (.iload_n 2, 1) := by decide +kernel
theorem d_R_mark_41 : decode b_R_mark 41 = .ok (.invokevirtual 85, 3) := by decide +kernel
theorem d_R_mark_44 : decode b_R_mark 44 = .ok (.istore_n 3, 1) := by decide +kernel
theorem d_R_mark_45 : decode b_R_mark 45 = .ok (.iload_n 3, 1) := by decide +kernel
theorem d_R_mark_46 : decode b_R_mark 46 = .ok (.ifCond .ge 7, 3) := by decide +kernel
theorem d_R_mark_49 : decode b_R_mark 49 = .ok (.iconst (-1), 1) := by decide +kernel
theorem d_R_mark_50 : decode b_R_mark 50 = .ok (.goto 9, 3) := by decide +kernel
theorem d_R_mark_53 : decode b_R_mark 53 = .ok (.aload_n 0, 1) := by decide +kernel
theorem d_R_mark_54 : decode b_R_mark 54 = .ok (.getfield 16, 3) := by decide +kernel
theorem d_R_mark_57 : decode b_R_mark 57 = .ok (.iload_n 3, 1) := by decide +kernel
theorem d_R_mark_58 : decode b_R_mark 58 = .ok (.iaload, 1) := by decide +kernel
theorem d_R_mark_59 : decode b_R_mark 59 = .ok (.ireturn, 1) := by decide +kernel
abbrev b_R_message : ByteArray := prog_5_method_28_code
def y_R_message : MethodName := ⟨"MergingFragmentsModel", "message", "(III)I"⟩
theorem d_R_message_0 : decode b_R_message 0 = .ok (.aload_n 0, 1) := by decide +kernel
theorem d_R_message_1 : decode b_R_message 1 = .ok (.aload_n 0, 1) := by decide +kernel
theorem d_R_message_2 : decode b_R_message 2 = .ok (.iload_n 1, 1) := by decide +kernel
theorem d_R_message_3 : decode b_R_message 3 = .ok (.invokevirtual 81, 3) := by decide +kernel
theorem d_R_message_6 : decode b_R_message 6 = .ok (.ifCond .ne 17, 3) := by decide +kernel
theorem d_R_message_9 : decode b_R_message 9 = .ok (.iload_n 2, 1) := by decide +kernel
theorem d_R_message_10 : decode b_R_message 10 = .ok (.ifCond .lt 13, 3) := by decide +kernel
theorem d_R_message_13 : decode b_R_message 13 = .ok (.iload_n 2, 1) := by decide +kernel
theorem d_R_message_14 : decode b_R_message 14 = .ok (.aload_n 0, 1) := by decide +kernel
theorem d_R_message_15 : decode b_R_message 15 = .ok (.getfield 50, 3) := by decide +kernel
theorem d_R_message_18 : decode b_R_message 18 = .ok (.iload_n 1, 1) := by decide +kernel
theorem d_R_message_19 : decode b_R_message 19 = .ok (.iaload, 1) := by decide +kernel
theorem d_R_message_20 : decode b_R_message 20 = .ok (.if_icmp .lt 7, 3) := by decide +kernel
theorem d_R_message_23 : decode b_R_message 23 = .ok (.iconst 1, 1) := by decide +kernel
theorem d_R_message_24 : decode b_R_message 24 = .ok (.goto 17, 3) := by decide +kernel
theorem d_R_message_27 : decode b_R_message 27 = .ok (.iload_n 3, 1) := by decide +kernel
theorem d_R_message_28 : decode b_R_message 28 = .ok (.ifCond .lt 8, 3) := by decide +kernel
theorem d_R_message_31 : decode b_R_message 31 = .ok (.iload_n 3, 1) := by decide +kernel
theorem d_R_message_32 : decode b_R_message 32 = .ok (.iconst 4, 1) := by decide +kernel
theorem d_R_message_33 : decode b_R_message 33 = .ok (.if_icmp .le 7, 3) := by decide +kernel
theorem d_R_message_36 : decode b_R_message 36 = .ok (.iconst 2, 1) := by decide +kernel
theorem d_R_message_37 : decode b_R_message 37 = .ok (.goto 4, 3) := by decide +kernel
theorem d_R_message_40 : decode b_R_message 40 = .ok (.iconst 0, 1) := by decide +kernel
theorem d_R_message_41 : decode b_R_message 41 = .ok (.putfield 68, 3) := by decide +kernel
theorem d_R_message_44 : decode b_R_message 44 = .ok (.aload_n 0, 1) := by decide +kernel
theorem d_R_message_45 : decode b_R_message 45 = .ok (.getfield 68, 3) := by decide +kernel
theorem d_R_message_48 : decode b_R_message 48 = .ok (.ifCond .le 5, 3) := by decide +kernel
theorem d_R_message_51 : decode b_R_message 51 = .ok (.iconst 0, 1) := by decide +kernel
theorem d_R_message_52 : decode b_R_message 52 = .ok (.ireturn, 1) := by decide +kernel
theorem d_R_message_53 : decode b_R_message 53 = .ok (.sipush 200, 3) := by decide +kernel
theorem d_R_message_56 : decode b_R_message 56 = .ok (.iload_n 1, 1) := by decide +kernel
theorem d_R_message_57 : decode b_R_message 57 = .ok (.imul, 1) := by decide +kernel
theorem d_R_message_58 : decode b_R_message 58 = .ok (.aload_n 0, 1) := by decide +kernel
theorem d_R_message_59 : decode b_R_message 59 = .ok (.getfield 47, 3) := by decide +kernel
theorem d_R_message_62 : decode b_R_message 62 = .ok (.iload_n 1, 1) := by decide +kernel
theorem d_R_message_63 : decode b_R_message 63 = .ok (.iaload, 1) := by decide +kernel
theorem d_R_message_64 : decode b_R_message 64 = .ok (.iload_n 2, 1) := by decide +kernel
theorem d_R_message_65 : decode b_R_message 65 = .ok (.iadd, 1) := by decide +kernel
theorem d_R_message_66 : decode b_R_message 66 = .ok (.sipush 200, 3) := by decide +kernel
theorem d_R_message_69 : decode b_R_message 69 = .ok (.irem, 1) := by decide +kernel
theorem d_R_message_70 : decode b_R_message 70 = .ok (.iadd, 1) := by decide +kernel
theorem d_R_message_71 : decode b_R_message 71 = .ok (.istore 4, 2) := by decide +kernel
theorem d_R_message_73 : decode b_R_message 73 = .ok (.iload_n 3, 1) := by decide +kernel
theorem d_R_message_74 : decode b_R_message 74 = .ok (.tableswitch 62 0 3 #[30, 38, 46, 54], 30) := by decide +kernel
theorem d_R_message_104 : decode b_R_message 104 = .ok (.aload_n 0, 1) := by decide +kernel
theorem d_R_message_105 : decode b_R_message 105 = .ok (.getfield 53, 3) := by decide +kernel
theorem d_R_message_108 : decode b_R_message 108 = .ok (.iload 4, 2) := by decide +kernel
theorem d_R_message_110 : decode b_R_message 110 = .ok (.iaload, 1) := by decide +kernel
theorem d_R_message_111 : decode b_R_message 111 = .ok (.ireturn, 1) := by decide +kernel
theorem d_R_message_112 : decode b_R_message 112 = .ok (.aload_n 0, 1) := by decide +kernel
theorem d_R_message_113 : decode b_R_message 113 = .ok (.getfield 56, 3) := by decide +kernel
theorem d_R_message_116 : decode b_R_message 116 = .ok (.iload 4, 2) := by decide +kernel
theorem d_R_message_118 : decode b_R_message 118 = .ok (.iaload, 1) := by decide +kernel
theorem d_R_message_119 : decode b_R_message 119 = .ok (.ireturn, 1) := by decide +kernel
theorem d_R_message_120 : decode b_R_message 120 = .ok (.aload_n 0, 1) := by decide +kernel
theorem d_R_message_121 : decode b_R_message 121 = .ok (.getfield 59, 3) := by decide +kernel
theorem d_R_message_124 : decode b_R_message 124 = .ok (.iload 4, 2) := by decide +kernel
theorem d_R_message_126 : decode b_R_message 126 = .ok (.iaload, 1) := by decide +kernel
theorem d_R_message_127 : decode b_R_message 127 = .ok (.ireturn, 1) := by decide +kernel
theorem d_R_message_128 : decode b_R_message 128 = .ok (.aload_n 0, 1) := by decide +kernel
theorem d_R_message_129 : decode b_R_message 129 = .ok (.getfield 62, 3) := by decide +kernel
theorem d_R_message_132 : decode b_R_message 132 = .ok (.iload 4, 2) := by decide +kernel
theorem d_R_message_134 : decode b_R_message 134 = .ok (.iaload, 1) := by decide +kernel
theorem d_R_message_135 : decode b_R_message 135 = .ok (.ireturn, 1) := by decide +kernel
theorem d_R_message_136 : decode b_R_message 136 = .ok (.aload_n 0, 1) := by decide +kernel
theorem d_R_message_137 : decode b_R_message 137 = .ok (.getfield 65, 3) := by decide +kernel
theorem d_R_message_140 : decode b_R_message 140 = .ok (.iload 4, 2) := by decide +kernel
theorem d_R_message_142 : decode b_R_message 142 = .ok (.iaload, 1) := by decide +kernel
theorem d_R_message_143 : decode b_R_message 143 = .ok (.ireturn, 1) := by decide +kernel
abbrev b_R_sent : ByteArray := prog_5_method_29_code
def y_R_sent : MethodName := ⟨"MergingFragmentsModel", "sent", "()I"⟩
theorem d_R_sent_0 : decode b_R_sent 0 = .ok (.aload_n 0, 1) := by decide +kernel
theorem d_R_sent_1 : decode b_R_sent 1 = .ok (.iconst 0, 1) := by decide +kernel
theorem d_R_sent_2 : decode b_R_sent 2 = .ok (.putfield 68, 3) := by decide +kernel
theorem d_R_sent_5 : decode b_R_sent 5 = .ok (.aload_n 0, 1) := by decide +kernel
theorem d_R_sent_6 : decode b_R_sent 6 = .ok (.getfield 78, 3) := by decide +kernel
theorem d_R_sent_9 : decode b_R_sent 9 = .ok (.ireturn, 1) := by decide +kernel
abbrev b_R_left : ByteArray := prog_5_method_30_code
def y_R_left : MethodName := ⟨"MergingFragmentsModel", "left", "()I"⟩
theorem d_R_left_0 : decode b_R_left 0 = .ok (.aload_n 0, 1) := by decide +kernel
theorem d_R_left_1 : decode b_R_left 1 = .ok (.iconst 0, 1) := by decide +kernel
theorem d_R_left_2 : decode b_R_left 2 = .ok (.putfield 68, 3) := by decide +kernel
theorem d_R_left_5 : decode b_R_left 5 = .ok (.aload_n 0, 1) := by decide +kernel
theorem d_R_left_6 : decode b_R_left 6 = .ok (.invokevirtual 142, 3) := by decide +kernel
theorem d_R_left_9 : decode b_R_left 9 = .ok (.ireturn, 1) := by decide +kernel
abbrev b_R_weight : ByteArray := prog_5_method_31_code
def y_R_weight : MethodName := ⟨"MergingFragmentsModel", "weight", "()I"⟩
theorem d_R_weight_0 : decode b_R_weight 0 = .ok (.aload_n 0, 1) := by decide +kernel
theorem d_R_weight_1 : decode b_R_weight 1 = .ok (.iconst 0, 1) := by decide +kernel
theorem d_R_weight_2 : decode b_R_weight 2 = .ok (.putfield 68, 3) := by decide +kernel
theorem d_R_weight_5 : decode b_R_weight 5 = .ok (.iconst 0, 1) := by decide +kernel
theorem d_R_weight_6 : decode b_R_weight 6 = .ok (.istore_n 1, 1) := by decide +kernel
theorem d_R_weight_7 : decode b_R_weight 7 = .ok (.iconst 0, 1) := by decide +kernel
theorem d_R_weight_8 : decode b_R_weight 8 = .ok (.istore_n 2, 1) := by decide +kernel
theorem d_R_weight_9 : decode b_R_weight 9 = .ok (.iload_n 2, 1) := by decide +kernel
theorem d_R_weight_10 : decode b_R_weight 10 = .ok (.aload_n 0, 1) := by decide +kernel
theorem d_R_weight_11 : decode b_R_weight 11 = .ok (.getfield 75, 3) := by decide +kernel
theorem d_R_weight_14 : decode b_R_weight 14 = .ok (.if_icmp .ge 48, 3) := by decide +kernel
theorem d_R_weight_17 : decode b_R_weight 17 = .ok (.aload_n 0, 1) := by decide +kernel
theorem d_R_weight_18 : decode b_R_weight 18 = .ok (.getfield 16, 3) := by decide +kernel
theorem d_R_weight_21 : decode b_R_weight 21 = .ok (.iconst 2, 1) := by decide +kernel
theorem d_R_weight_22 : decode b_R_weight 22 = .ok (.iload_n 2, 1) := by decide +kernel
theorem d_R_weight_23 : decode b_R_weight 23 = .ok (.imul, 1) := by decide +kernel
theorem d_R_weight_24 : decode b_R_weight 24 = .ok (.iaload, 1) := by decide +kernel
theorem d_R_weight_25 : decode b_R_weight 25 = .ok (.iconst 1, 1) := by decide +kernel
theorem d_R_weight_26 : decode b_R_weight 26 = .ok (.if_icmp .ne 28, 3) := by decide +kernel
theorem d_R_weight_29 : decode b_R_weight 29 = .ok (.aload_n 0, 1) := by decide +kernel
theorem d_R_weight_30 : decode b_R_weight 30 = .ok (.getfield 16, 3) := by decide +kernel
theorem d_R_weight_33 : decode b_R_weight 33 = .ok (.iconst 2, 1) := by decide +kernel
theorem d_R_weight_34 : decode b_R_weight 34 = .ok (.iload_n 2, 1) := by decide +kernel
theorem d_R_weight_35 : decode b_R_weight 35 = .ok (.imul, 1) := by decide +kernel
theorem d_R_weight_36 : decode b_R_weight 36 = .ok (.iconst 1, 1) := by decide +kernel
theorem d_R_weight_37 : decode b_R_weight 37 = .ok (.iadd, 1) := by decide +kernel
theorem d_R_weight_38 : decode b_R_weight 38 = .ok (.iaload, 1) := by decide +kernel
theorem d_R_weight_39 : decode b_R_weight 39 = .ok (.iconst 1, 1) := by decide +kernel
theorem d_R_weight_40 : decode b_R_weight 40 = .ok (.if_icmp .ne 14, 3) := by decide +kernel
theorem d_R_weight_43 : decode b_R_weight 43 = .ok (.iload_n 1, 1) := by decide +kernel
theorem d_R_weight_44 : decode b_R_weight 44 = .ok (.aload_n 0, 1) := by decide +kernel
theorem d_R_weight_45 : decode b_R_weight 45 = .ok (.getfield 13, 3) := by decide +kernel
theorem d_R_weight_48 : decode b_R_weight 48 = .ok (.iload_n 2, 1) := by decide +kernel
theorem d_R_weight_49 : decode b_R_weight 49 = .ok (.iaload, 1) := by decide +kernel
theorem d_R_weight_50 : decode b_R_weight 50 = .ok (.iadd, 1) := by decide +kernel
theorem d_R_weight_51 : decode b_R_weight 51 = .ok (.goto 4, 3) := by decide +kernel
theorem d_R_weight_54 : decode b_R_weight 54 = .ok (.iload_n 1, 1) := by decide +kernel
theorem d_R_weight_55 : decode b_R_weight 55 = .ok (.istore_n 1, 1) := by decide +kernel
theorem d_R_weight_56 : decode b_R_weight 56 = .ok (.iinc 2 1, 3) := by decide +kernel
theorem d_R_weight_59 : decode b_R_weight 59 = .ok (.goto (-50), 3) := by decide +kernel
theorem d_R_weight_62 : decode b_R_weight 62 = .ok (.iload_n 1, 1) := by decide +kernel
theorem d_R_weight_63 : decode b_R_weight 63 = .ok (.ireturn, 1) := by decide +kernel
