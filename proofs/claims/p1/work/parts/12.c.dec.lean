/-! decode rows -/
theorem dTr_init_0 : decode cTr_init 0 = .ok (.aload_n 0, 1) := by decide +kernel
theorem dTr_init_1 : decode cTr_init 1 = .ok (.invokespecial 3, 3) := by decide +kernel
theorem dTr_init_4 : decode cTr_init 4 = .ok (.aload_n 0, 1) := by decide +kernel
theorem dTr_init_5 : decode cTr_init 5 = .ok (.new 9, 3) := by decide +kernel
theorem dTr_init_8 : decode cTr_init 8 = .ok (.dup, 1) := by decide +kernel
theorem dTr_init_9 : decode cTr_init 9 = .ok (.invokespecial 11, 3) := by decide +kernel
theorem dTr_init_12 : decode cTr_init 12 = .ok (.putfield 12, 3) := by decide +kernel
theorem dTr_init_15 : decode cTr_init 15 = .ok (.aload_n 0, 1) := by decide +kernel
theorem dTr_init_16 : decode cTr_init 16 = .ok (.bipush 120, 2) := by decide +kernel
theorem dTr_init_18 : decode cTr_init 18 = .ok (.newarray .int, 2) := by decide +kernel
theorem dTr_init_20 : decode cTr_init 20 = .ok (.putfield 18, 3) := by decide +kernel
theorem dTr_init_23 : decode cTr_init 23 = .ok (.aload_n 0, 1) := by decide +kernel
theorem dTr_init_24 : decode cTr_init 24 = .ok (.bipush 120, 2) := by decide +kernel
theorem dTr_init_26 : decode cTr_init 26 = .ok (.newarray .int, 2) := by decide +kernel
theorem dTr_init_28 : decode cTr_init 28 = .ok (.putfield 22, 3) := by decide +kernel
theorem dTr_init_31 : decode cTr_init 31 = .ok (.aload_n 0, 1) := by decide +kernel
theorem dTr_init_32 : decode cTr_init 32 = .ok (.iconst 0, 1) := by decide +kernel
theorem dTr_init_33 : decode cTr_init 33 = .ok (.putfield 25, 3) := by decide +kernel
theorem dTr_init_36 : decode cTr_init 36 = .ok (.aload_n 0, 1) := by decide +kernel
theorem dTr_init_37 : decode cTr_init 37 = .ok (.iconst 0, 1) := by decide +kernel
theorem dTr_init_38 : decode cTr_init 38 = .ok (.putfield 29, 3) := by decide +kernel
theorem dTr_init_41 : decode cTr_init 41 = .ok (.return_, 1) := by decide +kernel
theorem dTr_translate_0 : decode cTr_translate 0 = .ok (.aload_n 0, 1) := by decide +kernel
theorem dTr_translate_1 : decode cTr_translate 1 = .ok (.getfield 12, 3) := by decide +kernel
theorem dTr_translate_4 : decode cTr_translate 4 = .ok (.iconst 0, 1) := by decide +kernel
theorem dTr_translate_5 : decode cTr_translate 5 = .ok (.putfield 32, 3) := by decide +kernel
theorem dTr_translate_8 : decode cTr_translate 8 = .ok (.aload_n 0, 1) := by decide +kernel
theorem dTr_translate_9 : decode cTr_translate 9 = .ok (.iconst 0, 1) := by decide +kernel
theorem dTr_translate_10 : decode cTr_translate 10 = .ok (.putfield 25, 3) := by decide +kernel
theorem dTr_translate_13 : decode cTr_translate 13 = .ok (.aload_n 0, 1) := by decide +kernel
theorem dTr_translate_14 : decode cTr_translate 14 = .ok (.iconst 0, 1) := by decide +kernel
theorem dTr_translate_15 : decode cTr_translate 15 = .ok (.putfield 29, 3) := by decide +kernel
theorem dTr_translate_18 : decode cTr_translate 18 = .ok (.iconst 0, 1) := by decide +kernel
theorem dTr_translate_19 : decode cTr_translate 19 = .ok (.istore_n 2, 1) := by decide +kernel
theorem dTr_translate_20 : decode cTr_translate 20 = .ok (.iload_n 2, 1) := by decide +kernel
theorem dTr_translate_21 : decode cTr_translate 21 = .ok (.aload_n 1, 1) := by decide +kernel
theorem dTr_translate_22 : decode cTr_translate 22 = .ok (.getfield 35, 3) := by decide +kernel
theorem dTr_translate_25 : decode cTr_translate 25 = .ok (.if_icmp .ge 32, 3) := by decide +kernel
theorem dTr_translate_28 : decode cTr_translate 28 = .ok (.aload_n 0, 1) := by decide +kernel
theorem dTr_translate_29 : decode cTr_translate 29 = .ok (.aload_n 1, 1) := by decide +kernel
theorem dTr_translate_30 : decode cTr_translate 30 = .ok (.getfield 38, 3) := by decide +kernel
theorem dTr_translate_33 : decode cTr_translate 33 = .ok (.iload_n 2, 1) := by decide +kernel
theorem dTr_translate_34 : decode cTr_translate 34 = .ok (.iaload, 1) := by decide +kernel
theorem dTr_translate_35 : decode cTr_translate 35 = .ok (.aload_n 1, 1) := by decide +kernel
theorem dTr_translate_36 : decode cTr_translate 36 = .ok (.getfield 41, 3) := by decide +kernel
theorem dTr_translate_39 : decode cTr_translate 39 = .ok (.iload_n 2, 1) := by decide +kernel
theorem dTr_translate_40 : decode cTr_translate 40 = .ok (.iaload, 1) := by decide +kernel
theorem dTr_translate_41 : decode cTr_translate 41 = .ok (.invokevirtual 44, 3) := by decide +kernel
theorem dTr_translate_44 : decode cTr_translate 44 = .ok (.ifCond .ne 7, 3) := by decide +kernel
theorem dTr_translate_47 : decode cTr_translate 47 = .ok (.iload_n 2, 1) := by decide +kernel
theorem dTr_translate_48 : decode cTr_translate 48 = .ok (.iconst 1, 1) := by decide +kernel
theorem dTr_translate_49 : decode cTr_translate 49 = .ok (.iadd, 1) := by decide +kernel
theorem dTr_translate_50 : decode cTr_translate 50 = .ok (.ireturn, 1) := by decide +kernel
theorem dTr_translate_51 : decode cTr_translate 51 = .ok (.iinc 2 1, 3) := by decide +kernel
theorem dTr_translate_54 : decode cTr_translate 54 = .ok (.goto (-34), 3) := by decide +kernel
theorem dTr_translate_57 : decode cTr_translate 57 = .ok (.aload_n 0, 1) := by decide +kernel
theorem dTr_translate_58 : decode cTr_translate 58 = .ok (.getfield 29, 3) := by decide +kernel
theorem dTr_translate_61 : decode cTr_translate 61 = .ok (.iconst 1, 1) := by decide +kernel
theorem dTr_translate_62 : decode cTr_translate 62 = .ok (.if_icmp .eq 10, 3) := by decide +kernel
theorem dTr_translate_65 : decode cTr_translate 65 = .ok (.aload_n 1, 1) := by decide +kernel
theorem dTr_translate_66 : decode cTr_translate 66 = .ok (.getfield 35, 3) := by decide +kernel
theorem dTr_translate_69 : decode cTr_translate 69 = .ok (.iconst 1, 1) := by decide +kernel
theorem dTr_translate_70 : decode cTr_translate 70 = .ok (.iadd, 1) := by decide +kernel
theorem dTr_translate_71 : decode cTr_translate 71 = .ok (.ireturn, 1) := by decide +kernel
theorem dTr_translate_72 : decode cTr_translate 72 = .ok (.aload_n 0, 1) := by decide +kernel
theorem dTr_translate_73 : decode cTr_translate 73 = .ok (.iconst 1, 1) := by decide +kernel
theorem dTr_translate_74 : decode cTr_translate 74 = .ok (.invokevirtual 48, 3) := by decide +kernel
theorem dTr_translate_77 : decode cTr_translate 77 = .ok (.aload_n 0, 1) := by decide +kernel
theorem dTr_translate_78 : decode cTr_translate 78 = .ok (.getfield 25, 3) := by decide +kernel
theorem dTr_translate_81 : decode cTr_translate 81 = .ok (.ifCond .ne 7, 3) := by decide +kernel
theorem dTr_translate_84 : decode cTr_translate 84 = .ok (.iconst 0, 1) := by decide +kernel
theorem dTr_translate_85 : decode cTr_translate 85 = .ok (.goto 9, 3) := by decide +kernel
theorem dTr_translate_88 : decode cTr_translate 88 = .ok (.aload_n 1, 1) := by decide +kernel
theorem dTr_translate_89 : decode cTr_translate 89 = .ok (.getfield 35, 3) := by decide +kernel
theorem dTr_translate_92 : decode cTr_translate 92 = .ok (.iconst 1, 1) := by decide +kernel
theorem dTr_translate_93 : decode cTr_translate 93 = .ok (.iadd, 1) := by decide +kernel
theorem dTr_translate_94 : decode cTr_translate 94 = .ok (.ireturn, 1) := by decide +kernel
theorem dTr_accept_0 : decode cTr_accept 0 = .ok (.aload_n 0, 1) := by decide +kernel
theorem dTr_accept_1 : decode cTr_accept 1 = .ok (.getfield 29, 3) := by decide +kernel
theorem dTr_accept_4 : decode cTr_accept 4 = .ok (.lookupswitch 41 #[(0, 28), (1, 35)], 28) := by decide +kernel
theorem dTr_accept_32 : decode cTr_accept 32 = .ok (.aload_n 0, 1) := by decide +kernel
theorem dTr_accept_33 : decode cTr_accept 33 = .ok (.iload_n 1, 1) := by decide +kernel
theorem dTr_accept_34 : decode cTr_accept 34 = .ok (.iload_n 2, 1) := by decide +kernel
theorem dTr_accept_35 : decode cTr_accept 35 = .ok (.invokevirtual 52, 3) := by decide +kernel
theorem dTr_accept_38 : decode cTr_accept 38 = .ok (.ireturn, 1) := by decide +kernel
theorem dTr_accept_39 : decode cTr_accept 39 = .ok (.aload_n 0, 1) := by decide +kernel
theorem dTr_accept_40 : decode cTr_accept 40 = .ok (.iload_n 1, 1) := by decide +kernel
theorem dTr_accept_41 : decode cTr_accept 41 = .ok (.invokevirtual 55, 3) := by decide +kernel
theorem dTr_accept_44 : decode cTr_accept 44 = .ok (.ireturn, 1) := by decide +kernel
theorem dTr_accept_45 : decode cTr_accept 45 = .ok (.aload_n 0, 1) := by decide +kernel
theorem dTr_accept_46 : decode cTr_accept 46 = .ok (.iconst 0, 1) := by decide +kernel
theorem dTr_accept_47 : decode cTr_accept 47 = .ok (.putfield 29, 3) := by decide +kernel
theorem dTr_accept_50 : decode cTr_accept 50 = .ok (.iload_n 1, 1) := by decide +kernel
theorem dTr_accept_51 : decode cTr_accept 51 = .ok (.bipush 8, 2) := by decide +kernel
theorem dTr_accept_53 : decode cTr_accept 53 = .ok (.if_icmp .ne 7, 3) := by decide +kernel
theorem dTr_accept_56 : decode cTr_accept 56 = .ok (.iconst 1, 1) := by decide +kernel
theorem dTr_accept_57 : decode cTr_accept 57 = .ok (.goto 4, 3) := by decide +kernel
theorem dTr_accept_60 : decode cTr_accept 60 = .ok (.iconst 0, 1) := by decide +kernel
theorem dTr_accept_61 : decode cTr_accept 61 = .ok (.ireturn, 1) := by decide +kernel
theorem dTr_acceptOperand_0 : decode cTr_acceptOperand 0 = .ok (.iload_n 1, 1) := by decide +kernel
theorem dTr_acceptOperand_1 : decode cTr_acceptOperand 1 = .ok (.tableswitch 115 0 13 #[71, 71, 115, 87, 115, 115, 115, 115, 95, 115, 115, 103, 103, 103], 71) := by decide +kernel
theorem dTr_acceptOperand_72 : decode cTr_acceptOperand 72 = .ok (.aload_n 0, 1) := by decide +kernel
theorem dTr_acceptOperand_73 : decode cTr_acceptOperand 73 = .ok (.getfield 12, 3) := by decide +kernel
theorem dTr_acceptOperand_76 : decode cTr_acceptOperand 76 = .ok (.iload_n 1, 1) := by decide +kernel
theorem dTr_acceptOperand_77 : decode cTr_acceptOperand 77 = .ok (.iload_n 2, 1) := by decide +kernel
theorem dTr_acceptOperand_78 : decode cTr_acceptOperand 78 = .ok (.invokevirtual 59, 3) := by decide +kernel
theorem dTr_acceptOperand_81 : decode cTr_acceptOperand 81 = .ok (.aload_n 0, 1) := by decide +kernel
theorem dTr_acceptOperand_82 : decode cTr_acceptOperand 82 = .ok (.iconst 1, 1) := by decide +kernel
theorem dTr_acceptOperand_83 : decode cTr_acceptOperand 83 = .ok (.putfield 29, 3) := by decide +kernel
theorem dTr_acceptOperand_86 : decode cTr_acceptOperand 86 = .ok (.iconst 1, 1) := by decide +kernel
theorem dTr_acceptOperand_87 : decode cTr_acceptOperand 87 = .ok (.ireturn, 1) := by decide +kernel
theorem dTr_acceptOperand_88 : decode cTr_acceptOperand 88 = .ok (.aload_n 0, 1) := by decide +kernel
theorem dTr_acceptOperand_89 : decode cTr_acceptOperand 89 = .ok (.bipush 14, 2) := by decide +kernel
theorem dTr_acceptOperand_91 : decode cTr_acceptOperand 91 = .ok (.invokevirtual 63, 3) := by decide +kernel
theorem dTr_acceptOperand_94 : decode cTr_acceptOperand 94 = .ok (.iconst 1, 1) := by decide +kernel
theorem dTr_acceptOperand_95 : decode cTr_acceptOperand 95 = .ok (.ireturn, 1) := by decide +kernel
theorem dTr_acceptOperand_96 : decode cTr_acceptOperand 96 = .ok (.aload_n 0, 1) := by decide +kernel
theorem dTr_acceptOperand_97 : decode cTr_acceptOperand 97 = .ok (.bipush 8, 2) := by decide +kernel
theorem dTr_acceptOperand_99 : decode cTr_acceptOperand 99 = .ok (.invokevirtual 63, 3) := by decide +kernel
theorem dTr_acceptOperand_102 : decode cTr_acceptOperand 102 = .ok (.iconst 1, 1) := by decide +kernel
theorem dTr_acceptOperand_103 : decode cTr_acceptOperand 103 = .ok (.ireturn, 1) := by decide +kernel
theorem dTr_acceptOperand_104 : decode cTr_acceptOperand 104 = .ok (.aload_n 0, 1) := by decide +kernel
theorem dTr_acceptOperand_105 : decode cTr_acceptOperand 105 = .ok (.iload_n 1, 1) := by decide +kernel
theorem dTr_acceptOperand_106 : decode cTr_acceptOperand 106 = .ok (.invokevirtual 63, 3) := by decide +kernel
theorem dTr_acceptOperand_109 : decode cTr_acceptOperand 109 = .ok (.aload_n 0, 1) := by decide +kernel
theorem dTr_acceptOperand_110 : decode cTr_acceptOperand 110 = .ok (.iconst 2, 1) := by decide +kernel
theorem dTr_acceptOperand_111 : decode cTr_acceptOperand 111 = .ok (.putfield 29, 3) := by decide +kernel
theorem dTr_acceptOperand_114 : decode cTr_acceptOperand 114 = .ok (.iconst 1, 1) := by decide +kernel
theorem dTr_acceptOperand_115 : decode cTr_acceptOperand 115 = .ok (.ireturn, 1) := by decide +kernel
theorem dTr_acceptOperand_116 : decode cTr_acceptOperand 116 = .ok (.iconst 0, 1) := by decide +kernel
theorem dTr_acceptOperand_117 : decode cTr_acceptOperand 117 = .ok (.ireturn, 1) := by decide +kernel
theorem dTr_push_0 : decode cTr_push 0 = .ok (.aload_n 0, 1) := by decide +kernel
theorem dTr_push_1 : decode cTr_push 1 = .ok (.getfield 25, 3) := by decide +kernel
theorem dTr_push_4 : decode cTr_push 4 = .ok (.bipush 120, 2) := by decide +kernel
theorem dTr_push_6 : decode cTr_push 6 = .ok (.if_icmp .ge 37, 3) := by decide +kernel
theorem dTr_push_9 : decode cTr_push 9 = .ok (.aload_n 0, 1) := by decide +kernel
theorem dTr_push_10 : decode cTr_push 10 = .ok (.getfield 18, 3) := by decide +kernel
theorem dTr_push_13 : decode cTr_push 13 = .ok (.aload_n 0, 1) := by decide +kernel
theorem dTr_push_14 : decode cTr_push 14 = .ok (.getfield 25, 3) := by decide +kernel
theorem dTr_push_17 : decode cTr_push 17 = .ok (.iload_n 1, 1) := by decide +kernel
theorem dTr_push_18 : decode cTr_push 18 = .ok (.iastore, 1) := by decide +kernel
theorem dTr_push_19 : decode cTr_push 19 = .ok (.aload_n 0, 1) := by decide +kernel
theorem dTr_push_20 : decode cTr_push 20 = .ok (.getfield 22, 3) := by decide +kernel
theorem dTr_push_23 : decode cTr_push 23 = .ok (.aload_n 0, 1) := by decide +kernel
theorem dTr_push_24 : decode cTr_push 24 = .ok (.getfield 25, 3) := by decide +kernel
theorem dTr_push_27 : decode cTr_push 27 = .ok (.getstatic 76, 3) := by decide +kernel
theorem dTr_push_30 : decode cTr_push 30 = .ok (.iload_n 1, 1) := by decide +kernel
theorem dTr_push_31 : decode cTr_push 31 = .ok (.iaload, 1) := by decide +kernel
theorem dTr_push_32 : decode cTr_push 32 = .ok (.iastore, 1) := by decide +kernel
theorem dTr_push_33 : decode cTr_push 33 = .ok (.aload_n 0, 1) := by decide +kernel
theorem dTr_push_34 : decode cTr_push 34 = .ok (.dup, 1) := by decide +kernel
theorem dTr_push_35 : decode cTr_push 35 = .ok (.getfield 25, 3) := by decide +kernel
theorem dTr_push_38 : decode cTr_push 38 = .ok (.iconst 1, 1) := by decide +kernel
theorem dTr_push_39 : decode cTr_push 39 = .ok (.iadd, 1) := by decide +kernel
theorem dTr_push_40 : decode cTr_push 40 = .ok (.putfield 25, 3) := by decide +kernel
theorem dTr_push_43 : decode cTr_push 43 = .ok (.return_, 1) := by decide +kernel
theorem dTr_acceptOperator_0 : decode cTr_acceptOperator 0 = .ok (.iload_n 1, 1) := by decide +kernel
theorem dTr_acceptOperator_1 : decode cTr_acceptOperator 1 = .ok (.tableswitch 94 2 10 #[51, 51, 51, 51, 51, 72, 94, 89, 84], 51) := by decide +kernel
theorem dTr_acceptOperator_52 : decode cTr_acceptOperator 52 = .ok (.aload_n 0, 1) := by decide +kernel
theorem dTr_acceptOperator_53 : decode cTr_acceptOperator 53 = .ok (.getstatic 66, 3) := by decide +kernel
theorem dTr_acceptOperator_56 : decode cTr_acceptOperator 56 = .ok (.iload_n 1, 1) := by decide +kernel
theorem dTr_acceptOperator_57 : decode cTr_acceptOperator 57 = .ok (.iaload, 1) := by decide +kernel
theorem dTr_acceptOperator_58 : decode cTr_acceptOperator 58 = .ok (.invokevirtual 48, 3) := by decide +kernel
theorem dTr_acceptOperator_61 : decode cTr_acceptOperator 61 = .ok (.aload_n 0, 1) := by decide +kernel
theorem dTr_acceptOperator_62 : decode cTr_acceptOperator 62 = .ok (.iload_n 1, 1) := by decide +kernel
theorem dTr_acceptOperator_63 : decode cTr_acceptOperator 63 = .ok (.invokevirtual 63, 3) := by decide +kernel
theorem dTr_acceptOperator_66 : decode cTr_acceptOperator 66 = .ok (.aload_n 0, 1) := by decide +kernel
theorem dTr_acceptOperator_67 : decode cTr_acceptOperator 67 = .ok (.iconst 0, 1) := by decide +kernel
theorem dTr_acceptOperator_68 : decode cTr_acceptOperator 68 = .ok (.putfield 29, 3) := by decide +kernel
theorem dTr_acceptOperator_71 : decode cTr_acceptOperator 71 = .ok (.iconst 1, 1) := by decide +kernel
theorem dTr_acceptOperator_72 : decode cTr_acceptOperator 72 = .ok (.ireturn, 1) := by decide +kernel
theorem dTr_acceptOperator_73 : decode cTr_acceptOperator 73 = .ok (.aload_n 0, 1) := by decide +kernel
theorem dTr_acceptOperator_74 : decode cTr_acceptOperator 74 = .ok (.iload_n 1, 1) := by decide +kernel
theorem dTr_acceptOperator_75 : decode cTr_acceptOperator 75 = .ok (.invokevirtual 63, 3) := by decide +kernel
theorem dTr_acceptOperator_78 : decode cTr_acceptOperator 78 = .ok (.aload_n 0, 1) := by decide +kernel
theorem dTr_acceptOperator_79 : decode cTr_acceptOperator 79 = .ok (.iconst 0, 1) := by decide +kernel
theorem dTr_acceptOperator_80 : decode cTr_acceptOperator 80 = .ok (.putfield 29, 3) := by decide +kernel
theorem dTr_acceptOperator_83 : decode cTr_acceptOperator 83 = .ok (.iconst 1, 1) := by decide +kernel
theorem dTr_acceptOperator_84 : decode cTr_acceptOperator 84 = .ok (.ireturn, 1) := by decide +kernel
theorem dTr_acceptOperator_85 : decode cTr_acceptOperator 85 = .ok (.aload_n 0, 1) := by decide +kernel
theorem dTr_acceptOperator_86 : decode cTr_acceptOperator 86 = .ok (.invokevirtual 69, 3) := by decide +kernel
theorem dTr_acceptOperator_89 : decode cTr_acceptOperator 89 = .ok (.ireturn, 1) := by decide +kernel
theorem dTr_acceptOperator_90 : decode cTr_acceptOperator 90 = .ok (.aload_n 0, 1) := by decide +kernel
theorem dTr_acceptOperator_91 : decode cTr_acceptOperator 91 = .ok (.invokevirtual 73, 3) := by decide +kernel
theorem dTr_acceptOperator_94 : decode cTr_acceptOperator 94 = .ok (.ireturn, 1) := by decide +kernel
theorem dTr_acceptOperator_95 : decode cTr_acceptOperator 95 = .ok (.iconst 0, 1) := by decide +kernel
theorem dTr_acceptOperator_96 : decode cTr_acceptOperator 96 = .ok (.ireturn, 1) := by decide +kernel
theorem dTr_release_0 : decode cTr_release 0 = .ok (.aload_n 0, 1) := by decide +kernel
theorem dTr_release_1 : decode cTr_release 1 = .ok (.getfield 25, 3) := by decide +kernel
theorem dTr_release_4 : decode cTr_release 4 = .ok (.ifCond .le 52, 3) := by decide +kernel
theorem dTr_release_7 : decode cTr_release 7 = .ok (.getstatic 66, 3) := by decide +kernel
theorem dTr_release_10 : decode cTr_release 10 = .ok (.aload_n 0, 1) := by decide +kernel
theorem dTr_release_11 : decode cTr_release 11 = .ok (.getfield 18, 3) := by decide +kernel
theorem dTr_release_14 : decode cTr_release 14 = .ok (.aload_n 0, 1) := by decide +kernel
theorem dTr_release_15 : decode cTr_release 15 = .ok (.getfield 25, 3) := by decide +kernel
theorem dTr_release_18 : decode cTr_release 18 = .ok (.iconst 1, 1) := by decide +kernel
theorem dTr_release_19 : decode cTr_release 19 = .ok (.isub, 1) := by decide +kernel
theorem dTr_release_20 : decode cTr_release 20 = .ok (.iaload, 1) := by decide +kernel
theorem dTr_release_21 : decode cTr_release 21 = .ok (.iaload, 1) := by decide +kernel
theorem dTr_release_22 : decode cTr_release 22 = .ok (.iload_n 1, 1) := by decide +kernel
theorem dTr_release_23 : decode cTr_release 23 = .ok (.if_icmp .lt 33, 3) := by decide +kernel
theorem dTr_release_26 : decode cTr_release 26 = .ok (.aload_n 0, 1) := by decide +kernel
theorem dTr_release_27 : decode cTr_release 27 = .ok (.dup, 1) := by decide +kernel
theorem dTr_release_28 : decode cTr_release 28 = .ok (.getfield 25, 3) := by decide +kernel
theorem dTr_release_31 : decode cTr_release 31 = .ok (.iconst 1, 1) := by decide +kernel
theorem dTr_release_32 : decode cTr_release 32 = .ok (.isub, 1) := by decide +kernel
theorem dTr_release_33 : decode cTr_release 33 = .ok (.putfield 25, 3) := by decide +kernel
theorem dTr_release_36 : decode cTr_release 36 = .ok (.aload_n 0, 1) := by decide +kernel
theorem dTr_release_37 : decode cTr_release 37 = .ok (.getfield 12, 3) := by decide +kernel
theorem dTr_release_40 : decode cTr_release 40 = .ok (.aload_n 0, 1) := by decide +kernel
theorem dTr_release_41 : decode cTr_release 41 = .ok (.getfield 18, 3) := by decide +kernel
theorem dTr_release_44 : decode cTr_release 44 = .ok (.aload_n 0, 1) := by decide +kernel
theorem dTr_release_45 : decode cTr_release 45 = .ok (.getfield 25, 3) := by decide +kernel
theorem dTr_release_48 : decode cTr_release 48 = .ok (.iaload, 1) := by decide +kernel
theorem dTr_release_49 : decode cTr_release 49 = .ok (.iconst 0, 1) := by decide +kernel
theorem dTr_release_50 : decode cTr_release 50 = .ok (.invokevirtual 59, 3) := by decide +kernel
theorem dTr_release_53 : decode cTr_release 53 = .ok (.goto (-53), 3) := by decide +kernel
theorem dTr_release_56 : decode cTr_release 56 = .ok (.return_, 1) := by decide +kernel
theorem dTr_acceptComma_0 : decode cTr_acceptComma 0 = .ok (.aload_n 0, 1) := by decide +kernel
theorem dTr_acceptComma_1 : decode cTr_acceptComma 1 = .ok (.iconst 1, 1) := by decide +kernel
theorem dTr_acceptComma_2 : decode cTr_acceptComma 2 = .ok (.invokevirtual 48, 3) := by decide +kernel
theorem dTr_acceptComma_5 : decode cTr_acceptComma 5 = .ok (.aload_n 0, 1) := by decide +kernel
theorem dTr_acceptComma_6 : decode cTr_acceptComma 6 = .ok (.getfield 25, 3) := by decide +kernel
theorem dTr_acceptComma_9 : decode cTr_acceptComma 9 = .ok (.ifCond .eq 17, 3) := by decide +kernel
theorem dTr_acceptComma_12 : decode cTr_acceptComma 12 = .ok (.aload_n 0, 1) := by decide +kernel
theorem dTr_acceptComma_13 : decode cTr_acceptComma 13 = .ok (.getfield 22, 3) := by decide +kernel
theorem dTr_acceptComma_16 : decode cTr_acceptComma 16 = .ok (.aload_n 0, 1) := by decide +kernel
theorem dTr_acceptComma_17 : decode cTr_acceptComma 17 = .ok (.getfield 25, 3) := by decide +kernel
theorem dTr_acceptComma_20 : decode cTr_acceptComma 20 = .ok (.iconst 1, 1) := by decide +kernel
theorem dTr_acceptComma_21 : decode cTr_acceptComma 21 = .ok (.isub, 1) := by decide +kernel
theorem dTr_acceptComma_22 : decode cTr_acceptComma 22 = .ok (.iaload, 1) := by decide +kernel
theorem dTr_acceptComma_23 : decode cTr_acceptComma 23 = .ok (.ifCond .ne 5, 3) := by decide +kernel
theorem dTr_acceptComma_26 : decode cTr_acceptComma 26 = .ok (.iconst 0, 1) := by decide +kernel
theorem dTr_acceptComma_27 : decode cTr_acceptComma 27 = .ok (.ireturn, 1) := by decide +kernel
theorem dTr_acceptComma_28 : decode cTr_acceptComma 28 = .ok (.aload_n 0, 1) := by decide +kernel
theorem dTr_acceptComma_29 : decode cTr_acceptComma 29 = .ok (.getfield 22, 3) := by decide +kernel
theorem dTr_acceptComma_32 : decode cTr_acceptComma 32 = .ok (.aload_n 0, 1) := by decide +kernel
theorem dTr_acceptComma_33 : decode cTr_acceptComma 33 = .ok (.getfield 25, 3) := by decide +kernel
theorem dTr_acceptComma_36 : decode cTr_acceptComma 36 = .ok (.iconst 1, 1) := by decide +kernel
theorem dTr_acceptComma_37 : decode cTr_acceptComma 37 = .ok (.isub, 1) := by decide +kernel
theorem dTr_acceptComma_38 : decode cTr_acceptComma 38 = .ok (.dup2, 1) := by decide +kernel
theorem dTr_acceptComma_39 : decode cTr_acceptComma 39 = .ok (.iaload, 1) := by decide +kernel
theorem dTr_acceptComma_40 : decode cTr_acceptComma 40 = .ok (.iconst 1, 1) := by decide +kernel
theorem dTr_acceptComma_41 : decode cTr_acceptComma 41 = .ok (.isub, 1) := by decide +kernel
theorem dTr_acceptComma_42 : decode cTr_acceptComma 42 = .ok (.iastore, 1) := by decide +kernel
theorem dTr_acceptComma_43 : decode cTr_acceptComma 43 = .ok (.aload_n 0, 1) := by decide +kernel
theorem dTr_acceptComma_44 : decode cTr_acceptComma 44 = .ok (.iconst 0, 1) := by decide +kernel
theorem dTr_acceptComma_45 : decode cTr_acceptComma 45 = .ok (.putfield 29, 3) := by decide +kernel
theorem dTr_acceptComma_48 : decode cTr_acceptComma 48 = .ok (.iconst 1, 1) := by decide +kernel
theorem dTr_acceptComma_49 : decode cTr_acceptComma 49 = .ok (.ireturn, 1) := by decide +kernel
theorem dTr_acceptClose_0 : decode cTr_acceptClose 0 = .ok (.aload_n 0, 1) := by decide +kernel
theorem dTr_acceptClose_1 : decode cTr_acceptClose 1 = .ok (.iconst 1, 1) := by decide +kernel
theorem dTr_acceptClose_2 : decode cTr_acceptClose 2 = .ok (.invokevirtual 48, 3) := by decide +kernel
theorem dTr_acceptClose_5 : decode cTr_acceptClose 5 = .ok (.aload_n 0, 1) := by decide +kernel
theorem dTr_acceptClose_6 : decode cTr_acceptClose 6 = .ok (.getfield 25, 3) := by decide +kernel
theorem dTr_acceptClose_9 : decode cTr_acceptClose 9 = .ok (.ifCond .eq 17, 3) := by decide +kernel
theorem dTr_acceptClose_12 : decode cTr_acceptClose 12 = .ok (.aload_n 0, 1) := by decide +kernel
theorem dTr_acceptClose_13 : decode cTr_acceptClose 13 = .ok (.getfield 22, 3) := by decide +kernel
theorem dTr_acceptClose_16 : decode cTr_acceptClose 16 = .ok (.aload_n 0, 1) := by decide +kernel
theorem dTr_acceptClose_17 : decode cTr_acceptClose 17 = .ok (.getfield 25, 3) := by decide +kernel
theorem dTr_acceptClose_20 : decode cTr_acceptClose 20 = .ok (.iconst 1, 1) := by decide +kernel
theorem dTr_acceptClose_21 : decode cTr_acceptClose 21 = .ok (.isub, 1) := by decide +kernel
theorem dTr_acceptClose_22 : decode cTr_acceptClose 22 = .ok (.iaload, 1) := by decide +kernel
theorem dTr_acceptClose_23 : decode cTr_acceptClose 23 = .ok (.ifCond .eq 5, 3) := by decide +kernel
theorem dTr_acceptClose_26 : decode cTr_acceptClose 26 = .ok (.iconst 0, 1) := by decide +kernel
theorem dTr_acceptClose_27 : decode cTr_acceptClose 27 = .ok (.ireturn, 1) := by decide +kernel
theorem dTr_acceptClose_28 : decode cTr_acceptClose 28 = .ok (.aload_n 0, 1) := by decide +kernel
theorem dTr_acceptClose_29 : decode cTr_acceptClose 29 = .ok (.dup, 1) := by decide +kernel
theorem dTr_acceptClose_30 : decode cTr_acceptClose 30 = .ok (.getfield 25, 3) := by decide +kernel
theorem dTr_acceptClose_33 : decode cTr_acceptClose 33 = .ok (.iconst 1, 1) := by decide +kernel
theorem dTr_acceptClose_34 : decode cTr_acceptClose 34 = .ok (.isub, 1) := by decide +kernel
theorem dTr_acceptClose_35 : decode cTr_acceptClose 35 = .ok (.putfield 25, 3) := by decide +kernel
theorem dTr_acceptClose_38 : decode cTr_acceptClose 38 = .ok (.aload_n 0, 1) := by decide +kernel
theorem dTr_acceptClose_39 : decode cTr_acceptClose 39 = .ok (.getfield 18, 3) := by decide +kernel
theorem dTr_acceptClose_42 : decode cTr_acceptClose 42 = .ok (.aload_n 0, 1) := by decide +kernel
theorem dTr_acceptClose_43 : decode cTr_acceptClose 43 = .ok (.getfield 25, 3) := by decide +kernel
theorem dTr_acceptClose_46 : decode cTr_acceptClose 46 = .ok (.iaload, 1) := by decide +kernel
theorem dTr_acceptClose_47 : decode cTr_acceptClose 47 = .ok (.bipush 8, 2) := by decide +kernel
theorem dTr_acceptClose_49 : decode cTr_acceptClose 49 = .ok (.if_icmp .eq 20, 3) := by decide +kernel
theorem dTr_acceptClose_52 : decode cTr_acceptClose 52 = .ok (.aload_n 0, 1) := by decide +kernel
theorem dTr_acceptClose_53 : decode cTr_acceptClose 53 = .ok (.getfield 12, 3) := by decide +kernel
theorem dTr_acceptClose_56 : decode cTr_acceptClose 56 = .ok (.aload_n 0, 1) := by decide +kernel
theorem dTr_acceptClose_57 : decode cTr_acceptClose 57 = .ok (.getfield 18, 3) := by decide +kernel
theorem dTr_acceptClose_60 : decode cTr_acceptClose 60 = .ok (.aload_n 0, 1) := by decide +kernel
theorem dTr_acceptClose_61 : decode cTr_acceptClose 61 = .ok (.getfield 25, 3) := by decide +kernel
theorem dTr_acceptClose_64 : decode cTr_acceptClose 64 = .ok (.iaload, 1) := by decide +kernel
theorem dTr_acceptClose_65 : decode cTr_acceptClose 65 = .ok (.iconst 0, 1) := by decide +kernel
theorem dTr_acceptClose_66 : decode cTr_acceptClose 66 = .ok (.invokevirtual 59, 3) := by decide +kernel
theorem dTr_acceptClose_69 : decode cTr_acceptClose 69 = .ok (.iconst 1, 1) := by decide +kernel
theorem dTr_acceptClose_70 : decode cTr_acceptClose 70 = .ok (.ireturn, 1) := by decide +kernel
theorem dAr_init_0 : decode cAr_init 0 = .ok (.aload_n 0, 1) := by decide +kernel
theorem dAr_init_1 : decode cAr_init 1 = .ok (.invokespecial 3, 3) := by decide +kernel
theorem dAr_init_4 : decode cAr_init 4 = .ok (.aload_n 0, 1) := by decide +kernel
theorem dAr_init_5 : decode cAr_init 5 = .ok (.new 9, 3) := by decide +kernel
theorem dAr_init_8 : decode cAr_init 8 = .ok (.dup, 1) := by decide +kernel
theorem dAr_init_9 : decode cAr_init 9 = .ok (.invokespecial 11, 3) := by decide +kernel
theorem dAr_init_12 : decode cAr_init 12 = .ok (.putfield 12, 3) := by decide +kernel
theorem dAr_init_15 : decode cAr_init 15 = .ok (.aload_n 0, 1) := by decide +kernel
theorem dAr_init_16 : decode cAr_init 16 = .ok (.new 18, 3) := by decide +kernel
theorem dAr_init_19 : decode cAr_init 19 = .ok (.dup, 1) := by decide +kernel
theorem dAr_init_20 : decode cAr_init 20 = .ok (.invokespecial 20, 3) := by decide +kernel
theorem dAr_init_23 : decode cAr_init 23 = .ok (.putfield 21, 3) := by decide +kernel
theorem dAr_init_26 : decode cAr_init 26 = .ok (.aload_n 0, 1) := by decide +kernel
theorem dAr_init_27 : decode cAr_init 27 = .ok (.getfield 21, 3) := by decide +kernel
theorem dAr_init_30 : decode cAr_init 30 = .ok (.lconst 1, 1) := by decide +kernel
theorem dAr_init_31 : decode cAr_init 31 = .ok (.invokevirtual 25, 3) := by decide +kernel
theorem dAr_init_34 : decode cAr_init 34 = .ok (.aload_n 0, 1) := by decide +kernel
theorem dAr_init_35 : decode cAr_init 35 = .ok (.new 18, 3) := by decide +kernel
theorem dAr_init_38 : decode cAr_init 38 = .ok (.dup, 1) := by decide +kernel
theorem dAr_init_39 : decode cAr_init 39 = .ok (.invokespecial 20, 3) := by decide +kernel
theorem dAr_init_42 : decode cAr_init 42 = .ok (.putfield 29, 3) := by decide +kernel
theorem dAr_init_45 : decode cAr_init 45 = .ok (.aload_n 0, 1) := by decide +kernel
theorem dAr_init_46 : decode cAr_init 46 = .ok (.new 18, 3) := by decide +kernel
theorem dAr_init_49 : decode cAr_init 49 = .ok (.dup, 1) := by decide +kernel
theorem dAr_init_50 : decode cAr_init 50 = .ok (.invokespecial 20, 3) := by decide +kernel
theorem dAr_init_53 : decode cAr_init 53 = .ok (.putfield 32, 3) := by decide +kernel
theorem dAr_init_56 : decode cAr_init 56 = .ok (.aload_n 0, 1) := by decide +kernel
theorem dAr_init_57 : decode cAr_init 57 = .ok (.new 18, 3) := by decide +kernel
theorem dAr_init_60 : decode cAr_init 60 = .ok (.dup, 1) := by decide +kernel
theorem dAr_init_61 : decode cAr_init 61 = .ok (.invokespecial 20, 3) := by decide +kernel
theorem dAr_init_64 : decode cAr_init 64 = .ok (.putfield 35, 3) := by decide +kernel
theorem dAr_init_67 : decode cAr_init 67 = .ok (.return_, 1) := by decide +kernel
theorem dAr_add_0 : decode cAr_add 0 = .ok (.aload_n 0, 1) := by decide +kernel
theorem dAr_add_1 : decode cAr_add 1 = .ok (.aload_n 1, 1) := by decide +kernel
theorem dAr_add_2 : decode cAr_add 2 = .ok (.aload_n 2, 1) := by decide +kernel
theorem dAr_add_3 : decode cAr_add 3 = .ok (.getfield 38, 3) := by decide +kernel
theorem dAr_add_6 : decode cAr_add 6 = .ok (.aload_n 2, 1) := by decide +kernel
theorem dAr_add_7 : decode cAr_add 7 = .ok (.getfield 43, 3) := by decide +kernel
theorem dAr_add_10 : decode cAr_add 10 = .ok (.invokevirtual 47, 3) := by decide +kernel
theorem dAr_add_13 : decode cAr_add 13 = .ok (.ireturn, 1) := by decide +kernel
theorem dAr_addSigned_0 : decode cAr_addSigned 0 = .ok (.aload_n 1, 1) := by decide +kernel
theorem dAr_addSigned_1 : decode cAr_addSigned 1 = .ok (.getfield 43, 3) := by decide +kernel
theorem dAr_addSigned_4 : decode cAr_addSigned 4 = .ok (.istore 4, 2) := by decide +kernel
theorem dAr_addSigned_6 : decode cAr_addSigned 6 = .ok (.aload_n 1, 1) := by decide +kernel
theorem dAr_addSigned_7 : decode cAr_addSigned 7 = .ok (.getfield 43, 3) := by decide +kernel
theorem dAr_addSigned_10 : decode cAr_addSigned 10 = .ok (.iload_n 3, 1) := by decide +kernel
theorem dAr_addSigned_11 : decode cAr_addSigned 11 = .ok (.if_icmp .ne 18, 3) := by decide +kernel
theorem dAr_addSigned_14 : decode cAr_addSigned 14 = .ok (.aload_n 0, 1) := by decide +kernel
theorem dAr_addSigned_15 : decode cAr_addSigned 15 = .ok (.getfield 29, 3) := by decide +kernel
theorem dAr_addSigned_18 : decode cAr_addSigned 18 = .ok (.aload_n 1, 1) := by decide +kernel
theorem dAr_addSigned_19 : decode cAr_addSigned 19 = .ok (.getfield 38, 3) := by decide +kernel
theorem dAr_addSigned_22 : decode cAr_addSigned 22 = .ok (.aload_n 2, 1) := by decide +kernel
theorem dAr_addSigned_23 : decode cAr_addSigned 23 = .ok (.invokevirtual 51, 3) := by decide +kernel
theorem dAr_addSigned_26 : decode cAr_addSigned 26 = .ok (.goto 44, 3) := by decide +kernel
theorem dAr_addSigned_29 : decode cAr_addSigned 29 = .ok (.aload_n 1, 1) := by decide +kernel
theorem dAr_addSigned_30 : decode cAr_addSigned 30 = .ok (.getfield 38, 3) := by decide +kernel
theorem dAr_addSigned_33 : decode cAr_addSigned 33 = .ok (.aload_n 2, 1) := by decide +kernel
theorem dAr_addSigned_34 : decode cAr_addSigned 34 = .ok (.invokevirtual 55, 3) := by decide +kernel
theorem dAr_addSigned_37 : decode cAr_addSigned 37 = .ok (.ifCond .lt 18, 3) := by decide +kernel
theorem dAr_addSigned_40 : decode cAr_addSigned 40 = .ok (.aload_n 0, 1) := by decide +kernel
theorem dAr_addSigned_41 : decode cAr_addSigned 41 = .ok (.getfield 29, 3) := by decide +kernel
theorem dAr_addSigned_44 : decode cAr_addSigned 44 = .ok (.aload_n 1, 1) := by decide +kernel
theorem dAr_addSigned_45 : decode cAr_addSigned 45 = .ok (.getfield 38, 3) := by decide +kernel
theorem dAr_addSigned_48 : decode cAr_addSigned 48 = .ok (.aload_n 2, 1) := by decide +kernel
theorem dAr_addSigned_49 : decode cAr_addSigned 49 = .ok (.invokevirtual 59, 3) := by decide +kernel
theorem dAr_addSigned_52 : decode cAr_addSigned 52 = .ok (.goto 18, 3) := by decide +kernel
theorem dAr_addSigned_55 : decode cAr_addSigned 55 = .ok (.aload_n 0, 1) := by decide +kernel
theorem dAr_addSigned_56 : decode cAr_addSigned 56 = .ok (.getfield 29, 3) := by decide +kernel
theorem dAr_addSigned_59 : decode cAr_addSigned 59 = .ok (.aload_n 2, 1) := by decide +kernel
theorem dAr_addSigned_60 : decode cAr_addSigned 60 = .ok (.aload_n 1, 1) := by decide +kernel
theorem dAr_addSigned_61 : decode cAr_addSigned 61 = .ok (.getfield 38, 3) := by decide +kernel
theorem dAr_addSigned_64 : decode cAr_addSigned 64 = .ok (.invokevirtual 59, 3) := by decide +kernel
theorem dAr_addSigned_67 : decode cAr_addSigned 67 = .ok (.iload_n 3, 1) := by decide +kernel
theorem dAr_addSigned_68 : decode cAr_addSigned 68 = .ok (.istore 4, 2) := by decide +kernel
theorem dAr_addSigned_70 : decode cAr_addSigned 70 = .ok (.aload_n 0, 1) := by decide +kernel
theorem dAr_addSigned_71 : decode cAr_addSigned 71 = .ok (.getfield 29, 3) := by decide +kernel
theorem dAr_addSigned_74 : decode cAr_addSigned 74 = .ok (.iload 4, 2) := by decide +kernel
theorem dAr_addSigned_76 : decode cAr_addSigned 76 = .ok (.aload_n 1, 1) := by decide +kernel
theorem dAr_addSigned_77 : decode cAr_addSigned 77 = .ok (.invokestatic 62, 3) := by decide +kernel
theorem dAr_addSigned_80 : decode cAr_addSigned 80 = .ok (.ireturn, 1) := by decide +kernel
theorem dAr_store_0 : decode cAr_store 0 = .ok (.aload_n 0, 1) := by decide +kernel
theorem dAr_store_1 : decode cAr_store 1 = .ok (.invokevirtual 94, 3) := by decide +kernel
theorem dAr_store_4 : decode cAr_store 4 = .ok (.ifCond .eq 6, 3) := by decide +kernel
theorem dAr_store_7 : decode cAr_store 7 = .ok (.bipush 6, 2) := by decide +kernel
theorem dAr_store_9 : decode cAr_store 9 = .ok (.ireturn, 1) := by decide +kernel
theorem dAr_store_10 : decode cAr_store 10 = .ok (.aload_n 2, 1) := by decide +kernel
theorem dAr_store_11 : decode cAr_store 11 = .ok (.getfield 38, 3) := by decide +kernel
theorem dAr_store_14 : decode cAr_store 14 = .ok (.aload_n 0, 1) := by decide +kernel
theorem dAr_store_15 : decode cAr_store 15 = .ok (.invokevirtual 82, 3) := by decide +kernel
theorem dAr_store_18 : decode cAr_store 18 = .ok (.aload_n 2, 1) := by decide +kernel
theorem dAr_store_19 : decode cAr_store 19 = .ok (.iload_n 1, 1) := by decide +kernel
theorem dAr_store_20 : decode cAr_store 20 = .ok (.ifCond .eq 14, 3) := by decide +kernel
theorem dAr_store_23 : decode cAr_store 23 = .ok (.aload_n 0, 1) := by decide +kernel
theorem dAr_store_24 : decode cAr_store 24 = .ok (.invokevirtual 69, 3) := by decide +kernel
theorem dAr_store_27 : decode cAr_store 27 = .ok (.ifCond .ne 7, 3) := by decide +kernel
theorem dAr_store_30 : decode cAr_store 30 = .ok (.iconst 1, 1) := by decide +kernel
theorem dAr_store_31 : decode cAr_store 31 = .ok (.goto 4, 3) := by decide +kernel
theorem dAr_store_34 : decode cAr_store 34 = .ok (.iconst 0, 1) := by decide +kernel
theorem dAr_store_35 : decode cAr_store 35 = .ok (.putfield 43, 3) := by decide +kernel
theorem dAr_store_38 : decode cAr_store 38 = .ok (.iconst 0, 1) := by decide +kernel
theorem dAr_store_39 : decode cAr_store 39 = .ok (.ireturn, 1) := by decide +kernel
theorem dAr_subtract_0 : decode cAr_subtract 0 = .ok (.aload_n 0, 1) := by decide +kernel
theorem dAr_subtract_1 : decode cAr_subtract 1 = .ok (.aload_n 1, 1) := by decide +kernel
theorem dAr_subtract_2 : decode cAr_subtract 2 = .ok (.aload_n 2, 1) := by decide +kernel
theorem dAr_subtract_3 : decode cAr_subtract 3 = .ok (.getfield 38, 3) := by decide +kernel
theorem dAr_subtract_6 : decode cAr_subtract 6 = .ok (.aload_n 2, 1) := by decide +kernel
theorem dAr_subtract_7 : decode cAr_subtract 7 = .ok (.getfield 43, 3) := by decide +kernel
theorem dAr_subtract_10 : decode cAr_subtract 10 = .ok (.ifCond .ne 7, 3) := by decide +kernel
theorem dAr_subtract_13 : decode cAr_subtract 13 = .ok (.iconst 1, 1) := by decide +kernel
theorem dAr_subtract_14 : decode cAr_subtract 14 = .ok (.goto 4, 3) := by decide +kernel
theorem dAr_subtract_17 : decode cAr_subtract 17 = .ok (.iconst 0, 1) := by decide +kernel
theorem dAr_subtract_18 : decode cAr_subtract 18 = .ok (.invokevirtual 47, 3) := by decide +kernel
theorem dAr_subtract_21 : decode cAr_subtract 21 = .ok (.ireturn, 1) := by decide +kernel
theorem dAr_multiply_0 : decode cAr_multiply 0 = .ok (.aload_n 0, 1) := by decide +kernel
theorem dAr_multiply_1 : decode cAr_multiply 1 = .ok (.getfield 32, 3) := by decide +kernel
theorem dAr_multiply_4 : decode cAr_multiply 4 = .ok (.aload_n 1, 1) := by decide +kernel
theorem dAr_multiply_5 : decode cAr_multiply 5 = .ok (.getfield 38, 3) := by decide +kernel
theorem dAr_multiply_8 : decode cAr_multiply 8 = .ok (.aload_n 2, 1) := by decide +kernel
theorem dAr_multiply_9 : decode cAr_multiply 9 = .ok (.getfield 38, 3) := by decide +kernel
theorem dAr_multiply_12 : decode cAr_multiply 12 = .ok (.invokevirtual 66, 3) := by decide +kernel
theorem dAr_multiply_15 : decode cAr_multiply 15 = .ok (.aload_n 0, 1) := by decide +kernel
theorem dAr_multiply_16 : decode cAr_multiply 16 = .ok (.getfield 32, 3) := by decide +kernel
theorem dAr_multiply_19 : decode cAr_multiply 19 = .ok (.aload_n 1, 1) := by decide +kernel
theorem dAr_multiply_20 : decode cAr_multiply 20 = .ok (.getfield 43, 3) := by decide +kernel
theorem dAr_multiply_23 : decode cAr_multiply 23 = .ok (.aload_n 2, 1) := by decide +kernel
theorem dAr_multiply_24 : decode cAr_multiply 24 = .ok (.getfield 43, 3) := by decide +kernel
theorem dAr_multiply_27 : decode cAr_multiply 27 = .ok (.if_icmp .eq 7, 3) := by decide +kernel
theorem dAr_multiply_30 : decode cAr_multiply 30 = .ok (.iconst 1, 1) := by decide +kernel
theorem dAr_multiply_31 : decode cAr_multiply 31 = .ok (.goto 4, 3) := by decide +kernel
theorem dAr_multiply_34 : decode cAr_multiply 34 = .ok (.iconst 0, 1) := by decide +kernel
theorem dAr_multiply_35 : decode cAr_multiply 35 = .ok (.aload_n 1, 1) := by decide +kernel
theorem dAr_multiply_36 : decode cAr_multiply 36 = .ok (.invokestatic 62, 3) := by decide +kernel
theorem dAr_multiply_39 : decode cAr_multiply 39 = .ok (.ireturn, 1) := by decide +kernel
theorem dAr_divideForQuotient_0 : decode cAr_divideForQuotient 0 = .ok (.aload_n 2, 1) := by decide +kernel
theorem dAr_divideForQuotient_1 : decode cAr_divideForQuotient 1 = .ok (.getfield 38, 3) := by decide +kernel
theorem dAr_divideForQuotient_4 : decode cAr_divideForQuotient 4 = .ok (.invokevirtual 69, 3) := by decide +kernel
theorem dAr_divideForQuotient_7 : decode cAr_divideForQuotient 7 = .ok (.ifCond .eq 5, 3) := by decide +kernel
theorem dAr_divideForQuotient_10 : decode cAr_divideForQuotient 10 = .ok (.iconst 2, 1) := by decide +kernel
theorem dAr_divideForQuotient_11 : decode cAr_divideForQuotient 11 = .ok (.ireturn, 1) := by decide +kernel
theorem dAr_divideForQuotient_12 : decode cAr_divideForQuotient 12 = .ok (.aload_n 0, 1) := by decide +kernel
theorem dAr_divideForQuotient_13 : decode cAr_divideForQuotient 13 = .ok (.getfield 12, 3) := by decide +kernel
theorem dAr_divideForQuotient_16 : decode cAr_divideForQuotient 16 = .ok (.aload_n 1, 1) := by decide +kernel
theorem dAr_divideForQuotient_17 : decode cAr_divideForQuotient 17 = .ok (.getfield 38, 3) := by decide +kernel
theorem dAr_divideForQuotient_20 : decode cAr_divideForQuotient 20 = .ok (.aload_n 2, 1) := by decide +kernel
theorem dAr_divideForQuotient_21 : decode cAr_divideForQuotient 21 = .ok (.getfield 38, 3) := by decide +kernel
theorem dAr_divideForQuotient_24 : decode cAr_divideForQuotient 24 = .ok (.invokevirtual 73, 3) := by decide +kernel
theorem dAr_divideForQuotient_27 : decode cAr_divideForQuotient 27 = .ok (.aload_n 1, 1) := by decide +kernel
theorem dAr_divideForQuotient_28 : decode cAr_divideForQuotient 28 = .ok (.getfield 43, 3) := by decide +kernel
theorem dAr_divideForQuotient_31 : decode cAr_divideForQuotient 31 = .ok (.aload_n 2, 1) := by decide +kernel
theorem dAr_divideForQuotient_32 : decode cAr_divideForQuotient 32 = .ok (.getfield 43, 3) := by decide +kernel
theorem dAr_divideForQuotient_35 : decode cAr_divideForQuotient 35 = .ok (.if_icmp .eq 7, 3) := by decide +kernel
theorem dAr_divideForQuotient_38 : decode cAr_divideForQuotient 38 = .ok (.iconst 1, 1) := by decide +kernel
theorem dAr_divideForQuotient_39 : decode cAr_divideForQuotient 39 = .ok (.goto 4, 3) := by decide +kernel
theorem dAr_divideForQuotient_42 : decode cAr_divideForQuotient 42 = .ok (.iconst 0, 1) := by decide +kernel
theorem dAr_divideForQuotient_43 : decode cAr_divideForQuotient 43 = .ok (.istore_n 3, 1) := by decide +kernel
theorem dAr_divideForQuotient_44 : decode cAr_divideForQuotient 44 = .ok (.iload_n 3, 1) := by decide +kernel
theorem dAr_divideForQuotient_45 : decode cAr_divideForQuotient 45 = .ok (.ifCond .eq 37, 3) := by decide +kernel
theorem dAr_divideForQuotient_48 : decode cAr_divideForQuotient 48 = .ok (.aload_n 0, 1) := by decide +kernel
theorem dAr_divideForQuotient_49 : decode cAr_divideForQuotient 49 = .ok (.getfield 12, 3) := by decide +kernel
theorem dAr_divideForQuotient_52 : decode cAr_divideForQuotient 52 = .ok (.getfield 76, 3) := by decide +kernel
theorem dAr_divideForQuotient_55 : decode cAr_divideForQuotient 55 = .ok (.invokevirtual 69, 3) := by decide +kernel
theorem dAr_divideForQuotient_58 : decode cAr_divideForQuotient 58 = .ok (.ifCond .ne 24, 3) := by decide +kernel
theorem dAr_divideForQuotient_61 : decode cAr_divideForQuotient 61 = .ok (.aload_n 0, 1) := by decide +kernel
theorem dAr_divideForQuotient_62 : decode cAr_divideForQuotient 62 = .ok (.getfield 29, 3) := by decide +kernel
theorem dAr_divideForQuotient_65 : decode cAr_divideForQuotient 65 = .ok (.aload_n 0, 1) := by decide +kernel
theorem dAr_divideForQuotient_66 : decode cAr_divideForQuotient 66 = .ok (.getfield 12, 3) := by decide +kernel
theorem dAr_divideForQuotient_69 : decode cAr_divideForQuotient 69 = .ok (.getfield 79, 3) := by decide +kernel
theorem dAr_divideForQuotient_72 : decode cAr_divideForQuotient 72 = .ok (.aload_n 0, 1) := by decide +kernel
theorem dAr_divideForQuotient_73 : decode cAr_divideForQuotient 73 = .ok (.getfield 21, 3) := by decide +kernel
theorem dAr_divideForQuotient_76 : decode cAr_divideForQuotient 76 = .ok (.invokevirtual 51, 3) := by decide +kernel
theorem dAr_divideForQuotient_79 : decode cAr_divideForQuotient 79 = .ok (.goto 17, 3) := by decide +kernel
theorem dAr_divideForQuotient_82 : decode cAr_divideForQuotient 82 = .ok (.aload_n 0, 1) := by decide +kernel
theorem dAr_divideForQuotient_83 : decode cAr_divideForQuotient 83 = .ok (.getfield 29, 3) := by decide +kernel
theorem dAr_divideForQuotient_86 : decode cAr_divideForQuotient 86 = .ok (.aload_n 0, 1) := by decide +kernel
theorem dAr_divideForQuotient_87 : decode cAr_divideForQuotient 87 = .ok (.getfield 12, 3) := by decide +kernel
theorem dAr_divideForQuotient_90 : decode cAr_divideForQuotient 90 = .ok (.getfield 79, 3) := by decide +kernel
theorem dAr_divideForQuotient_93 : decode cAr_divideForQuotient 93 = .ok (.invokevirtual 82, 3) := by decide +kernel
theorem dAr_divideForQuotient_96 : decode cAr_divideForQuotient 96 = .ok (.aload_n 0, 1) := by decide +kernel
theorem dAr_divideForQuotient_97 : decode cAr_divideForQuotient 97 = .ok (.getfield 29, 3) := by decide +kernel
theorem dAr_divideForQuotient_100 : decode cAr_divideForQuotient 100 = .ok (.iload_n 3, 1) := by decide +kernel
theorem dAr_divideForQuotient_101 : decode cAr_divideForQuotient 101 = .ok (.aload_n 1, 1) := by decide +kernel
theorem dAr_divideForQuotient_102 : decode cAr_divideForQuotient 102 = .ok (.invokestatic 62, 3) := by decide +kernel
theorem dAr_divideForQuotient_105 : decode cAr_divideForQuotient 105 = .ok (.ireturn, 1) := by decide +kernel
theorem dAr_divideForRest_0 : decode cAr_divideForRest 0 = .ok (.aload_n 2, 1) := by decide +kernel
theorem dAr_divideForRest_1 : decode cAr_divideForRest 1 = .ok (.getfield 38, 3) := by decide +kernel
theorem dAr_divideForRest_4 : decode cAr_divideForRest 4 = .ok (.invokevirtual 69, 3) := by decide +kernel
theorem dAr_divideForRest_7 : decode cAr_divideForRest 7 = .ok (.ifCond .eq 5, 3) := by decide +kernel
theorem dAr_divideForRest_10 : decode cAr_divideForRest 10 = .ok (.iconst 2, 1) := by decide +kernel
theorem dAr_divideForRest_11 : decode cAr_divideForRest 11 = .ok (.ireturn, 1) := by decide +kernel
theorem dAr_divideForRest_12 : decode cAr_divideForRest 12 = .ok (.aload_n 0, 1) := by decide +kernel
theorem dAr_divideForRest_13 : decode cAr_divideForRest 13 = .ok (.aload_n 1, 1) := by decide +kernel
theorem dAr_divideForRest_14 : decode cAr_divideForRest 14 = .ok (.aload_n 2, 1) := by decide +kernel
theorem dAr_divideForRest_15 : decode cAr_divideForRest 15 = .ok (.aload_n 0, 1) := by decide +kernel
theorem dAr_divideForRest_16 : decode cAr_divideForRest 16 = .ok (.getfield 29, 3) := by decide +kernel
theorem dAr_divideForRest_19 : decode cAr_divideForRest 19 = .ok (.invokevirtual 86, 3) := by decide +kernel
theorem dAr_divideForRest_22 : decode cAr_divideForRest 22 = .ok (.aload_n 0, 1) := by decide +kernel
theorem dAr_divideForRest_23 : decode cAr_divideForRest 23 = .ok (.getfield 29, 3) := by decide +kernel
theorem dAr_divideForRest_26 : decode cAr_divideForRest 26 = .ok (.aload_n 2, 1) := by decide +kernel
theorem dAr_divideForRest_27 : decode cAr_divideForRest 27 = .ok (.getfield 43, 3) := by decide +kernel
theorem dAr_divideForRest_30 : decode cAr_divideForRest 30 = .ok (.aload_n 1, 1) := by decide +kernel
theorem dAr_divideForRest_31 : decode cAr_divideForRest 31 = .ok (.invokestatic 62, 3) := by decide +kernel
theorem dAr_divideForRest_34 : decode cAr_divideForRest 34 = .ok (.ireturn, 1) := by decide +kernel
theorem dAr_floorRest_0 : decode cAr_floorRest 0 = .ok (.aload_n 0, 1) := by decide +kernel
theorem dAr_floorRest_1 : decode cAr_floorRest 1 = .ok (.getfield 12, 3) := by decide +kernel
theorem dAr_floorRest_4 : decode cAr_floorRest 4 = .ok (.aload_n 1, 1) := by decide +kernel
theorem dAr_floorRest_5 : decode cAr_floorRest 5 = .ok (.getfield 38, 3) := by decide +kernel
theorem dAr_floorRest_8 : decode cAr_floorRest 8 = .ok (.aload_n 2, 1) := by decide +kernel
theorem dAr_floorRest_9 : decode cAr_floorRest 9 = .ok (.getfield 38, 3) := by decide +kernel
theorem dAr_floorRest_12 : decode cAr_floorRest 12 = .ok (.invokevirtual 73, 3) := by decide +kernel
theorem dAr_floorRest_15 : decode cAr_floorRest 15 = .ok (.aload_n 1, 1) := by decide +kernel
theorem dAr_floorRest_16 : decode cAr_floorRest 16 = .ok (.getfield 43, 3) := by decide +kernel
theorem dAr_floorRest_19 : decode cAr_floorRest 19 = .ok (.aload_n 2, 1) := by decide +kernel
theorem dAr_floorRest_20 : decode cAr_floorRest 20 = .ok (.getfield 43, 3) := by decide +kernel
theorem dAr_floorRest_23 : decode cAr_floorRest 23 = .ok (.if_icmp .eq 34, 3) := by decide +kernel
theorem dAr_floorRest_26 : decode cAr_floorRest 26 = .ok (.aload_n 0, 1) := by decide +kernel
theorem dAr_floorRest_27 : decode cAr_floorRest 27 = .ok (.getfield 12, 3) := by decide +kernel
theorem dAr_floorRest_30 : decode cAr_floorRest 30 = .ok (.getfield 76, 3) := by decide +kernel
theorem dAr_floorRest_33 : decode cAr_floorRest 33 = .ok (.invokevirtual 69, 3) := by decide +kernel
theorem dAr_floorRest_36 : decode cAr_floorRest 36 = .ok (.ifCond .ne 21, 3) := by decide +kernel
theorem dAr_floorRest_39 : decode cAr_floorRest 39 = .ok (.aload_n 3, 1) := by decide +kernel
theorem dAr_floorRest_40 : decode cAr_floorRest 40 = .ok (.aload_n 2, 1) := by decide +kernel
theorem dAr_floorRest_41 : decode cAr_floorRest 41 = .ok (.getfield 38, 3) := by decide +kernel
theorem dAr_floorRest_44 : decode cAr_floorRest 44 = .ok (.aload_n 0, 1) := by decide +kernel
theorem dAr_floorRest_45 : decode cAr_floorRest 45 = .ok (.getfield 12, 3) := by decide +kernel
theorem dAr_floorRest_48 : decode cAr_floorRest 48 = .ok (.getfield 76, 3) := by decide +kernel
theorem dAr_floorRest_51 : decode cAr_floorRest 51 = .ok (.invokevirtual 59, 3) := by decide +kernel
theorem dAr_floorRest_54 : decode cAr_floorRest 54 = .ok (.goto 14, 3) := by decide +kernel
theorem dAr_floorRest_57 : decode cAr_floorRest 57 = .ok (.aload_n 3, 1) := by decide +kernel
theorem dAr_floorRest_58 : decode cAr_floorRest 58 = .ok (.aload_n 0, 1) := by decide +kernel
theorem dAr_floorRest_59 : decode cAr_floorRest 59 = .ok (.getfield 12, 3) := by decide +kernel
theorem dAr_floorRest_62 : decode cAr_floorRest 62 = .ok (.getfield 76, 3) := by decide +kernel
theorem dAr_floorRest_65 : decode cAr_floorRest 65 = .ok (.invokevirtual 82, 3) := by decide +kernel
theorem dAr_floorRest_68 : decode cAr_floorRest 68 = .ok (.return_, 1) := by decide +kernel
theorem dAr_raise_0 : decode cAr_raise 0 = .ok (.aload_n 2, 1) := by decide +kernel
theorem dAr_raise_1 : decode cAr_raise 1 = .ok (.getfield 43, 3) := by decide +kernel
theorem dAr_raise_4 : decode cAr_raise 4 = .ok (.ifCond .eq 5, 3) := by decide +kernel
theorem dAr_raise_7 : decode cAr_raise 7 = .ok (.iconst 3, 1) := by decide +kernel
theorem dAr_raise_8 : decode cAr_raise 8 = .ok (.ireturn, 1) := by decide +kernel
theorem dAr_raise_9 : decode cAr_raise 9 = .ok (.aload_n 0, 1) := by decide +kernel
theorem dAr_raise_10 : decode cAr_raise 10 = .ok (.getfield 29, 3) := by decide +kernel
theorem dAr_raise_13 : decode cAr_raise 13 = .ok (.lconst 1, 1) := by decide +kernel
theorem dAr_raise_14 : decode cAr_raise 14 = .ok (.invokevirtual 25, 3) := by decide +kernel
theorem dAr_raise_17 : decode cAr_raise 17 = .ok (.aload_n 2, 1) := by decide +kernel
theorem dAr_raise_18 : decode cAr_raise 18 = .ok (.getfield 38, 3) := by decide +kernel
theorem dAr_raise_21 : decode cAr_raise 21 = .ok (.invokevirtual 90, 3) := by decide +kernel
theorem dAr_raise_24 : decode cAr_raise 24 = .ok (.iconst 1, 1) := by decide +kernel
theorem dAr_raise_25 : decode cAr_raise 25 = .ok (.isub, 1) := by decide +kernel
theorem dAr_raise_26 : decode cAr_raise 26 = .ok (.istore_n 3, 1) := by decide +kernel
theorem dAr_raise_27 : decode cAr_raise 27 = .ok (.iload_n 3, 1) := by decide +kernel
theorem dAr_raise_28 : decode cAr_raise 28 = .ok (.ifCond .lt 90, 3) := by decide +kernel
theorem dAr_raise_31 : decode cAr_raise 31 = .ok (.aload_n 0, 1) := by decide +kernel
theorem dAr_raise_32 : decode cAr_raise 32 = .ok (.getfield 32, 3) := by decide +kernel
theorem dAr_raise_35 : decode cAr_raise 35 = .ok (.aload_n 0, 1) := by decide +kernel
theorem dAr_raise_36 : decode cAr_raise 36 = .ok (.getfield 29, 3) := by decide +kernel
theorem dAr_raise_39 : decode cAr_raise 39 = .ok (.aload_n 0, 1) := by decide +kernel
theorem dAr_raise_40 : decode cAr_raise 40 = .ok (.getfield 29, 3) := by decide +kernel
theorem dAr_raise_43 : decode cAr_raise 43 = .ok (.invokevirtual 66, 3) := by decide +kernel
theorem dAr_raise_46 : decode cAr_raise 46 = .ok (.aload_n 0, 1) := by decide +kernel
theorem dAr_raise_47 : decode cAr_raise 47 = .ok (.getfield 32, 3) := by decide +kernel
theorem dAr_raise_50 : decode cAr_raise 50 = .ok (.invokevirtual 94, 3) := by decide +kernel
theorem dAr_raise_53 : decode cAr_raise 53 = .ok (.ifCond .eq 6, 3) := by decide +kernel
theorem dAr_raise_56 : decode cAr_raise 56 = .ok (.bipush 6, 2) := by decide +kernel
theorem dAr_raise_58 : decode cAr_raise 58 = .ok (.ireturn, 1) := by decide +kernel
theorem dAr_raise_59 : decode cAr_raise 59 = .ok (.aload_n 2, 1) := by decide +kernel
theorem dAr_raise_60 : decode cAr_raise 60 = .ok (.getfield 38, 3) := by decide +kernel
theorem dAr_raise_63 : decode cAr_raise 63 = .ok (.iload_n 3, 1) := by decide +kernel
theorem dAr_raise_64 : decode cAr_raise 64 = .ok (.invokevirtual 97, 3) := by decide +kernel
theorem dAr_raise_67 : decode cAr_raise 67 = .ok (.ifCond .eq 21, 3) := by decide +kernel
theorem dAr_raise_70 : decode cAr_raise 70 = .ok (.aload_n 0, 1) := by decide +kernel
theorem dAr_raise_71 : decode cAr_raise 71 = .ok (.getfield 29, 3) := by decide +kernel
theorem dAr_raise_74 : decode cAr_raise 74 = .ok (.aload_n 0, 1) := by decide +kernel
theorem dAr_raise_75 : decode cAr_raise 75 = .ok (.getfield 32, 3) := by decide +kernel
theorem dAr_raise_78 : decode cAr_raise 78 = .ok (.aload_n 1, 1) := by decide +kernel
theorem dAr_raise_79 : decode cAr_raise 79 = .ok (.getfield 38, 3) := by decide +kernel
theorem dAr_raise_82 : decode cAr_raise 82 = .ok (.invokevirtual 66, 3) := by decide +kernel
theorem dAr_raise_85 : decode cAr_raise 85 = .ok (.goto 14, 3) := by decide +kernel
theorem dAr_raise_88 : decode cAr_raise 88 = .ok (.aload_n 0, 1) := by decide +kernel
theorem dAr_raise_89 : decode cAr_raise 89 = .ok (.getfield 29, 3) := by decide +kernel
theorem dAr_raise_92 : decode cAr_raise 92 = .ok (.aload_n 0, 1) := by decide +kernel
theorem dAr_raise_93 : decode cAr_raise 93 = .ok (.getfield 32, 3) := by decide +kernel
theorem dAr_raise_96 : decode cAr_raise 96 = .ok (.invokevirtual 82, 3) := by decide +kernel
theorem dAr_raise_99 : decode cAr_raise 99 = .ok (.aload_n 0, 1) := by decide +kernel
theorem dAr_raise_100 : decode cAr_raise 100 = .ok (.getfield 29, 3) := by decide +kernel
theorem dAr_raise_103 : decode cAr_raise 103 = .ok (.invokevirtual 94, 3) := by decide +kernel
theorem dAr_raise_106 : decode cAr_raise 106 = .ok (.ifCond .eq 6, 3) := by decide +kernel
theorem dAr_raise_109 : decode cAr_raise 109 = .ok (.bipush 6, 2) := by decide +kernel
theorem dAr_raise_111 : decode cAr_raise 111 = .ok (.ireturn, 1) := by decide +kernel
theorem dAr_raise_112 : decode cAr_raise 112 = .ok (.iinc 3 (-1), 3) := by decide +kernel
theorem dAr_raise_115 : decode cAr_raise 115 = .ok (.goto (-88), 3) := by decide +kernel
theorem dAr_raise_118 : decode cAr_raise 118 = .ok (.aload_n 0, 1) := by decide +kernel
theorem dAr_raise_119 : decode cAr_raise 119 = .ok (.getfield 29, 3) := by decide +kernel
theorem dAr_raise_122 : decode cAr_raise 122 = .ok (.aload_n 1, 1) := by decide +kernel
theorem dAr_raise_123 : decode cAr_raise 123 = .ok (.getfield 43, 3) := by decide +kernel
theorem dAr_raise_126 : decode cAr_raise 126 = .ok (.ifCond .eq 18, 3) := by decide +kernel
theorem dAr_raise_129 : decode cAr_raise 129 = .ok (.aload_n 2, 1) := by decide +kernel
theorem dAr_raise_130 : decode cAr_raise 130 = .ok (.getfield 38, 3) := by decide +kernel
theorem dAr_raise_133 : decode cAr_raise 133 = .ok (.iconst 0, 1) := by decide +kernel
theorem dAr_raise_134 : decode cAr_raise 134 = .ok (.invokevirtual 97, 3) := by decide +kernel
theorem dAr_raise_137 : decode cAr_raise 137 = .ok (.ifCond .eq 7, 3) := by decide +kernel
theorem dAr_raise_140 : decode cAr_raise 140 = .ok (.iconst 1, 1) := by decide +kernel
theorem dAr_raise_141 : decode cAr_raise 141 = .ok (.goto 4, 3) := by decide +kernel
theorem dAr_raise_144 : decode cAr_raise 144 = .ok (.iconst 0, 1) := by decide +kernel
theorem dAr_raise_145 : decode cAr_raise 145 = .ok (.aload_n 1, 1) := by decide +kernel
theorem dAr_raise_146 : decode cAr_raise 146 = .ok (.invokestatic 62, 3) := by decide +kernel
theorem dAr_raise_149 : decode cAr_raise 149 = .ok (.ireturn, 1) := by decide +kernel
theorem dAr_gcd_0 : decode cAr_gcd 0 = .ok (.aload_n 0, 1) := by decide +kernel
theorem dAr_gcd_1 : decode cAr_gcd 1 = .ok (.getfield 29, 3) := by decide +kernel
theorem dAr_gcd_4 : decode cAr_gcd 4 = .ok (.astore_n 3, 1) := by decide +kernel
theorem dAr_gcd_5 : decode cAr_gcd 5 = .ok (.aload_n 0, 1) := by decide +kernel
theorem dAr_gcd_6 : decode cAr_gcd 6 = .ok (.getfield 35, 3) := by decide +kernel
theorem dAr_gcd_9 : decode cAr_gcd 9 = .ok (.astore 4, 2) := by decide +kernel
theorem dAr_gcd_11 : decode cAr_gcd 11 = .ok (.aload_n 3, 1) := by decide +kernel
theorem dAr_gcd_12 : decode cAr_gcd 12 = .ok (.aload_n 1, 1) := by decide +kernel
theorem dAr_gcd_13 : decode cAr_gcd 13 = .ok (.getfield 38, 3) := by decide +kernel
theorem dAr_gcd_16 : decode cAr_gcd 16 = .ok (.invokevirtual 82, 3) := by decide +kernel
theorem dAr_gcd_19 : decode cAr_gcd 19 = .ok (.aload 4, 2) := by decide +kernel
theorem dAr_gcd_21 : decode cAr_gcd 21 = .ok (.aload_n 2, 1) := by decide +kernel
theorem dAr_gcd_22 : decode cAr_gcd 22 = .ok (.getfield 38, 3) := by decide +kernel
theorem dAr_gcd_25 : decode cAr_gcd 25 = .ok (.invokevirtual 82, 3) := by decide +kernel
theorem dAr_gcd_28 : decode cAr_gcd 28 = .ok (.iconst 0, 1) := by decide +kernel
theorem dAr_gcd_29 : decode cAr_gcd 29 = .ok (.istore 5, 2) := by decide +kernel
theorem dAr_gcd_31 : decode cAr_gcd 31 = .ok (.iload 5, 2) := by decide +kernel
theorem dAr_gcd_33 : decode cAr_gcd 33 = .ok (.sipush 2000, 3) := by decide +kernel
theorem dAr_gcd_36 : decode cAr_gcd 36 = .ok (.if_icmp .ge 48, 3) := by decide +kernel
theorem dAr_gcd_39 : decode cAr_gcd 39 = .ok (.aload 4, 2) := by decide +kernel
theorem dAr_gcd_41 : decode cAr_gcd 41 = .ok (.invokevirtual 69, 3) := by decide +kernel
theorem dAr_gcd_44 : decode cAr_gcd 44 = .ok (.ifCond .ne 40, 3) := by decide +kernel
theorem dAr_gcd_47 : decode cAr_gcd 47 = .ok (.aload_n 0, 1) := by decide +kernel
theorem dAr_gcd_48 : decode cAr_gcd 48 = .ok (.getfield 12, 3) := by decide +kernel
theorem dAr_gcd_51 : decode cAr_gcd 51 = .ok (.aload_n 3, 1) := by decide +kernel
theorem dAr_gcd_52 : decode cAr_gcd 52 = .ok (.aload 4, 2) := by decide +kernel
theorem dAr_gcd_54 : decode cAr_gcd 54 = .ok (.invokevirtual 73, 3) := by decide +kernel
theorem dAr_gcd_57 : decode cAr_gcd 57 = .ok (.aload_n 3, 1) := by decide +kernel
theorem dAr_gcd_58 : decode cAr_gcd 58 = .ok (.aload_n 0, 1) := by decide +kernel
theorem dAr_gcd_59 : decode cAr_gcd 59 = .ok (.getfield 12, 3) := by decide +kernel
theorem dAr_gcd_62 : decode cAr_gcd 62 = .ok (.getfield 76, 3) := by decide +kernel
theorem dAr_gcd_65 : decode cAr_gcd 65 = .ok (.invokevirtual 82, 3) := by decide +kernel
theorem dAr_gcd_68 : decode cAr_gcd 68 = .ok (.aload_n 3, 1) := by decide +kernel
theorem dAr_gcd_69 : decode cAr_gcd 69 = .ok (.astore 6, 2) := by decide +kernel
theorem dAr_gcd_71 : decode cAr_gcd 71 = .ok (.aload 4, 2) := by decide +kernel
theorem dAr_gcd_73 : decode cAr_gcd 73 = .ok (.astore_n 3, 1) := by decide +kernel
theorem dAr_gcd_74 : decode cAr_gcd 74 = .ok (.aload 6, 2) := by decide +kernel
theorem dAr_gcd_76 : decode cAr_gcd 76 = .ok (.astore 4, 2) := by decide +kernel
theorem dAr_gcd_78 : decode cAr_gcd 78 = .ok (.iinc 5 1, 3) := by decide +kernel
theorem dAr_gcd_81 : decode cAr_gcd 81 = .ok (.goto (-50), 3) := by decide +kernel
theorem dAr_gcd_84 : decode cAr_gcd 84 = .ok (.aload_n 3, 1) := by decide +kernel
theorem dAr_gcd_85 : decode cAr_gcd 85 = .ok (.iconst 0, 1) := by decide +kernel
theorem dAr_gcd_86 : decode cAr_gcd 86 = .ok (.aload_n 1, 1) := by decide +kernel
theorem dAr_gcd_87 : decode cAr_gcd 87 = .ok (.invokestatic 62, 3) := by decide +kernel
theorem dAr_gcd_90 : decode cAr_gcd 90 = .ok (.ireturn, 1) := by decide +kernel
theorem dAr_root_0 : decode cAr_root 0 = .ok (.aload_n 1, 1) := by decide +kernel
theorem dAr_root_1 : decode cAr_root 1 = .ok (.getfield 43, 3) := by decide +kernel
theorem dAr_root_4 : decode cAr_root 4 = .ok (.ifCond .eq 5, 3) := by decide +kernel
theorem dAr_root_7 : decode cAr_root 7 = .ok (.iconst 4, 1) := by decide +kernel
theorem dAr_root_8 : decode cAr_root 8 = .ok (.ireturn, 1) := by decide +kernel
theorem dAr_root_9 : decode cAr_root 9 = .ok (.aload_n 1, 1) := by decide +kernel
theorem dAr_root_10 : decode cAr_root 10 = .ok (.getfield 38, 3) := by decide +kernel
theorem dAr_root_13 : decode cAr_root 13 = .ok (.invokevirtual 69, 3) := by decide +kernel
theorem dAr_root_16 : decode cAr_root 16 = .ok (.ifCond .eq 5, 3) := by decide +kernel
theorem dAr_root_19 : decode cAr_root 19 = .ok (.iconst 0, 1) := by decide +kernel
theorem dAr_root_20 : decode cAr_root 20 = .ok (.ireturn, 1) := by decide +kernel
theorem dAr_root_21 : decode cAr_root 21 = .ok (.aload_n 0, 1) := by decide +kernel
theorem dAr_root_22 : decode cAr_root 22 = .ok (.getfield 29, 3) := by decide +kernel
theorem dAr_root_25 : decode cAr_root 25 = .ok (.aload_n 1, 1) := by decide +kernel
theorem dAr_root_26 : decode cAr_root 26 = .ok (.getfield 38, 3) := by decide +kernel
theorem dAr_root_29 : decode cAr_root 29 = .ok (.invokevirtual 90, 3) := by decide +kernel
theorem dAr_root_32 : decode cAr_root 32 = .ok (.iconst 1, 1) := by decide +kernel
theorem dAr_root_33 : decode cAr_root 33 = .ok (.iadd, 1) := by decide +kernel
theorem dAr_root_34 : decode cAr_root 34 = .ok (.iconst 2, 1) := by decide +kernel
theorem dAr_root_35 : decode cAr_root 35 = .ok (.idiv, 1) := by decide +kernel
theorem dAr_root_36 : decode cAr_root 36 = .ok (.invokevirtual 101, 3) := by decide +kernel
theorem dAr_root_39 : decode cAr_root 39 = .ok (.iconst 0, 1) := by decide +kernel
theorem dAr_root_40 : decode cAr_root 40 = .ok (.istore_n 2, 1) := by decide +kernel
theorem dAr_root_41 : decode cAr_root 41 = .ok (.iload_n 2, 1) := by decide +kernel
theorem dAr_root_42 : decode cAr_root 42 = .ok (.sipush 1000, 3) := by decide +kernel
theorem dAr_root_45 : decode cAr_root 45 = .ok (.if_icmp .ge 78, 3) := by decide +kernel
theorem dAr_root_48 : decode cAr_root 48 = .ok (.aload_n 0, 1) := by decide +kernel
theorem dAr_root_49 : decode cAr_root 49 = .ok (.getfield 12, 3) := by decide +kernel
theorem dAr_root_52 : decode cAr_root 52 = .ok (.aload_n 1, 1) := by decide +kernel
theorem dAr_root_53 : decode cAr_root 53 = .ok (.getfield 38, 3) := by decide +kernel
theorem dAr_root_56 : decode cAr_root 56 = .ok (.aload_n 0, 1) := by decide +kernel
theorem dAr_root_57 : decode cAr_root 57 = .ok (.getfield 29, 3) := by decide +kernel
theorem dAr_root_60 : decode cAr_root 60 = .ok (.invokevirtual 73, 3) := by decide +kernel
theorem dAr_root_63 : decode cAr_root 63 = .ok (.aload_n 0, 1) := by decide +kernel
theorem dAr_root_64 : decode cAr_root 64 = .ok (.getfield 35, 3) := by decide +kernel
theorem dAr_root_67 : decode cAr_root 67 = .ok (.aload_n 0, 1) := by decide +kernel
theorem dAr_root_68 : decode cAr_root 68 = .ok (.getfield 29, 3) := by decide +kernel
theorem dAr_root_71 : decode cAr_root 71 = .ok (.aload_n 0, 1) := by decide +kernel
theorem dAr_root_72 : decode cAr_root 72 = .ok (.getfield 12, 3) := by decide +kernel
theorem dAr_root_75 : decode cAr_root 75 = .ok (.getfield 79, 3) := by decide +kernel
theorem dAr_root_78 : decode cAr_root 78 = .ok (.invokevirtual 51, 3) := by decide +kernel
theorem dAr_root_81 : decode cAr_root 81 = .ok (.aload_n 0, 1) := by decide +kernel
theorem dAr_root_82 : decode cAr_root 82 = .ok (.getfield 35, 3) := by decide +kernel
theorem dAr_root_85 : decode cAr_root 85 = .ok (.iconst 1, 1) := by decide +kernel
theorem dAr_root_86 : decode cAr_root 86 = .ok (.invokevirtual 105, 3) := by decide +kernel
theorem dAr_root_89 : decode cAr_root 89 = .ok (.aload_n 0, 1) := by decide +kernel
theorem dAr_root_90 : decode cAr_root 90 = .ok (.getfield 35, 3) := by decide +kernel
theorem dAr_root_93 : decode cAr_root 93 = .ok (.aload_n 0, 1) := by decide +kernel
theorem dAr_root_94 : decode cAr_root 94 = .ok (.getfield 29, 3) := by decide +kernel
theorem dAr_root_97 : decode cAr_root 97 = .ok (.invokevirtual 55, 3) := by decide +kernel
theorem dAr_root_100 : decode cAr_root 100 = .ok (.ifCond .lt 6, 3) := by decide +kernel
theorem dAr_root_103 : decode cAr_root 103 = .ok (.goto 20, 3) := by decide +kernel
theorem dAr_root_106 : decode cAr_root 106 = .ok (.aload_n 0, 1) := by decide +kernel
theorem dAr_root_107 : decode cAr_root 107 = .ok (.getfield 29, 3) := by decide +kernel
theorem dAr_root_110 : decode cAr_root 110 = .ok (.aload_n 0, 1) := by decide +kernel
theorem dAr_root_111 : decode cAr_root 111 = .ok (.getfield 35, 3) := by decide +kernel
theorem dAr_root_114 : decode cAr_root 114 = .ok (.invokevirtual 82, 3) := by decide +kernel
theorem dAr_root_117 : decode cAr_root 117 = .ok (.iinc 2 1, 3) := by decide +kernel
theorem dAr_root_120 : decode cAr_root 120 = .ok (.goto (-79), 3) := by decide +kernel
theorem dAr_root_123 : decode cAr_root 123 = .ok (.aload_n 0, 1) := by decide +kernel
theorem dAr_root_124 : decode cAr_root 124 = .ok (.getfield 29, 3) := by decide +kernel
theorem dAr_root_127 : decode cAr_root 127 = .ok (.iconst 0, 1) := by decide +kernel
theorem dAr_root_128 : decode cAr_root 128 = .ok (.aload_n 1, 1) := by decide +kernel
theorem dAr_root_129 : decode cAr_root 129 = .ok (.invokestatic 62, 3) := by decide +kernel
theorem dAr_root_132 : decode cAr_root 132 = .ok (.ireturn, 1) := by decide +kernel
theorem dAr_modular_0 : decode cAr_modular 0 = .ok (.aload_n 3, 1) := by decide +kernel
theorem dAr_modular_1 : decode cAr_modular 1 = .ok (.getfield 38, 3) := by decide +kernel
theorem dAr_modular_4 : decode cAr_modular 4 = .ok (.invokevirtual 69, 3) := by decide +kernel
theorem dAr_modular_7 : decode cAr_modular 7 = .ok (.ifCond .eq 5, 3) := by decide +kernel
theorem dAr_modular_10 : decode cAr_modular 10 = .ok (.iconst 2, 1) := by decide +kernel
theorem dAr_modular_11 : decode cAr_modular 11 = .ok (.ireturn, 1) := by decide +kernel
theorem dAr_modular_12 : decode cAr_modular 12 = .ok (.aload_n 2, 1) := by decide +kernel
theorem dAr_modular_13 : decode cAr_modular 13 = .ok (.getfield 43, 3) := by decide +kernel
theorem dAr_modular_16 : decode cAr_modular 16 = .ok (.ifCond .eq 5, 3) := by decide +kernel
theorem dAr_modular_19 : decode cAr_modular 19 = .ok (.iconst 3, 1) := by decide +kernel
theorem dAr_modular_20 : decode cAr_modular 20 = .ok (.ireturn, 1) := by decide +kernel
theorem dAr_modular_21 : decode cAr_modular 21 = .ok (.aload_n 3, 1) := by decide +kernel
theorem dAr_modular_22 : decode cAr_modular 22 = .ok (.getfield 43, 3) := by decide +kernel
theorem dAr_modular_25 : decode cAr_modular 25 = .ok (.ifCond .eq 5, 3) := by decide +kernel
theorem dAr_modular_28 : decode cAr_modular 28 = .ok (.iconst 5, 1) := by decide +kernel
theorem dAr_modular_29 : decode cAr_modular 29 = .ok (.ireturn, 1) := by decide +kernel
theorem dAr_modular_30 : decode cAr_modular 30 = .ok (.aload_n 0, 1) := by decide +kernel
theorem dAr_modular_31 : decode cAr_modular 31 = .ok (.aload_n 1, 1) := by decide +kernel
theorem dAr_modular_32 : decode cAr_modular 32 = .ok (.aload_n 3, 1) := by decide +kernel
theorem dAr_modular_33 : decode cAr_modular 33 = .ok (.aload_n 0, 1) := by decide +kernel
theorem dAr_modular_34 : decode cAr_modular 34 = .ok (.getfield 35, 3) := by decide +kernel
theorem dAr_modular_37 : decode cAr_modular 37 = .ok (.invokevirtual 86, 3) := by decide +kernel
theorem dAr_modular_40 : decode cAr_modular 40 = .ok (.aload_n 0, 1) := by decide +kernel
theorem dAr_modular_41 : decode cAr_modular 41 = .ok (.getfield 12, 3) := by decide +kernel
theorem dAr_modular_44 : decode cAr_modular 44 = .ok (.aload_n 0, 1) := by decide +kernel
theorem dAr_modular_45 : decode cAr_modular 45 = .ok (.getfield 21, 3) := by decide +kernel
theorem dAr_modular_48 : decode cAr_modular 48 = .ok (.aload_n 3, 1) := by decide +kernel
theorem dAr_modular_49 : decode cAr_modular 49 = .ok (.getfield 38, 3) := by decide +kernel
theorem dAr_modular_52 : decode cAr_modular 52 = .ok (.invokevirtual 73, 3) := by decide +kernel
theorem dAr_modular_55 : decode cAr_modular 55 = .ok (.aload_n 0, 1) := by decide +kernel
theorem dAr_modular_56 : decode cAr_modular 56 = .ok (.getfield 29, 3) := by decide +kernel
theorem dAr_modular_59 : decode cAr_modular 59 = .ok (.aload_n 0, 1) := by decide +kernel
theorem dAr_modular_60 : decode cAr_modular 60 = .ok (.getfield 12, 3) := by decide +kernel
theorem dAr_modular_63 : decode cAr_modular 63 = .ok (.getfield 76, 3) := by decide +kernel
theorem dAr_modular_66 : decode cAr_modular 66 = .ok (.invokevirtual 82, 3) := by decide +kernel
theorem dAr_modular_69 : decode cAr_modular 69 = .ok (.aload_n 2, 1) := by decide +kernel
theorem dAr_modular_70 : decode cAr_modular 70 = .ok (.getfield 38, 3) := by decide +kernel
theorem dAr_modular_73 : decode cAr_modular 73 = .ok (.invokevirtual 90, 3) := by decide +kernel
theorem dAr_modular_76 : decode cAr_modular 76 = .ok (.iconst 1, 1) := by decide +kernel
theorem dAr_modular_77 : decode cAr_modular 77 = .ok (.isub, 1) := by decide +kernel
theorem dAr_modular_78 : decode cAr_modular 78 = .ok (.istore 4, 2) := by decide +kernel
theorem dAr_modular_80 : decode cAr_modular 80 = .ok (.iload 4, 2) := by decide +kernel
theorem dAr_modular_82 : decode cAr_modular 82 = .ok (.ifCond .lt 45, 3) := by decide +kernel
theorem dAr_modular_85 : decode cAr_modular 85 = .ok (.aload_n 0, 1) := by decide +kernel
theorem dAr_modular_86 : decode cAr_modular 86 = .ok (.aload_n 0, 1) := by decide +kernel
theorem dAr_modular_87 : decode cAr_modular 87 = .ok (.getfield 29, 3) := by decide +kernel
theorem dAr_modular_90 : decode cAr_modular 90 = .ok (.aload_n 3, 1) := by decide +kernel
theorem dAr_modular_91 : decode cAr_modular 91 = .ok (.getfield 38, 3) := by decide +kernel
theorem dAr_modular_94 : decode cAr_modular 94 = .ok (.invokevirtual 108, 3) := by decide +kernel
theorem dAr_modular_97 : decode cAr_modular 97 = .ok (.aload_n 2, 1) := by decide +kernel
theorem dAr_modular_98 : decode cAr_modular 98 = .ok (.getfield 38, 3) := by decide +kernel
theorem dAr_modular_101 : decode cAr_modular 101 = .ok (.iload 4, 2) := by decide +kernel
theorem dAr_modular_103 : decode cAr_modular 103 = .ok (.invokevirtual 97, 3) := by decide +kernel
theorem dAr_modular_106 : decode cAr_modular 106 = .ok (.ifCond .eq 15, 3) := by decide +kernel
theorem dAr_modular_109 : decode cAr_modular 109 = .ok (.aload_n 0, 1) := by decide +kernel
theorem dAr_modular_110 : decode cAr_modular 110 = .ok (.aload_n 0, 1) := by decide +kernel
theorem dAr_modular_111 : decode cAr_modular 111 = .ok (.getfield 35, 3) := by decide +kernel
theorem dAr_modular_114 : decode cAr_modular 114 = .ok (.aload_n 3, 1) := by decide +kernel
theorem dAr_modular_115 : decode cAr_modular 115 = .ok (.getfield 38, 3) := by decide +kernel
theorem dAr_modular_118 : decode cAr_modular 118 = .ok (.invokevirtual 108, 3) := by decide +kernel
theorem dAr_modular_121 : decode cAr_modular 121 = .ok (.iinc 4 (-1), 3) := by decide +kernel
theorem dAr_modular_124 : decode cAr_modular 124 = .ok (.goto (-44), 3) := by decide +kernel
theorem dAr_modular_127 : decode cAr_modular 127 = .ok (.aload_n 0, 1) := by decide +kernel
theorem dAr_modular_128 : decode cAr_modular 128 = .ok (.getfield 29, 3) := by decide +kernel
theorem dAr_modular_131 : decode cAr_modular 131 = .ok (.iconst 0, 1) := by decide +kernel
theorem dAr_modular_132 : decode cAr_modular 132 = .ok (.aload_n 1, 1) := by decide +kernel
theorem dAr_modular_133 : decode cAr_modular 133 = .ok (.invokestatic 62, 3) := by decide +kernel
theorem dAr_modular_136 : decode cAr_modular 136 = .ok (.ireturn, 1) := by decide +kernel
theorem dAr_multiplyOutcome_0 : decode cAr_multiplyOutcome 0 = .ok (.aload_n 0, 1) := by decide +kernel
theorem dAr_multiplyOutcome_1 : decode cAr_multiplyOutcome 1 = .ok (.getfield 32, 3) := by decide +kernel
theorem dAr_multiplyOutcome_4 : decode cAr_multiplyOutcome 4 = .ok (.aload_n 0, 1) := by decide +kernel
theorem dAr_multiplyOutcome_5 : decode cAr_multiplyOutcome 5 = .ok (.getfield 29, 3) := by decide +kernel
theorem dAr_multiplyOutcome_8 : decode cAr_multiplyOutcome 8 = .ok (.aload_n 1, 1) := by decide +kernel
theorem dAr_multiplyOutcome_9 : decode cAr_multiplyOutcome 9 = .ok (.invokevirtual 66, 3) := by decide +kernel
theorem dAr_multiplyOutcome_12 : decode cAr_multiplyOutcome 12 = .ok (.aload_n 0, 1) := by decide +kernel
theorem dAr_multiplyOutcome_13 : decode cAr_multiplyOutcome 13 = .ok (.getfield 12, 3) := by decide +kernel
theorem dAr_multiplyOutcome_16 : decode cAr_multiplyOutcome 16 = .ok (.aload_n 0, 1) := by decide +kernel
theorem dAr_multiplyOutcome_17 : decode cAr_multiplyOutcome 17 = .ok (.getfield 32, 3) := by decide +kernel
theorem dAr_multiplyOutcome_20 : decode cAr_multiplyOutcome 20 = .ok (.aload_n 2, 1) := by decide +kernel
theorem dAr_multiplyOutcome_21 : decode cAr_multiplyOutcome 21 = .ok (.invokevirtual 73, 3) := by decide +kernel
theorem dAr_multiplyOutcome_24 : decode cAr_multiplyOutcome 24 = .ok (.aload_n 0, 1) := by decide +kernel
theorem dAr_multiplyOutcome_25 : decode cAr_multiplyOutcome 25 = .ok (.getfield 29, 3) := by decide +kernel
theorem dAr_multiplyOutcome_28 : decode cAr_multiplyOutcome 28 = .ok (.aload_n 0, 1) := by decide +kernel
theorem dAr_multiplyOutcome_29 : decode cAr_multiplyOutcome 29 = .ok (.getfield 12, 3) := by decide +kernel
theorem dAr_multiplyOutcome_32 : decode cAr_multiplyOutcome 32 = .ok (.getfield 76, 3) := by decide +kernel
theorem dAr_multiplyOutcome_35 : decode cAr_multiplyOutcome 35 = .ok (.invokevirtual 82, 3) := by decide +kernel
theorem dAr_multiplyOutcome_38 : decode cAr_multiplyOutcome 38 = .ok (.return_, 1) := by decide +kernel
theorem dMa_init_0 : decode cMa_init 0 = .ok (.aload_n 0, 1) := by decide +kernel
theorem dMa_init_1 : decode cMa_init 1 = .ok (.invokespecial 3, 3) := by decide +kernel
theorem dMa_init_4 : decode cMa_init 4 = .ok (.aload_n 0, 1) := by decide +kernel
theorem dMa_init_5 : decode cMa_init 5 = .ok (.bipush 10, 2) := by decide +kernel
theorem dMa_init_7 : decode cMa_init 7 = .ok (.anewarray 9, 3) := by decide +kernel
theorem dMa_init_10 : decode cMa_init 10 = .ok (.putfield 11, 3) := by decide +kernel
theorem dMa_init_13 : decode cMa_init 13 = .ok (.iconst 0, 1) := by decide +kernel
theorem dMa_init_14 : decode cMa_init 14 = .ok (.istore_n 1, 1) := by decide +kernel
theorem dMa_init_15 : decode cMa_init 15 = .ok (.iload_n 1, 1) := by decide +kernel
theorem dMa_init_16 : decode cMa_init 16 = .ok (.bipush 10, 2) := by decide +kernel
theorem dMa_init_18 : decode cMa_init 18 = .ok (.if_icmp .ge 22, 3) := by decide +kernel
theorem dMa_init_21 : decode cMa_init 21 = .ok (.aload_n 0, 1) := by decide +kernel
theorem dMa_init_22 : decode cMa_init 22 = .ok (.getfield 11, 3) := by decide +kernel
theorem dMa_init_25 : decode cMa_init 25 = .ok (.iload_n 1, 1) := by decide +kernel
theorem dMa_init_26 : decode cMa_init 26 = .ok (.new 9, 3) := by decide +kernel
theorem dMa_init_29 : decode cMa_init 29 = .ok (.dup, 1) := by decide +kernel
theorem dMa_init_30 : decode cMa_init 30 = .ok (.invokespecial 17, 3) := by decide +kernel
theorem dMa_init_33 : decode cMa_init 33 = .ok (.aastore, 1) := by decide +kernel
theorem dMa_init_34 : decode cMa_init 34 = .ok (.iinc 1 1, 3) := by decide +kernel
theorem dMa_init_37 : decode cMa_init 37 = .ok (.goto (-22), 3) := by decide +kernel
theorem dMa_init_40 : decode cMa_init 40 = .ok (.aload_n 0, 1) := by decide +kernel
theorem dMa_init_41 : decode cMa_init 41 = .ok (.bipush 8, 2) := by decide +kernel
theorem dMa_init_43 : decode cMa_init 43 = .ok (.anewarray 9, 3) := by decide +kernel
theorem dMa_init_46 : decode cMa_init 46 = .ok (.putfield 18, 3) := by decide +kernel
theorem dMa_init_49 : decode cMa_init 49 = .ok (.iconst 0, 1) := by decide +kernel
theorem dMa_init_50 : decode cMa_init 50 = .ok (.istore_n 1, 1) := by decide +kernel
theorem dMa_init_51 : decode cMa_init 51 = .ok (.iload_n 1, 1) := by decide +kernel
theorem dMa_init_52 : decode cMa_init 52 = .ok (.bipush 8, 2) := by decide +kernel
theorem dMa_init_54 : decode cMa_init 54 = .ok (.if_icmp .ge 22, 3) := by decide +kernel
theorem dMa_init_57 : decode cMa_init 57 = .ok (.aload_n 0, 1) := by decide +kernel
theorem dMa_init_58 : decode cMa_init 58 = .ok (.getfield 18, 3) := by decide +kernel
theorem dMa_init_61 : decode cMa_init 61 = .ok (.iload_n 1, 1) := by decide +kernel
theorem dMa_init_62 : decode cMa_init 62 = .ok (.new 9, 3) := by decide +kernel
theorem dMa_init_65 : decode cMa_init 65 = .ok (.dup, 1) := by decide +kernel
theorem dMa_init_66 : decode cMa_init 66 = .ok (.invokespecial 17, 3) := by decide +kernel
theorem dMa_init_69 : decode cMa_init 69 = .ok (.aastore, 1) := by decide +kernel
theorem dMa_init_70 : decode cMa_init 70 = .ok (.iinc 1 1, 3) := by decide +kernel
theorem dMa_init_73 : decode cMa_init 73 = .ok (.goto (-22), 3) := by decide +kernel
theorem dMa_init_76 : decode cMa_init 76 = .ok (.aload_n 0, 1) := by decide +kernel
theorem dMa_init_77 : decode cMa_init 77 = .ok (.iconst 0, 1) := by decide +kernel
theorem dMa_init_78 : decode cMa_init 78 = .ok (.putfield 21, 3) := by decide +kernel
theorem dMa_init_81 : decode cMa_init 81 = .ok (.aload_n 0, 1) := by decide +kernel
theorem dMa_init_82 : decode cMa_init 82 = .ok (.iconst 0, 1) := by decide +kernel
theorem dMa_init_83 : decode cMa_init 83 = .ok (.putfield 25, 3) := by decide +kernel
theorem dMa_init_86 : decode cMa_init 86 = .ok (.aload_n 0, 1) := by decide +kernel
theorem dMa_init_87 : decode cMa_init 87 = .ok (.iconst 0, 1) := by decide +kernel
theorem dMa_init_88 : decode cMa_init 88 = .ok (.putfield 28, 3) := by decide +kernel
theorem dMa_init_91 : decode cMa_init 91 = .ok (.aload_n 0, 1) := by decide +kernel
theorem dMa_init_92 : decode cMa_init 92 = .ok (.iconst 0, 1) := by decide +kernel
theorem dMa_init_93 : decode cMa_init 93 = .ok (.putfield 31, 3) := by decide +kernel
theorem dMa_init_96 : decode cMa_init 96 = .ok (.aload_n 0, 1) := by decide +kernel
theorem dMa_init_97 : decode cMa_init 97 = .ok (.new 34, 3) := by decide +kernel
theorem dMa_init_100 : decode cMa_init 100 = .ok (.dup, 1) := by decide +kernel
theorem dMa_init_101 : decode cMa_init 101 = .ok (.invokespecial 36, 3) := by decide +kernel
theorem dMa_init_104 : decode cMa_init 104 = .ok (.putfield 37, 3) := by decide +kernel
theorem dMa_init_107 : decode cMa_init 107 = .ok (.return_, 1) := by decide +kernel
theorem dMa_begin_0 : decode cMa_begin 0 = .ok (.aload_n 0, 1) := by decide +kernel
theorem dMa_begin_1 : decode cMa_begin 1 = .ok (.iconst 0, 1) := by decide +kernel
theorem dMa_begin_2 : decode cMa_begin 2 = .ok (.putfield 21, 3) := by decide +kernel
theorem dMa_begin_5 : decode cMa_begin 5 = .ok (.aload_n 0, 1) := by decide +kernel
theorem dMa_begin_6 : decode cMa_begin 6 = .ok (.iconst 0, 1) := by decide +kernel
theorem dMa_begin_7 : decode cMa_begin 7 = .ok (.putfield 25, 3) := by decide +kernel
theorem dMa_begin_10 : decode cMa_begin 10 = .ok (.aload_n 0, 1) := by decide +kernel
theorem dMa_begin_11 : decode cMa_begin 11 = .ok (.iconst 0, 1) := by decide +kernel
theorem dMa_begin_12 : decode cMa_begin 12 = .ok (.putfield 28, 3) := by decide +kernel
theorem dMa_begin_15 : decode cMa_begin 15 = .ok (.aload_n 0, 1) := by decide +kernel
theorem dMa_begin_16 : decode cMa_begin 16 = .ok (.iconst 0, 1) := by decide +kernel
theorem dMa_begin_17 : decode cMa_begin 17 = .ok (.putfield 31, 3) := by decide +kernel
theorem dMa_begin_20 : decode cMa_begin 20 = .ok (.return_, 1) := by decide +kernel
theorem dMa_advance_0 : decode cMa_advance 0 = .ok (.iconst 0, 1) := by decide +kernel
theorem dMa_advance_1 : decode cMa_advance 1 = .ok (.istore_n 3, 1) := by decide +kernel
theorem dMa_advance_2 : decode cMa_advance 2 = .ok (.iload_n 3, 1) := by decide +kernel
theorem dMa_advance_3 : decode cMa_advance 3 = .ok (.iload_n 2, 1) := by decide +kernel
theorem dMa_advance_4 : decode cMa_advance 4 = .ok (.if_icmp .ge 112, 3) := by decide +kernel
theorem dMa_advance_7 : decode cMa_advance 7 = .ok (.aload_n 0, 1) := by decide +kernel
theorem dMa_advance_8 : decode cMa_advance 8 = .ok (.getfield 21, 3) := by decide +kernel
theorem dMa_advance_11 : decode cMa_advance 11 = .ok (.aload_n 1, 1) := by decide +kernel
theorem dMa_advance_12 : decode cMa_advance 12 = .ok (.getfield 41, 3) := by decide +kernel
theorem dMa_advance_15 : decode cMa_advance 15 = .ok (.if_icmp .ge 101, 3) := by decide +kernel
theorem dMa_advance_18 : decode cMa_advance 18 = .ok (.aload_n 0, 1) := by decide +kernel
theorem dMa_advance_19 : decode cMa_advance 19 = .ok (.getfield 31, 3) := by decide +kernel
theorem dMa_advance_22 : decode cMa_advance 22 = .ok (.ifCond .ne 94, 3) := by decide +kernel
theorem dMa_advance_25 : decode cMa_advance 25 = .ok (.aload_n 1, 1) := by decide +kernel
theorem dMa_advance_26 : decode cMa_advance 26 = .ok (.getfield 46, 3) := by decide +kernel
theorem dMa_advance_29 : decode cMa_advance 29 = .ok (.aload_n 0, 1) := by decide +kernel
theorem dMa_advance_30 : decode cMa_advance 30 = .ok (.getfield 21, 3) := by decide +kernel
theorem dMa_advance_33 : decode cMa_advance 33 = .ok (.iaload, 1) := by decide +kernel
theorem dMa_advance_34 : decode cMa_advance 34 = .ok (.istore 4, 2) := by decide +kernel
theorem dMa_advance_36 : decode cMa_advance 36 = .ok (.aload_n 0, 1) := by decide +kernel
theorem dMa_advance_37 : decode cMa_advance 37 = .ok (.getfield 25, 3) := by decide +kernel
theorem dMa_advance_40 : decode cMa_advance 40 = .ok (.getstatic 50, 3) := by decide +kernel
theorem dMa_advance_43 : decode cMa_advance 43 = .ok (.iload 4, 2) := by decide +kernel
theorem dMa_advance_45 : decode cMa_advance 45 = .ok (.iaload, 1) := by decide +kernel
theorem dMa_advance_46 : decode cMa_advance 46 = .ok (.isub, 1) := by decide +kernel
theorem dMa_advance_47 : decode cMa_advance 47 = .ok (.istore 5, 2) := by decide +kernel
theorem dMa_advance_49 : decode cMa_advance 49 = .ok (.aload_n 0, 1) := by decide +kernel
theorem dMa_advance_50 : decode cMa_advance 50 = .ok (.aload_n 0, 1) := by decide +kernel
theorem dMa_advance_51 : decode cMa_advance 51 = .ok (.iload 4, 2) := by decide +kernel
theorem dMa_advance_53 : decode cMa_advance 53 = .ok (.aload_n 1, 1) := by decide +kernel
theorem dMa_advance_54 : decode cMa_advance 54 = .ok (.getfield 53, 3) := by decide +kernel
theorem dMa_advance_57 : decode cMa_advance 57 = .ok (.aload_n 0, 1) := by decide +kernel
theorem dMa_advance_58 : decode cMa_advance 58 = .ok (.getfield 21, 3) := by decide +kernel
theorem dMa_advance_61 : decode cMa_advance 61 = .ok (.iaload, 1) := by decide +kernel
theorem dMa_advance_62 : decode cMa_advance 62 = .ok (.iload 5, 2) := by decide +kernel
theorem dMa_advance_64 : decode cMa_advance 64 = .ok (.invokevirtual 56, 3) := by decide +kernel
theorem dMa_advance_67 : decode cMa_advance 67 = .ok (.putfield 31, 3) := by decide +kernel
theorem dMa_advance_70 : decode cMa_advance 70 = .ok (.aload_n 0, 1) := by decide +kernel
theorem dMa_advance_71 : decode cMa_advance 71 = .ok (.getfield 31, 3) := by decide +kernel
theorem dMa_advance_74 : decode cMa_advance 74 = .ok (.ifCond .ne 36, 3) := by decide +kernel
theorem dMa_advance_77 : decode cMa_advance 77 = .ok (.aload_n 0, 1) := by decide +kernel
theorem dMa_advance_78 : decode cMa_advance 78 = .ok (.dup, 1) := by decide +kernel
theorem dMa_advance_79 : decode cMa_advance 79 = .ok (.getfield 21, 3) := by decide +kernel
theorem dMa_advance_82 : decode cMa_advance 82 = .ok (.iconst 1, 1) := by decide +kernel
theorem dMa_advance_83 : decode cMa_advance 83 = .ok (.iadd, 1) := by decide +kernel
theorem dMa_advance_84 : decode cMa_advance 84 = .ok (.putfield 21, 3) := by decide +kernel
theorem dMa_advance_87 : decode cMa_advance 87 = .ok (.aload_n 0, 1) := by decide +kernel
theorem dMa_advance_88 : decode cMa_advance 88 = .ok (.iload 5, 2) := by decide +kernel
theorem dMa_advance_90 : decode cMa_advance 90 = .ok (.iconst 1, 1) := by decide +kernel
theorem dMa_advance_91 : decode cMa_advance 91 = .ok (.iadd, 1) := by decide +kernel
theorem dMa_advance_92 : decode cMa_advance 92 = .ok (.putfield 25, 3) := by decide +kernel
theorem dMa_advance_95 : decode cMa_advance 95 = .ok (.aload_n 0, 1) := by decide +kernel
theorem dMa_advance_96 : decode cMa_advance 96 = .ok (.aload_n 0, 1) := by decide +kernel
theorem dMa_advance_97 : decode cMa_advance 97 = .ok (.getfield 28, 3) := by decide +kernel
theorem dMa_advance_100 : decode cMa_advance 100 = .ok (.aload_n 0, 1) := by decide +kernel
theorem dMa_advance_101 : decode cMa_advance 101 = .ok (.getfield 25, 3) := by decide +kernel
theorem dMa_advance_104 : decode cMa_advance 104 = .ok (.invokestatic 60, 3) := by decide +kernel
theorem dMa_advance_107 : decode cMa_advance 107 = .ok (.putfield 28, 3) := by decide +kernel
theorem dMa_advance_110 : decode cMa_advance 110 = .ok (.iinc 3 1, 3) := by decide +kernel
theorem dMa_advance_113 : decode cMa_advance 113 = .ok (.goto (-111), 3) := by decide +kernel
theorem dMa_advance_116 : decode cMa_advance 116 = .ok (.aload_n 0, 1) := by decide +kernel
theorem dMa_advance_117 : decode cMa_advance 117 = .ok (.getfield 31, 3) := by decide +kernel
theorem dMa_advance_120 : decode cMa_advance 120 = .ok (.ifCond .eq 8, 3) := by decide +kernel
theorem dMa_advance_123 : decode cMa_advance 123 = .ok (.aload_n 0, 1) := by decide +kernel
theorem dMa_advance_124 : decode cMa_advance 124 = .ok (.getfield 31, 3) := by decide +kernel
theorem dMa_advance_127 : decode cMa_advance 127 = .ok (.ireturn, 1) := by decide +kernel
theorem dMa_advance_128 : decode cMa_advance 128 = .ok (.aload_n 0, 1) := by decide +kernel
theorem dMa_advance_129 : decode cMa_advance 129 = .ok (.getfield 21, 3) := by decide +kernel
theorem dMa_advance_132 : decode cMa_advance 132 = .ok (.aload_n 1, 1) := by decide +kernel
theorem dMa_advance_133 : decode cMa_advance 133 = .ok (.getfield 41, 3) := by decide +kernel
theorem dMa_advance_136 : decode cMa_advance 136 = .ok (.if_icmp .ne 7, 3) := by decide +kernel
theorem dMa_advance_139 : decode cMa_advance 139 = .ok (.iconst 0, 1) := by decide +kernel
theorem dMa_advance_140 : decode cMa_advance 140 = .ok (.goto 4, 3) := by decide +kernel
theorem dMa_advance_143 : decode cMa_advance 143 = .ok (.iconst 1, 1) := by decide +kernel
theorem dMa_advance_144 : decode cMa_advance 144 = .ok (.ireturn, 1) := by decide +kernel
theorem dMa_perform_0 : decode cMa_perform 0 = .ok (.aload_n 0, 1) := by decide +kernel
theorem dMa_perform_1 : decode cMa_perform 1 = .ok (.getfield 11, 3) := by decide +kernel
theorem dMa_perform_4 : decode cMa_perform 4 = .ok (.iload_n 3, 1) := by decide +kernel
theorem dMa_perform_5 : decode cMa_perform 5 = .ok (.aaload, 1) := by decide +kernel
theorem dMa_perform_6 : decode cMa_perform 6 = .ok (.astore 4, 2) := by decide +kernel
theorem dMa_perform_8 : decode cMa_perform 8 = .ok (.iload_n 1, 1) := by decide +kernel
theorem dMa_perform_9 : decode cMa_perform 9 = .ok (.tableswitch 240 0 14 #[75, 84, 104, 122, 140, 158, 176, 194, 240, 240, 240, 212, 230, 240, 97], 75) := by decide +kernel
theorem dMa_perform_84 : decode cMa_perform 84 = .ok (.aload 4, 2) := by decide +kernel
theorem dMa_perform_86 : decode cMa_perform 86 = .ok (.iload_n 2, 1) := by decide +kernel
theorem dMa_perform_87 : decode cMa_perform 87 = .ok (.i2l, 1) := by decide +kernel
theorem dMa_perform_88 : decode cMa_perform 88 = .ok (.invokevirtual 66, 3) := by decide +kernel
theorem dMa_perform_91 : decode cMa_perform 91 = .ok (.iconst 0, 1) := by decide +kernel
theorem dMa_perform_92 : decode cMa_perform 92 = .ok (.ireturn, 1) := by decide +kernel
theorem dMa_perform_93 : decode cMa_perform 93 = .ok (.aload 4, 2) := by decide +kernel
theorem dMa_perform_95 : decode cMa_perform 95 = .ok (.aload_n 0, 1) := by decide +kernel
theorem dMa_perform_96 : decode cMa_perform 96 = .ok (.getfield 18, 3) := by decide +kernel
theorem dMa_perform_99 : decode cMa_perform 99 = .ok (.iload_n 2, 1) := by decide +kernel
theorem dMa_perform_100 : decode cMa_perform 100 = .ok (.aaload, 1) := by decide +kernel
theorem dMa_perform_101 : decode cMa_perform 101 = .ok (.invokevirtual 70, 3) := by decide +kernel
theorem dMa_perform_104 : decode cMa_perform 104 = .ok (.iconst 0, 1) := by decide +kernel
theorem dMa_perform_105 : decode cMa_perform 105 = .ok (.ireturn, 1) := by decide +kernel
theorem dMa_perform_106 : decode cMa_perform 106 = .ok (.aload 4, 2) := by decide +kernel
theorem dMa_perform_108 : decode cMa_perform 108 = .ok (.invokevirtual 74, 3) := by decide +kernel
theorem dMa_perform_111 : decode cMa_perform 111 = .ok (.iconst 0, 1) := by decide +kernel
theorem dMa_perform_112 : decode cMa_perform 112 = .ok (.ireturn, 1) := by decide +kernel
theorem dMa_perform_113 : decode cMa_perform 113 = .ok (.aload_n 0, 1) := by decide +kernel
theorem dMa_perform_114 : decode cMa_perform 114 = .ok (.getfield 37, 3) := by decide +kernel
theorem dMa_perform_117 : decode cMa_perform 117 = .ok (.aload 4, 2) := by decide +kernel
theorem dMa_perform_119 : decode cMa_perform 119 = .ok (.aload_n 0, 1) := by decide +kernel
theorem dMa_perform_120 : decode cMa_perform 120 = .ok (.getfield 11, 3) := by decide +kernel
theorem dMa_perform_123 : decode cMa_perform 123 = .ok (.iload_n 3, 1) := by decide +kernel
theorem dMa_perform_124 : decode cMa_perform 124 = .ok (.iconst 1, 1) := by decide +kernel
theorem dMa_perform_125 : decode cMa_perform 125 = .ok (.iadd, 1) := by decide +kernel
theorem dMa_perform_126 : decode cMa_perform 126 = .ok (.aaload, 1) := by decide +kernel
theorem dMa_perform_127 : decode cMa_perform 127 = .ok (.invokevirtual 77, 3) := by decide +kernel
theorem dMa_perform_130 : decode cMa_perform 130 = .ok (.ireturn, 1) := by decide +kernel
theorem dMa_perform_131 : decode cMa_perform 131 = .ok (.aload_n 0, 1) := by decide +kernel
theorem dMa_perform_132 : decode cMa_perform 132 = .ok (.getfield 37, 3) := by decide +kernel
theorem dMa_perform_135 : decode cMa_perform 135 = .ok (.aload 4, 2) := by decide +kernel
theorem dMa_perform_137 : decode cMa_perform 137 = .ok (.aload_n 0, 1) := by decide +kernel
theorem dMa_perform_138 : decode cMa_perform 138 = .ok (.getfield 11, 3) := by decide +kernel
theorem dMa_perform_141 : decode cMa_perform 141 = .ok (.iload_n 3, 1) := by decide +kernel
theorem dMa_perform_142 : decode cMa_perform 142 = .ok (.iconst 1, 1) := by decide +kernel
theorem dMa_perform_143 : decode cMa_perform 143 = .ok (.iadd, 1) := by decide +kernel
theorem dMa_perform_144 : decode cMa_perform 144 = .ok (.aaload, 1) := by decide +kernel
theorem dMa_perform_145 : decode cMa_perform 145 = .ok (.invokevirtual 81, 3) := by decide +kernel
theorem dMa_perform_148 : decode cMa_perform 148 = .ok (.ireturn, 1) := by decide +kernel
theorem dMa_perform_149 : decode cMa_perform 149 = .ok (.aload_n 0, 1) := by decide +kernel
theorem dMa_perform_150 : decode cMa_perform 150 = .ok (.getfield 37, 3) := by decide +kernel
theorem dMa_perform_153 : decode cMa_perform 153 = .ok (.aload 4, 2) := by decide +kernel
theorem dMa_perform_155 : decode cMa_perform 155 = .ok (.aload_n 0, 1) := by decide +kernel
theorem dMa_perform_156 : decode cMa_perform 156 = .ok (.getfield 11, 3) := by decide +kernel
theorem dMa_perform_159 : decode cMa_perform 159 = .ok (.iload_n 3, 1) := by decide +kernel
theorem dMa_perform_160 : decode cMa_perform 160 = .ok (.iconst 1, 1) := by decide +kernel
theorem dMa_perform_161 : decode cMa_perform 161 = .ok (.iadd, 1) := by decide +kernel
theorem dMa_perform_162 : decode cMa_perform 162 = .ok (.aaload, 1) := by decide +kernel
theorem dMa_perform_163 : decode cMa_perform 163 = .ok (.invokevirtual 84, 3) := by decide +kernel
theorem dMa_perform_166 : decode cMa_perform 166 = .ok (.ireturn, 1) := by decide +kernel
theorem dMa_perform_167 : decode cMa_perform 167 = .ok (.aload_n 0, 1) := by decide +kernel
theorem dMa_perform_168 : decode cMa_perform 168 = .ok (.getfield 37, 3) := by decide +kernel
theorem dMa_perform_171 : decode cMa_perform 171 = .ok (.aload 4, 2) := by decide +kernel
theorem dMa_perform_173 : decode cMa_perform 173 = .ok (.aload_n 0, 1) := by decide +kernel
theorem dMa_perform_174 : decode cMa_perform 174 = .ok (.getfield 11, 3) := by decide +kernel
theorem dMa_perform_177 : decode cMa_perform 177 = .ok (.iload_n 3, 1) := by decide +kernel
theorem dMa_perform_178 : decode cMa_perform 178 = .ok (.iconst 1, 1) := by decide +kernel
theorem dMa_perform_179 : decode cMa_perform 179 = .ok (.iadd, 1) := by decide +kernel
theorem dMa_perform_180 : decode cMa_perform 180 = .ok (.aaload, 1) := by decide +kernel
theorem dMa_perform_181 : decode cMa_perform 181 = .ok (.invokevirtual 87, 3) := by decide +kernel
theorem dMa_perform_184 : decode cMa_perform 184 = .ok (.ireturn, 1) := by decide +kernel
theorem dMa_perform_185 : decode cMa_perform 185 = .ok (.aload_n 0, 1) := by decide +kernel
theorem dMa_perform_186 : decode cMa_perform 186 = .ok (.getfield 37, 3) := by decide +kernel
theorem dMa_perform_189 : decode cMa_perform 189 = .ok (.aload 4, 2) := by decide +kernel
theorem dMa_perform_191 : decode cMa_perform 191 = .ok (.aload_n 0, 1) := by decide +kernel
theorem dMa_perform_192 : decode cMa_perform 192 = .ok (.getfield 11, 3) := by decide +kernel
theorem dMa_perform_195 : decode cMa_perform 195 = .ok (.iload_n 3, 1) := by decide +kernel
theorem dMa_perform_196 : decode cMa_perform 196 = .ok (.iconst 1, 1) := by decide +kernel
theorem dMa_perform_197 : decode cMa_perform 197 = .ok (.iadd, 1) := by decide +kernel
theorem dMa_perform_198 : decode cMa_perform 198 = .ok (.aaload, 1) := by decide +kernel
theorem dMa_perform_199 : decode cMa_perform 199 = .ok (.invokevirtual 90, 3) := by decide +kernel
theorem dMa_perform_202 : decode cMa_perform 202 = .ok (.ireturn, 1) := by decide +kernel
theorem dMa_perform_203 : decode cMa_perform 203 = .ok (.aload_n 0, 1) := by decide +kernel
theorem dMa_perform_204 : decode cMa_perform 204 = .ok (.getfield 37, 3) := by decide +kernel
theorem dMa_perform_207 : decode cMa_perform 207 = .ok (.aload 4, 2) := by decide +kernel
theorem dMa_perform_209 : decode cMa_perform 209 = .ok (.aload_n 0, 1) := by decide +kernel
theorem dMa_perform_210 : decode cMa_perform 210 = .ok (.getfield 11, 3) := by decide +kernel
theorem dMa_perform_213 : decode cMa_perform 213 = .ok (.iload_n 3, 1) := by decide +kernel
theorem dMa_perform_214 : decode cMa_perform 214 = .ok (.iconst 1, 1) := by decide +kernel
theorem dMa_perform_215 : decode cMa_perform 215 = .ok (.iadd, 1) := by decide +kernel
theorem dMa_perform_216 : decode cMa_perform 216 = .ok (.aaload, 1) := by decide +kernel
theorem dMa_perform_217 : decode cMa_perform 217 = .ok (.invokevirtual 93, 3) := by decide +kernel
theorem dMa_perform_220 : decode cMa_perform 220 = .ok (.ireturn, 1) := by decide +kernel
theorem dMa_perform_221 : decode cMa_perform 221 = .ok (.aload_n 0, 1) := by decide +kernel
theorem dMa_perform_222 : decode cMa_perform 222 = .ok (.getfield 37, 3) := by decide +kernel
theorem dMa_perform_225 : decode cMa_perform 225 = .ok (.aload 4, 2) := by decide +kernel
theorem dMa_perform_227 : decode cMa_perform 227 = .ok (.aload_n 0, 1) := by decide +kernel
theorem dMa_perform_228 : decode cMa_perform 228 = .ok (.getfield 11, 3) := by decide +kernel
theorem dMa_perform_231 : decode cMa_perform 231 = .ok (.iload_n 3, 1) := by decide +kernel
theorem dMa_perform_232 : decode cMa_perform 232 = .ok (.iconst 1, 1) := by decide +kernel
theorem dMa_perform_233 : decode cMa_perform 233 = .ok (.iadd, 1) := by decide +kernel
theorem dMa_perform_234 : decode cMa_perform 234 = .ok (.aaload, 1) := by decide +kernel
theorem dMa_perform_235 : decode cMa_perform 235 = .ok (.invokevirtual 96, 3) := by decide +kernel
theorem dMa_perform_238 : decode cMa_perform 238 = .ok (.ireturn, 1) := by decide +kernel
theorem dMa_perform_239 : decode cMa_perform 239 = .ok (.aload_n 0, 1) := by decide +kernel
theorem dMa_perform_240 : decode cMa_perform 240 = .ok (.getfield 37, 3) := by decide +kernel
theorem dMa_perform_243 : decode cMa_perform 243 = .ok (.aload 4, 2) := by decide +kernel
theorem dMa_perform_245 : decode cMa_perform 245 = .ok (.invokevirtual 99, 3) := by decide +kernel
theorem dMa_perform_248 : decode cMa_perform 248 = .ok (.ireturn, 1) := by decide +kernel
theorem dMa_perform_249 : decode cMa_perform 249 = .ok (.aload_n 0, 1) := by decide +kernel
theorem dMa_perform_250 : decode cMa_perform 250 = .ok (.getfield 37, 3) := by decide +kernel
theorem dMa_perform_253 : decode cMa_perform 253 = .ok (.aload 4, 2) := by decide +kernel
theorem dMa_perform_255 : decode cMa_perform 255 = .ok (.aload_n 0, 1) := by decide +kernel
theorem dMa_perform_256 : decode cMa_perform 256 = .ok (.getfield 11, 3) := by decide +kernel
theorem dMa_perform_259 : decode cMa_perform 259 = .ok (.iload_n 3, 1) := by decide +kernel
theorem dMa_perform_260 : decode cMa_perform 260 = .ok (.iconst 1, 1) := by decide +kernel
theorem dMa_perform_261 : decode cMa_perform 261 = .ok (.iadd, 1) := by decide +kernel
theorem dMa_perform_262 : decode cMa_perform 262 = .ok (.aaload, 1) := by decide +kernel
theorem dMa_perform_263 : decode cMa_perform 263 = .ok (.aload_n 0, 1) := by decide +kernel
theorem dMa_perform_264 : decode cMa_perform 264 = .ok (.getfield 11, 3) := by decide +kernel
theorem dMa_perform_267 : decode cMa_perform 267 = .ok (.iload_n 3, 1) := by decide +kernel
theorem dMa_perform_268 : decode cMa_perform 268 = .ok (.iconst 2, 1) := by decide +kernel
theorem dMa_perform_269 : decode cMa_perform 269 = .ok (.iadd, 1) := by decide +kernel
theorem dMa_perform_270 : decode cMa_perform 270 = .ok (.aaload, 1) := by decide +kernel
theorem dMa_perform_271 : decode cMa_perform 271 = .ok (.invokevirtual 103, 3) := by decide +kernel
theorem dMa_perform_274 : decode cMa_perform 274 = .ok (.ireturn, 1) := by decide +kernel
