abbrev b_Md_thrown : ByteArray := prog_10_method_2_code
abbrev y_Md_thrown : MethodName := ⟨"FixityTreesModel", "thrown", "()I"⟩
theorem d_Md_thrown_0 : decode b_Md_thrown 0 = .ok (.aload_n 0, 1) := by decide +kernel
theorem d_Md_thrown_1 : decode b_Md_thrown 1 = .ok (.getfield 113, 3) := by decide +kernel
theorem d_Md_thrown_4 : decode b_Md_thrown 4 = .ok (.ireturn, 1) := by decide +kernel
theorem hg_Md_thrown : fx_mw fx_g "FixityTreesModel" y_Md_thrown b_Md_thrown 1 (some .int) := ⟨fx_in 1083 (by decide +kernel) (by decide +kernel), fx_in 1084 (by decide +kernel) (by decide +kernel), fx_in 9 (by decide +kernel) (by decide +kernel), fx_in 1085 (by decide +kernel) (by decide +kernel)⟩
abbrev b_Md_isIn : ByteArray := prog_10_method_4_code
abbrev y_Md_isIn : MethodName := ⟨"FixityTreesModel", "isIn", "(III)Z"⟩
theorem d_Md_isIn_0 : decode b_Md_isIn 0 = .ok (.iload_n 0, 1) := by decide +kernel
theorem d_Md_isIn_1 : decode b_Md_isIn 1 = .ok (.iload_n 1, 1) := by decide +kernel
theorem d_Md_isIn_2 : decode b_Md_isIn 2 = .ok (.if_icmp .lt 12, 3) := by decide +kernel
theorem d_Md_isIn_5 : decode b_Md_isIn 5 = .ok (.iload_n 0, 1) := by decide +kernel
theorem d_Md_isIn_6 : decode b_Md_isIn 6 = .ok (.iload_n 2, 1) := by decide +kernel
theorem d_Md_isIn_7 : decode b_Md_isIn 7 = .ok (.if_icmp .gt 7, 3) := by decide +kernel
theorem d_Md_isIn_10 : decode b_Md_isIn 10 = .ok (.iconst 1, 1) := by decide +kernel
theorem d_Md_isIn_11 : decode b_Md_isIn 11 = .ok (.goto 4, 3) := by decide +kernel
theorem d_Md_isIn_14 : decode b_Md_isIn 14 = .ok (.iconst 0, 1) := by decide +kernel
theorem d_Md_isIn_15 : decode b_Md_isIn 15 = .ok (.ireturn, 1) := by decide +kernel
theorem hg_Md_isIn : fx_sw fx_g y_Md_isIn b_Md_isIn 3 (some .boolean) := ⟨fx_in 1095 (by decide +kernel) (by decide +kernel), fx_in 9 (by decide +kernel) (by decide +kernel), fx_in 1096 (by decide +kernel) (by decide +kernel)⟩
abbrev b_Md_isScope : ByteArray := prog_10_method_6_code
abbrev y_Md_isScope : MethodName := ⟨"FixityTreesModel", "isScope", "(I)Z"⟩
theorem d_Md_isScope_0 : decode b_Md_isScope 0 = .ok (.iload_n 1, 1) := by decide +kernel
theorem d_Md_isScope_1 : decode b_Md_isScope 1 = .ok (.iconst 0, 1) := by decide +kernel
theorem d_Md_isScope_2 : decode b_Md_isScope 2 = .ok (.aload_n 0, 1) := by decide +kernel
theorem d_Md_isScope_3 : decode b_Md_isScope 3 = .ok (.getfield 106, 3) := by decide +kernel
theorem d_Md_isScope_6 : decode b_Md_isScope 6 = .ok (.iconst 1, 1) := by decide +kernel
theorem d_Md_isScope_7 : decode b_Md_isScope 7 = .ok (.isub, 1) := by decide +kernel
theorem d_Md_isScope_8 : decode b_Md_isScope 8 = .ok (.invokestatic 116, 3) := by decide +kernel
theorem d_Md_isScope_11 : decode b_Md_isScope 11 = .ok (.ireturn, 1) := by decide +kernel
theorem hg_Md_isScope : fx_mw fx_g "FixityTreesModel" y_Md_isScope b_Md_isScope 2 (some .boolean) := ⟨fx_in 1092 (by decide +kernel) (by decide +kernel), fx_inp 42 (by decide +kernel) (by decide +kernel), fx_in 9 (by decide +kernel) (by decide +kernel), fx_in 1093 (by decide +kernel) (by decide +kernel)⟩
abbrev b_Md_isGood : ByteArray := prog_10_method_3_code
abbrev y_Md_isGood : MethodName := ⟨"FixityTreesModel", "isGood", "(I)Z"⟩
theorem d_Md_isGood_0 : decode b_Md_isGood 0 = .ok (.aload_n 0, 1) := by decide +kernel
theorem d_Md_isGood_1 : decode b_Md_isGood 1 = .ok (.iload_n 1, 1) := by decide +kernel
theorem d_Md_isGood_2 : decode b_Md_isGood 2 = .ok (.putfield 113, 3) := by decide +kernel
theorem d_Md_isGood_5 : decode b_Md_isGood 5 = .ok (.iload_n 1, 1) := by decide +kernel
theorem d_Md_isGood_6 : decode b_Md_isGood 6 = .ok (.ifCond .ne 7, 3) := by decide +kernel
theorem d_Md_isGood_9 : decode b_Md_isGood 9 = .ok (.iconst 1, 1) := by decide +kernel
theorem d_Md_isGood_10 : decode b_Md_isGood 10 = .ok (.goto 4, 3) := by decide +kernel
theorem d_Md_isGood_13 : decode b_Md_isGood 13 = .ok (.iconst 0, 1) := by decide +kernel
theorem d_Md_isGood_14 : decode b_Md_isGood 14 = .ok (.ireturn, 1) := by decide +kernel
theorem hg_Md_isGood : fx_mw fx_g "FixityTreesModel" y_Md_isGood b_Md_isGood 2 (some .boolean) := ⟨fx_in 1099 (by decide +kernel) (by decide +kernel), fx_inp 43 (by decide +kernel) (by decide +kernel), fx_in 9 (by decide +kernel) (by decide +kernel), fx_in 1100 (by decide +kernel) (by decide +kernel)⟩
abbrev b_Md_tellNothing : ByteArray := prog_10_method_5_code
abbrev y_Md_tellNothing : MethodName := ⟨"FixityTreesModel", "tellNothing", "(I)V"⟩
theorem d_Md_tellNothing_0 : decode b_Md_tellNothing 0 = .ok (.iconst 0, 1) := by decide +kernel
theorem d_Md_tellNothing_1 : decode b_Md_tellNothing 1 = .ok (.istore_n 2, 1) := by decide +kernel
theorem d_Md_tellNothing_2 : decode b_Md_tellNothing 2 = .ok (.iload_n 2, 1) := by decide +kernel
theorem d_Md_tellNothing_3 : decode b_Md_tellNothing 3 = .ok (.bipush 41, 2) := by decide +kernel
theorem d_Md_tellNothing_5 : decode b_Md_tellNothing 5 = .ok (.if_icmp .ge 21, 3) := by decide +kernel
theorem d_Md_tellNothing_8 : decode b_Md_tellNothing 8 = .ok (.aload_n 0, 1) := by decide +kernel
theorem d_Md_tellNothing_9 : decode b_Md_tellNothing 9 = .ok (.getfield 13, 3) := by decide +kernel
theorem d_Md_tellNothing_12 : decode b_Md_tellNothing 12 = .ok (.bipush 41, 2) := by decide +kernel
theorem d_Md_tellNothing_14 : decode b_Md_tellNothing 14 = .ok (.iload_n 1, 1) := by decide +kernel
theorem d_Md_tellNothing_15 : decode b_Md_tellNothing 15 = .ok (.imul, 1) := by decide +kernel
theorem d_Md_tellNothing_16 : decode b_Md_tellNothing 16 = .ok (.iload_n 2, 1) := by decide +kernel
theorem d_Md_tellNothing_17 : decode b_Md_tellNothing 17 = .ok (.iadd, 1) := by decide +kernel
theorem d_Md_tellNothing_18 : decode b_Md_tellNothing 18 = .ok (.iconst (-1), 1) := by decide +kernel
theorem d_Md_tellNothing_19 : decode b_Md_tellNothing 19 = .ok (.iastore, 1) := by decide +kernel
theorem d_Md_tellNothing_20 : decode b_Md_tellNothing 20 = .ok (.iinc 2 1, 3) := by decide +kernel
theorem d_Md_tellNothing_23 : decode b_Md_tellNothing 23 = .ok (.goto (-21), 3) := by decide +kernel
theorem d_Md_tellNothing_26 : decode b_Md_tellNothing 26 = .ok (.return_, 1) := by decide +kernel
theorem hg_Md_tellNothing : fx_mw fx_g "FixityTreesModel" y_Md_tellNothing b_Md_tellNothing 3 none := ⟨fx_in 935 (by decide +kernel) (by decide +kernel), fx_inp 41 (by decide +kernel) (by decide +kernel), fx_in 9 (by decide +kernel) (by decide +kernel), fx_in 936 (by decide +kernel) (by decide +kernel)⟩
abbrev b_Md_scope : ByteArray := prog_10_method_8_code
abbrev y_Md_scope : MethodName := ⟨"FixityTreesModel", "scope", "(I)I"⟩
theorem d_Md_scope_0 : decode b_Md_scope 0 = .ok (.aload_n 0, 1) := by decide +kernel
theorem d_Md_scope_1 : decode b_Md_scope 1 = .ok (.aload_n 0, 1) := by decide +kernel
theorem d_Md_scope_2 : decode b_Md_scope 2 = .ok (.iload_n 1, 1) := by decide +kernel
theorem d_Md_scope_3 : decode b_Md_scope 3 = .ok (.invokevirtual 120, 3) := by decide +kernel
theorem d_Md_scope_6 : decode b_Md_scope 6 = .ok (.ifCond .ne 7, 3) := by decide +kernel
theorem d_Md_scope_9 : decode b_Md_scope 9 = .ok (.iconst 1, 1) := by decide +kernel
theorem d_Md_scope_10 : decode b_Md_scope 10 = .ok (.goto 17, 3) := by decide +kernel
theorem d_Md_scope_13 : decode b_Md_scope 13 = .ok (.aload_n 0, 1) := by decide +kernel
theorem d_Md_scope_14 : decode b_Md_scope 14 = .ok (.getfield 106, 3) := by decide +kernel
theorem d_Md_scope_17 : decode b_Md_scope 17 = .ok (.bipush 30, 2) := by decide +kernel
theorem d_Md_scope_19 : decode b_Md_scope 19 = .ok (.if_icmp .ne 7, 3) := by decide +kernel
theorem d_Md_scope_22 : decode b_Md_scope 22 = .ok (.iconst 2, 1) := by decide +kernel
theorem d_Md_scope_23 : decode b_Md_scope 23 = .ok (.goto 4, 3) := by decide +kernel
theorem d_Md_scope_26 : decode b_Md_scope 26 = .ok (.iconst 0, 1) := by decide +kernel
theorem d_Md_scope_27 : decode b_Md_scope 27 = .ok (.invokevirtual 124, 3) := by decide +kernel
theorem d_Md_scope_30 : decode b_Md_scope 30 = .ok (.ifCond .ne 5, 3) := by decide +kernel
theorem d_Md_scope_33 : decode b_Md_scope 33 = .ok (.iconst 0, 1) := by decide +kernel
theorem d_Md_scope_34 : decode b_Md_scope 34 = .ok (.ireturn, 1) := by decide +kernel
theorem d_Md_scope_35 : decode b_Md_scope 35 = .ok (.aload_n 0, 1) := by decide +kernel
theorem d_Md_scope_36 : decode b_Md_scope 36 = .ok (.getfield 7, 3) := by decide +kernel
theorem d_Md_scope_39 : decode b_Md_scope 39 = .ok (.aload_n 0, 1) := by decide +kernel
theorem d_Md_scope_40 : decode b_Md_scope 40 = .ok (.getfield 106, 3) := by decide +kernel
theorem d_Md_scope_43 : decode b_Md_scope 43 = .ok (.iload_n 1, 1) := by decide +kernel
theorem d_Md_scope_44 : decode b_Md_scope 44 = .ok (.iastore, 1) := by decide +kernel
theorem d_Md_scope_45 : decode b_Md_scope 45 = .ok (.aload_n 0, 1) := by decide +kernel
theorem d_Md_scope_46 : decode b_Md_scope 46 = .ok (.aload_n 0, 1) := by decide +kernel
theorem d_Md_scope_47 : decode b_Md_scope 47 = .ok (.getfield 106, 3) := by decide +kernel
theorem d_Md_scope_50 : decode b_Md_scope 50 = .ok (.invokevirtual 109, 3) := by decide +kernel
theorem d_Md_scope_53 : decode b_Md_scope 53 = .ok (.aload_n 0, 1) := by decide +kernel
theorem d_Md_scope_54 : decode b_Md_scope 54 = .ok (.dup, 1) := by decide +kernel
theorem d_Md_scope_55 : decode b_Md_scope 55 = .ok (.getfield 106, 3) := by decide +kernel
theorem d_Md_scope_58 : decode b_Md_scope 58 = .ok (.iconst 1, 1) := by decide +kernel
theorem d_Md_scope_59 : decode b_Md_scope 59 = .ok (.iadd, 1) := by decide +kernel
theorem d_Md_scope_60 : decode b_Md_scope 60 = .ok (.putfield 106, 3) := by decide +kernel
theorem d_Md_scope_63 : decode b_Md_scope 63 = .ok (.aload_n 0, 1) := by decide +kernel
theorem d_Md_scope_64 : decode b_Md_scope 64 = .ok (.getfield 106, 3) := by decide +kernel
theorem d_Md_scope_67 : decode b_Md_scope 67 = .ok (.iconst 1, 1) := by decide +kernel
theorem d_Md_scope_68 : decode b_Md_scope 68 = .ok (.isub, 1) := by decide +kernel
theorem d_Md_scope_69 : decode b_Md_scope 69 = .ok (.ireturn, 1) := by decide +kernel
theorem hg_Md_scope : fx_mw fx_g "FixityTreesModel" y_Md_scope b_Md_scope 2 (some .int) := ⟨fx_in 1087 (by decide +kernel) (by decide +kernel), fx_in 1088 (by decide +kernel) (by decide +kernel), fx_in 9 (by decide +kernel) (by decide +kernel), fx_in 1089 (by decide +kernel) (by decide +kernel)⟩
abbrev b_Md_isOperator : ByteArray := prog_10_method_7_code
abbrev y_Md_isOperator : MethodName := ⟨"FixityTreesModel", "isOperator", "(I)Z"⟩
theorem d_Md_isOperator_0 : decode b_Md_isOperator 0 = .ok (.iload_n 0, 1) := by decide +kernel
theorem d_Md_isOperator_1 : decode b_Md_isOperator 1 = .ok (.iconst 0, 1) := by decide +kernel
theorem d_Md_isOperator_2 : decode b_Md_isOperator 2 = .ok (.bipush 40, 2) := by decide +kernel
theorem d_Md_isOperator_4 : decode b_Md_isOperator 4 = .ok (.invokestatic 116, 3) := by decide +kernel
theorem d_Md_isOperator_7 : decode b_Md_isOperator 7 = .ok (.ireturn, 1) := by decide +kernel
theorem hg_Md_isOperator : fx_sw fx_g y_Md_isOperator b_Md_isOperator 1 (some .boolean) := ⟨fx_in 1106 (by decide +kernel) (by decide +kernel), fx_in 9 (by decide +kernel) (by decide +kernel), fx_in 1107 (by decide +kernel) (by decide +kernel)⟩
abbrev b_Md_fixity : ByteArray := prog_10_method_9_code
abbrev y_Md_fixity : MethodName := ⟨"FixityTreesModel", "fixity", "(IIII)V"⟩
theorem d_Md_fixity_0 : decode b_Md_fixity 0 = .ok (.aload_n 0, 1) := by decide +kernel
theorem d_Md_fixity_1 : decode b_Md_fixity 1 = .ok (.iload_n 1, 1) := by decide +kernel
theorem d_Md_fixity_2 : decode b_Md_fixity 2 = .ok (.invokevirtual 120, 3) := by decide +kernel
theorem d_Md_fixity_5 : decode b_Md_fixity 5 = .ok (.ifCond .eq 10, 3) := by decide +kernel
theorem d_Md_fixity_8 : decode b_Md_fixity 8 = .ok (.iload_n 2, 1) := by decide +kernel
theorem d_Md_fixity_9 : decode b_Md_fixity 9 = .ok (.invokestatic 127, 3) := by decide +kernel
theorem d_Md_fixity_12 : decode b_Md_fixity 12 = .ok (.ifCond .ne 7, 3) := by decide +kernel
theorem d_Md_fixity_15 : decode b_Md_fixity 15 = .ok (.iconst 1, 1) := by decide +kernel
theorem d_Md_fixity_16 : decode b_Md_fixity 16 = .ok (.goto 4, 3) := by decide +kernel
theorem d_Md_fixity_19 : decode b_Md_fixity 19 = .ok (.iconst 0, 1) := by decide +kernel
theorem d_Md_fixity_20 : decode b_Md_fixity 20 = .ok (.istore 5, 2) := by decide +kernel
theorem d_Md_fixity_22 : decode b_Md_fixity 22 = .ok (.iload 5, 2) := by decide +kernel
theorem d_Md_fixity_24 : decode b_Md_fixity 24 = .ok (.ifCond .ne 25, 3) := by decide +kernel
theorem d_Md_fixity_27 : decode b_Md_fixity 27 = .ok (.iload_n 2, 1) := by decide +kernel
theorem d_Md_fixity_28 : decode b_Md_fixity 28 = .ok (.ifCond .eq 18, 3) := by decide +kernel
theorem d_Md_fixity_31 : decode b_Md_fixity 31 = .ok (.aload_n 0, 1) := by decide +kernel
theorem d_Md_fixity_32 : decode b_Md_fixity 32 = .ok (.getfield 13, 3) := by decide +kernel
theorem d_Md_fixity_35 : decode b_Md_fixity 35 = .ok (.bipush 41, 2) := by decide +kernel
theorem d_Md_fixity_37 : decode b_Md_fixity 37 = .ok (.iload_n 1, 1) := by decide +kernel
theorem d_Md_fixity_38 : decode b_Md_fixity 38 = .ok (.imul, 1) := by decide +kernel
theorem d_Md_fixity_39 : decode b_Md_fixity 39 = .ok (.iload_n 2, 1) := by decide +kernel
theorem d_Md_fixity_40 : decode b_Md_fixity 40 = .ok (.iadd, 1) := by decide +kernel
theorem d_Md_fixity_41 : decode b_Md_fixity 41 = .ok (.iaload, 1) := by decide +kernel
theorem d_Md_fixity_42 : decode b_Md_fixity 42 = .ok (.iconst (-1), 1) := by decide +kernel
theorem d_Md_fixity_43 : decode b_Md_fixity 43 = .ok (.if_icmp .eq 6, 3) := by decide +kernel
theorem d_Md_fixity_46 : decode b_Md_fixity 46 = .ok (.iconst 2, 1) := by decide +kernel
theorem d_Md_fixity_47 : decode b_Md_fixity 47 = .ok (.istore 5, 2) := by decide +kernel
theorem d_Md_fixity_49 : decode b_Md_fixity 49 = .ok (.iload 5, 2) := by decide +kernel
theorem d_Md_fixity_51 : decode b_Md_fixity 51 = .ok (.ifCond .ne 26, 3) := by decide +kernel
theorem d_Md_fixity_54 : decode b_Md_fixity 54 = .ok (.iload_n 3, 1) := by decide +kernel
theorem d_Md_fixity_55 : decode b_Md_fixity 55 = .ok (.iconst 0, 1) := by decide +kernel
theorem d_Md_fixity_56 : decode b_Md_fixity 56 = .ok (.iconst 2, 1) := by decide +kernel
theorem d_Md_fixity_57 : decode b_Md_fixity 57 = .ok (.invokestatic 116, 3) := by decide +kernel
theorem d_Md_fixity_60 : decode b_Md_fixity 60 = .ok (.ifCond .eq 14, 3) := by decide +kernel
theorem d_Md_fixity_63 : decode b_Md_fixity 63 = .ok (.iload 4, 2) := by decide +kernel
theorem d_Md_fixity_65 : decode b_Md_fixity 65 = .ok (.iconst 0, 1) := by decide +kernel
theorem d_Md_fixity_66 : decode b_Md_fixity 66 = .ok (.bipush 9, 2) := by decide +kernel
theorem d_Md_fixity_68 : decode b_Md_fixity 68 = .ok (.invokestatic 116, 3) := by decide +kernel
theorem d_Md_fixity_71 : decode b_Md_fixity 71 = .ok (.ifCond .ne 6, 3) := by decide +kernel
theorem d_Md_fixity_74 : decode b_Md_fixity 74 = .ok (.iconst 3, 1) := by decide +kernel
theorem d_Md_fixity_75 : decode b_Md_fixity 75 = .ok (.istore 5, 2) := by decide +kernel
theorem d_Md_fixity_77 : decode b_Md_fixity 77 = .ok (.aload_n 0, 1) := by decide +kernel
theorem d_Md_fixity_78 : decode b_Md_fixity 78 = .ok (.iload 5, 2) := by decide +kernel
theorem d_Md_fixity_80 : decode b_Md_fixity 80 = .ok (.invokevirtual 124, 3) := by decide +kernel
theorem d_Md_fixity_83 : decode b_Md_fixity 83 = .ok (.ifCond .eq 28, 3) := by decide +kernel
theorem d_Md_fixity_86 : decode b_Md_fixity 86 = .ok (.aload_n 0, 1) := by decide +kernel
theorem d_Md_fixity_87 : decode b_Md_fixity 87 = .ok (.getfield 13, 3) := by decide +kernel
theorem d_Md_fixity_90 : decode b_Md_fixity 90 = .ok (.bipush 41, 2) := by decide +kernel
theorem d_Md_fixity_92 : decode b_Md_fixity 92 = .ok (.iload_n 1, 1) := by decide +kernel
theorem d_Md_fixity_93 : decode b_Md_fixity 93 = .ok (.imul, 1) := by decide +kernel
theorem d_Md_fixity_94 : decode b_Md_fixity 94 = .ok (.iload_n 2, 1) := by decide +kernel
theorem d_Md_fixity_95 : decode b_Md_fixity 95 = .ok (.iadd, 1) := by decide +kernel
theorem d_Md_fixity_96 : decode b_Md_fixity 96 = .ok (.iload_n 3, 1) := by decide +kernel
theorem d_Md_fixity_97 : decode b_Md_fixity 97 = .ok (.iastore, 1) := by decide +kernel
theorem d_Md_fixity_98 : decode b_Md_fixity 98 = .ok (.aload_n 0, 1) := by decide +kernel
theorem d_Md_fixity_99 : decode b_Md_fixity 99 = .ok (.getfield 16, 3) := by decide +kernel
theorem d_Md_fixity_102 : decode b_Md_fixity 102 = .ok (.bipush 41, 2) := by decide +kernel
theorem d_Md_fixity_104 : decode b_Md_fixity 104 = .ok (.iload_n 1, 1) := by decide +kernel
theorem d_Md_fixity_105 : decode b_Md_fixity 105 = .ok (.imul, 1) := by decide +kernel
theorem d_Md_fixity_106 : decode b_Md_fixity 106 = .ok (.iload_n 2, 1) := by decide +kernel
theorem d_Md_fixity_107 : decode b_Md_fixity 107 = .ok (.iadd, 1) := by decide +kernel
theorem d_Md_fixity_108 : decode b_Md_fixity 108 = .ok (.iload 4, 2) := by decide +kernel
theorem d_Md_fixity_110 : decode b_Md_fixity 110 = .ok (.iastore, 1) := by decide +kernel
theorem d_Md_fixity_111 : decode b_Md_fixity 111 = .ok (.return_, 1) := by decide +kernel
theorem hg_Md_fixity : fx_mw fx_g "FixityTreesModel" y_Md_fixity b_Md_fixity 6 none := ⟨fx_in 1102 (by decide +kernel) (by decide +kernel), fx_in 1103 (by decide +kernel) (by decide +kernel), fx_in 9 (by decide +kernel) (by decide +kernel), fx_in 1104 (by decide +kernel) (by decide +kernel)⟩
abbrev b_Md_teller : ByteArray := prog_10_method_10_code
abbrev y_Md_teller : MethodName := ⟨"FixityTreesModel", "teller", "(II)I"⟩
theorem d_Md_teller_0 : decode b_Md_teller 0 = .ok (.iload_n 1, 1) := by decide +kernel
theorem d_Md_teller_1 : decode b_Md_teller 1 = .ok (.istore_n 3, 1) := by decide +kernel
theorem d_Md_teller_2 : decode b_Md_teller 2 = .ok (.iload_n 3, 1) := by decide +kernel
theorem d_Md_teller_3 : decode b_Md_teller 3 = .ok (.iconst (-1), 1) := by decide +kernel
theorem d_Md_teller_4 : decode b_Md_teller 4 = .ok (.if_icmp .eq 28, 3) := by decide +kernel
theorem d_Md_teller_7 : decode b_Md_teller 7 = .ok (.aload_n 0, 1) := by decide +kernel
theorem d_Md_teller_8 : decode b_Md_teller 8 = .ok (.getfield 13, 3) := by decide +kernel
theorem d_Md_teller_11 : decode b_Md_teller 11 = .ok (.bipush 41, 2) := by decide +kernel
theorem d_Md_teller_13 : decode b_Md_teller 13 = .ok (.iload_n 3, 1) := by decide +kernel
theorem d_Md_teller_14 : decode b_Md_teller 14 = .ok (.imul, 1) := by decide +kernel
theorem d_Md_teller_15 : decode b_Md_teller 15 = .ok (.iload_n 2, 1) := by decide +kernel
theorem d_Md_teller_16 : decode b_Md_teller 16 = .ok (.iadd, 1) := by decide +kernel
theorem d_Md_teller_17 : decode b_Md_teller 17 = .ok (.iaload, 1) := by decide +kernel
theorem d_Md_teller_18 : decode b_Md_teller 18 = .ok (.iconst (-1), 1) := by decide +kernel
theorem d_Md_teller_19 : decode b_Md_teller 19 = .ok (.if_icmp .ne 13, 3) := by decide +kernel
theorem d_Md_teller_22 : decode b_Md_teller 22 = .ok (.aload_n 0, 1) := by decide +kernel
theorem d_Md_teller_23 : decode b_Md_teller 23 = .ok (.getfield 7, 3) := by decide +kernel
theorem d_Md_teller_26 : decode b_Md_teller 26 = .ok (.iload_n 3, 1) := by decide +kernel
theorem d_Md_teller_27 : decode b_Md_teller 27 = .ok (.iaload, 1) := by decide +kernel
theorem d_Md_teller_28 : decode b_Md_teller 28 = .ok (.istore_n 3, 1) := by decide +kernel
theorem d_Md_teller_29 : decode b_Md_teller 29 = .ok (.goto (-27), 3) := by decide +kernel
theorem d_Md_teller_32 : decode b_Md_teller 32 = .ok (.iload_n 3, 1) := by decide +kernel
theorem d_Md_teller_33 : decode b_Md_teller 33 = .ok (.ireturn, 1) := by decide +kernel
theorem hg_Md_teller : fx_mw fx_g "FixityTreesModel" y_Md_teller b_Md_teller 4 (some .int) := ⟨fx_in 1118 (by decide +kernel) (by decide +kernel), fx_inp 45 (by decide +kernel) (by decide +kernel), fx_in 9 (by decide +kernel) (by decide +kernel), fx_in 1119 (by decide +kernel) (by decide +kernel)⟩
abbrev b_Md_rankOf : ByteArray := prog_10_method_12_code
abbrev y_Md_rankOf : MethodName := ⟨"FixityTreesModel", "rankOf", "(II)I"⟩
theorem d_Md_rankOf_0 : decode b_Md_rankOf 0 = .ok (.aload_n 0, 1) := by decide +kernel
theorem d_Md_rankOf_1 : decode b_Md_rankOf 1 = .ok (.iload_n 1, 1) := by decide +kernel
theorem d_Md_rankOf_2 : decode b_Md_rankOf 2 = .ok (.iload_n 2, 1) := by decide +kernel
theorem d_Md_rankOf_3 : decode b_Md_rankOf 3 = .ok (.invokevirtual 130, 3) := by decide +kernel
theorem d_Md_rankOf_6 : decode b_Md_rankOf 6 = .ok (.istore_n 3, 1) := by decide +kernel
theorem d_Md_rankOf_7 : decode b_Md_rankOf 7 = .ok (.iload_n 2, 1) := by decide +kernel
theorem d_Md_rankOf_8 : decode b_Md_rankOf 8 = .ok (.ifCond .ne 8, 3) := by decide +kernel
theorem d_Md_rankOf_11 : decode b_Md_rankOf 11 = .ok (.bipush 6, 2) := by decide +kernel
theorem d_Md_rankOf_13 : decode b_Md_rankOf 13 = .ok (.goto 24, 3) := by decide +kernel
theorem d_Md_rankOf_16 : decode b_Md_rankOf 16 = .ok (.iload_n 3, 1) := by decide +kernel
theorem d_Md_rankOf_17 : decode b_Md_rankOf 17 = .ok (.iconst (-1), 1) := by decide +kernel
theorem d_Md_rankOf_18 : decode b_Md_rankOf 18 = .ok (.if_icmp .ne 8, 3) := by decide +kernel
theorem d_Md_rankOf_21 : decode b_Md_rankOf 21 = .ok (.bipush 9, 2) := by decide +kernel
theorem d_Md_rankOf_23 : decode b_Md_rankOf 23 = .ok (.goto 14, 3) := by decide +kernel
theorem d_Md_rankOf_26 : decode b_Md_rankOf 26 = .ok (.aload_n 0, 1) := by decide +kernel
theorem d_Md_rankOf_27 : decode b_Md_rankOf 27 = .ok (.getfield 16, 3) := by decide +kernel
theorem d_Md_rankOf_30 : decode b_Md_rankOf 30 = .ok (.bipush 41, 2) := by decide +kernel
theorem d_Md_rankOf_32 : decode b_Md_rankOf 32 = .ok (.iload_n 3, 1) := by decide +kernel
theorem d_Md_rankOf_33 : decode b_Md_rankOf 33 = .ok (.imul, 1) := by decide +kernel
theorem d_Md_rankOf_34 : decode b_Md_rankOf 34 = .ok (.iload_n 2, 1) := by decide +kernel
theorem d_Md_rankOf_35 : decode b_Md_rankOf 35 = .ok (.iadd, 1) := by decide +kernel
theorem d_Md_rankOf_36 : decode b_Md_rankOf 36 = .ok (.iaload, 1) := by decide +kernel
theorem d_Md_rankOf_37 : decode b_Md_rankOf 37 = .ok (.ireturn, 1) := by decide +kernel
theorem hg_Md_rankOf : fx_mw fx_g "FixityTreesModel" y_Md_rankOf b_Md_rankOf 4 (some .int) := ⟨fx_in 1122 (by decide +kernel) (by decide +kernel), fx_inp 46 (by decide +kernel) (by decide +kernel), fx_in 9 (by decide +kernel) (by decide +kernel), fx_in 1123 (by decide +kernel) (by decide +kernel)⟩
abbrev b_Md_sideOf : ByteArray := prog_10_method_11_code
abbrev y_Md_sideOf : MethodName := ⟨"FixityTreesModel", "sideOf", "(II)I"⟩
theorem d_Md_sideOf_0 : decode b_Md_sideOf 0 = .ok (.aload_n 0, 1) := by decide +kernel
theorem d_Md_sideOf_1 : decode b_Md_sideOf 1 = .ok (.iload_n 1, 1) := by decide +kernel
theorem d_Md_sideOf_2 : decode b_Md_sideOf 2 = .ok (.iload_n 2, 1) := by decide +kernel
theorem d_Md_sideOf_3 : decode b_Md_sideOf 3 = .ok (.invokevirtual 130, 3) := by decide +kernel
theorem d_Md_sideOf_6 : decode b_Md_sideOf 6 = .ok (.istore_n 3, 1) := by decide +kernel
theorem d_Md_sideOf_7 : decode b_Md_sideOf 7 = .ok (.iload_n 3, 1) := by decide +kernel
theorem d_Md_sideOf_8 : decode b_Md_sideOf 8 = .ok (.iconst (-1), 1) := by decide +kernel
theorem d_Md_sideOf_9 : decode b_Md_sideOf 9 = .ok (.if_icmp .ne 7, 3) := by decide +kernel
theorem d_Md_sideOf_12 : decode b_Md_sideOf 12 = .ok (.iconst 0, 1) := by decide +kernel
theorem d_Md_sideOf_13 : decode b_Md_sideOf 13 = .ok (.goto 14, 3) := by decide +kernel
theorem d_Md_sideOf_16 : decode b_Md_sideOf 16 = .ok (.aload_n 0, 1) := by decide +kernel
theorem d_Md_sideOf_17 : decode b_Md_sideOf 17 = .ok (.getfield 13, 3) := by decide +kernel
theorem d_Md_sideOf_20 : decode b_Md_sideOf 20 = .ok (.bipush 41, 2) := by decide +kernel
theorem d_Md_sideOf_22 : decode b_Md_sideOf 22 = .ok (.iload_n 3, 1) := by decide +kernel
theorem d_Md_sideOf_23 : decode b_Md_sideOf 23 = .ok (.imul, 1) := by decide +kernel
theorem d_Md_sideOf_24 : decode b_Md_sideOf 24 = .ok (.iload_n 2, 1) := by decide +kernel
theorem d_Md_sideOf_25 : decode b_Md_sideOf 25 = .ok (.iadd, 1) := by decide +kernel
theorem d_Md_sideOf_26 : decode b_Md_sideOf 26 = .ok (.iaload, 1) := by decide +kernel
theorem d_Md_sideOf_27 : decode b_Md_sideOf 27 = .ok (.ireturn, 1) := by decide +kernel
theorem hg_Md_sideOf : fx_mw fx_g "FixityTreesModel" y_Md_sideOf b_Md_sideOf 4 (some .int) := ⟨fx_in 1114 (by decide +kernel) (by decide +kernel), fx_inp 44 (by decide +kernel) (by decide +kernel), fx_in 9 (by decide +kernel) (by decide +kernel), fx_in 1115 (by decide +kernel) (by decide +kernel)⟩
abbrev b_Md_looked : ByteArray := prog_10_method_13_code
abbrev y_Md_looked : MethodName := ⟨"FixityTreesModel", "looked", "(III)I"⟩
theorem d_Md_looked_0 : decode b_Md_looked 0 = .ok (.aload_n 0, 1) := by decide +kernel
theorem d_Md_looked_1 : decode b_Md_looked 1 = .ok (.aload_n 0, 1) := by decide +kernel
theorem d_Md_looked_2 : decode b_Md_looked 2 = .ok (.iload_n 1, 1) := by decide +kernel
theorem d_Md_looked_3 : decode b_Md_looked 3 = .ok (.invokevirtual 120, 3) := by decide +kernel
theorem d_Md_looked_6 : decode b_Md_looked 6 = .ok (.ifCond .eq 10, 3) := by decide +kernel
theorem d_Md_looked_9 : decode b_Md_looked 9 = .ok (.iload_n 2, 1) := by decide +kernel
theorem d_Md_looked_10 : decode b_Md_looked 10 = .ok (.invokestatic 127, 3) := by decide +kernel
theorem d_Md_looked_13 : decode b_Md_looked 13 = .ok (.ifCond .ne 7, 3) := by decide +kernel
theorem d_Md_looked_16 : decode b_Md_looked 16 = .ok (.iconst 1, 1) := by decide +kernel
theorem d_Md_looked_17 : decode b_Md_looked 17 = .ok (.goto 17, 3) := by decide +kernel
theorem d_Md_looked_20 : decode b_Md_looked 20 = .ok (.iload_n 3, 1) := by decide +kernel
theorem d_Md_looked_21 : decode b_Md_looked 21 = .ok (.iconst 0, 1) := by decide +kernel
theorem d_Md_looked_22 : decode b_Md_looked 22 = .ok (.iconst 2, 1) := by decide +kernel
theorem d_Md_looked_23 : decode b_Md_looked 23 = .ok (.invokestatic 116, 3) := by decide +kernel
theorem d_Md_looked_26 : decode b_Md_looked 26 = .ok (.ifCond .ne 7, 3) := by decide +kernel
theorem d_Md_looked_29 : decode b_Md_looked 29 = .ok (.iconst 2, 1) := by decide +kernel
theorem d_Md_looked_30 : decode b_Md_looked 30 = .ok (.goto 4, 3) := by decide +kernel
theorem d_Md_looked_33 : decode b_Md_looked 33 = .ok (.iconst 0, 1) := by decide +kernel
theorem d_Md_looked_34 : decode b_Md_looked 34 = .ok (.invokevirtual 124, 3) := by decide +kernel
theorem d_Md_looked_37 : decode b_Md_looked 37 = .ok (.ifCond .ne 5, 3) := by decide +kernel
theorem d_Md_looked_40 : decode b_Md_looked 40 = .ok (.iconst 0, 1) := by decide +kernel
theorem d_Md_looked_41 : decode b_Md_looked 41 = .ok (.ireturn, 1) := by decide +kernel
theorem d_Md_looked_42 : decode b_Md_looked 42 = .ok (.iload_n 3, 1) := by decide +kernel
theorem d_Md_looked_43 : decode b_Md_looked 43 = .ok (.ifCond .ne 12, 3) := by decide +kernel
theorem d_Md_looked_46 : decode b_Md_looked 46 = .ok (.aload_n 0, 1) := by decide +kernel
theorem d_Md_looked_47 : decode b_Md_looked 47 = .ok (.iload_n 1, 1) := by decide +kernel
theorem d_Md_looked_48 : decode b_Md_looked 48 = .ok (.iload_n 2, 1) := by decide +kernel
theorem d_Md_looked_49 : decode b_Md_looked 49 = .ok (.invokevirtual 134, 3) := by decide +kernel
theorem d_Md_looked_52 : decode b_Md_looked 52 = .ok (.goto 23, 3) := by decide +kernel
theorem d_Md_looked_55 : decode b_Md_looked 55 = .ok (.iload_n 3, 1) := by decide +kernel
theorem d_Md_looked_56 : decode b_Md_looked 56 = .ok (.iconst 1, 1) := by decide +kernel
theorem d_Md_looked_57 : decode b_Md_looked 57 = .ok (.if_icmp .ne 12, 3) := by decide +kernel
theorem d_Md_looked_60 : decode b_Md_looked 60 = .ok (.aload_n 0, 1) := by decide +kernel
theorem d_Md_looked_61 : decode b_Md_looked 61 = .ok (.iload_n 1, 1) := by decide +kernel
theorem d_Md_looked_62 : decode b_Md_looked 62 = .ok (.iload_n 2, 1) := by decide +kernel
theorem d_Md_looked_63 : decode b_Md_looked 63 = .ok (.invokevirtual 137, 3) := by decide +kernel
theorem d_Md_looked_66 : decode b_Md_looked 66 = .ok (.goto 9, 3) := by decide +kernel
theorem d_Md_looked_69 : decode b_Md_looked 69 = .ok (.aload_n 0, 1) := by decide +kernel
theorem d_Md_looked_70 : decode b_Md_looked 70 = .ok (.iload_n 1, 1) := by decide +kernel
theorem d_Md_looked_71 : decode b_Md_looked 71 = .ok (.iload_n 2, 1) := by decide +kernel
theorem d_Md_looked_72 : decode b_Md_looked 72 = .ok (.invokevirtual 130, 3) := by decide +kernel
theorem d_Md_looked_75 : decode b_Md_looked 75 = .ok (.ireturn, 1) := by decide +kernel
theorem hg_Md_looked : fx_mw fx_g "FixityTreesModel" y_Md_looked b_Md_looked 4 (some .int) := ⟨fx_in 1109 (by decide +kernel) (by decide +kernel), fx_in 1110 (by decide +kernel) (by decide +kernel), fx_in 9 (by decide +kernel) (by decide +kernel), fx_in 1111 (by decide +kernel) (by decide +kernel)⟩
abbrev b_Md_begin : ByteArray := prog_10_method_14_code
abbrev y_Md_begin : MethodName := ⟨"FixityTreesModel", "begin", "(Z)V"⟩
theorem d_Md_begin_0 : decode b_Md_begin 0 = .ok (.aload_n 0, 1) := by decide +kernel
theorem d_Md_begin_1 : decode b_Md_begin 1 = .ok (.iconst 0, 1) := by decide +kernel
theorem d_Md_begin_2 : decode b_Md_begin 2 = .ok (.putfield 113, 3) := by decide +kernel
theorem d_Md_begin_5 : decode b_Md_begin 5 = .ok (.aload_n 0, 1) := by decide +kernel
theorem d_Md_begin_6 : decode b_Md_begin 6 = .ok (.iconst 0, 1) := by decide +kernel
theorem d_Md_begin_7 : decode b_Md_begin 7 = .ok (.putfield 140, 3) := by decide +kernel
theorem d_Md_begin_10 : decode b_Md_begin 10 = .ok (.aload_n 0, 1) := by decide +kernel
theorem d_Md_begin_11 : decode b_Md_begin 11 = .ok (.iconst 0, 1) := by decide +kernel
theorem d_Md_begin_12 : decode b_Md_begin 12 = .ok (.putfield 143, 3) := by decide +kernel
theorem d_Md_begin_15 : decode b_Md_begin 15 = .ok (.aload_n 0, 1) := by decide +kernel
theorem d_Md_begin_16 : decode b_Md_begin 16 = .ok (.iload_n 1, 1) := by decide +kernel
theorem d_Md_begin_17 : decode b_Md_begin 17 = .ok (.putfield 146, 3) := by decide +kernel
theorem d_Md_begin_20 : decode b_Md_begin 20 = .ok (.return_, 1) := by decide +kernel
theorem hg_Md_begin : fx_mw fx_g "FixityTreesModel" y_Md_begin b_Md_begin 2 none := ⟨fx_in 1125 (by decide +kernel) (by decide +kernel), fx_in 1126 (by decide +kernel) (by decide +kernel), fx_in 9 (by decide +kernel) (by decide +kernel), fx_in 1127 (by decide +kernel) (by decide +kernel)⟩
abbrev b_Md_lastKind : ByteArray := prog_10_method_15_code
abbrev y_Md_lastKind : MethodName := ⟨"FixityTreesModel", "lastKind", "()I"⟩
theorem d_Md_lastKind_0 : decode b_Md_lastKind 0 = .ok (.aload_n 0, 1) := by decide +kernel
theorem d_Md_lastKind_1 : decode b_Md_lastKind 1 = .ok (.getfield 140, 3) := by decide +kernel
theorem d_Md_lastKind_4 : decode b_Md_lastKind 4 = .ok (.ifCond .ne 7, 3) := by decide +kernel
theorem d_Md_lastKind_7 : decode b_Md_lastKind 7 = .ok (.iconst (-1), 1) := by decide +kernel
theorem d_Md_lastKind_8 : decode b_Md_lastKind 8 = .ok (.goto 14, 3) := by decide +kernel
theorem d_Md_lastKind_11 : decode b_Md_lastKind 11 = .ok (.aload_n 0, 1) := by decide +kernel
theorem d_Md_lastKind_12 : decode b_Md_lastKind 12 = .ok (.getfield 19, 3) := by decide +kernel
theorem d_Md_lastKind_15 : decode b_Md_lastKind 15 = .ok (.aload_n 0, 1) := by decide +kernel
theorem d_Md_lastKind_16 : decode b_Md_lastKind 16 = .ok (.getfield 140, 3) := by decide +kernel
theorem d_Md_lastKind_19 : decode b_Md_lastKind 19 = .ok (.iconst 1, 1) := by decide +kernel
theorem d_Md_lastKind_20 : decode b_Md_lastKind 20 = .ok (.isub, 1) := by decide +kernel
theorem d_Md_lastKind_21 : decode b_Md_lastKind 21 = .ok (.iaload, 1) := by decide +kernel
theorem d_Md_lastKind_22 : decode b_Md_lastKind 22 = .ok (.ireturn, 1) := by decide +kernel
theorem hg_Md_lastKind : fx_mw fx_g "FixityTreesModel" y_Md_lastKind b_Md_lastKind 1 (some .int) := ⟨fx_in 1138 (by decide +kernel) (by decide +kernel), fx_inp 48 (by decide +kernel) (by decide +kernel), fx_in 9 (by decide +kernel) (by decide +kernel), fx_in 1139 (by decide +kernel) (by decide +kernel)⟩
abbrev b_Md_isDue : ByteArray := prog_10_method_16_code
abbrev y_Md_isDue : MethodName := ⟨"FixityTreesModel", "isDue", "()Z"⟩
theorem d_Md_isDue_0 : decode b_Md_isDue 0 = .ok (.aload_n 0, 1) := by decide +kernel
theorem d_Md_isDue_1 : decode b_Md_isDue 1 = .ok (.getfield 140, 3) := by decide +kernel
theorem d_Md_isDue_4 : decode b_Md_isDue 4 = .ok (.ifCond .eq 15, 3) := by decide +kernel
theorem d_Md_isDue_7 : decode b_Md_isDue 7 = .ok (.aload_n 0, 1) := by decide +kernel
theorem d_Md_isDue_8 : decode b_Md_isDue 8 = .ok (.invokevirtual 150, 3) := by decide +kernel
theorem d_Md_isDue_11 : decode b_Md_isDue 11 = .ok (.iconst 1, 1) := by decide +kernel
theorem d_Md_isDue_12 : decode b_Md_isDue 12 = .ok (.iconst 3, 1) := by decide +kernel
theorem d_Md_isDue_13 : decode b_Md_isDue 13 = .ok (.invokestatic 116, 3) := by decide +kernel
theorem d_Md_isDue_16 : decode b_Md_isDue 16 = .ok (.ifCond .eq 7, 3) := by decide +kernel
theorem d_Md_isDue_19 : decode b_Md_isDue 19 = .ok (.iconst 1, 1) := by decide +kernel
theorem d_Md_isDue_20 : decode b_Md_isDue 20 = .ok (.goto 4, 3) := by decide +kernel
theorem d_Md_isDue_23 : decode b_Md_isDue 23 = .ok (.iconst 0, 1) := by decide +kernel
theorem d_Md_isDue_24 : decode b_Md_isDue 24 = .ok (.ireturn, 1) := by decide +kernel
theorem hg_Md_isDue : fx_mw fx_g "FixityTreesModel" y_Md_isDue b_Md_isDue 1 (some .boolean) := ⟨fx_in 1134 (by decide +kernel) (by decide +kernel), fx_inp 47 (by decide +kernel) (by decide +kernel), fx_in 9 (by decide +kernel) (by decide +kernel), fx_in 1135 (by decide +kernel) (by decide +kernel)⟩
abbrev b_Md_add : ByteArray := prog_10_method_18_code
abbrev y_Md_add : MethodName := ⟨"FixityTreesModel", "add", "(IIJ)I"⟩
theorem d_Md_add_0 : decode b_Md_add 0 = .ok (.aload_n 0, 1) := by decide +kernel
theorem d_Md_add_1 : decode b_Md_add 1 = .ok (.getfield 19, 3) := by decide +kernel
theorem d_Md_add_4 : decode b_Md_add 4 = .ok (.aload_n 0, 1) := by decide +kernel
theorem d_Md_add_5 : decode b_Md_add 5 = .ok (.getfield 140, 3) := by decide +kernel
theorem d_Md_add_8 : decode b_Md_add 8 = .ok (.iload_n 1, 1) := by decide +kernel
theorem d_Md_add_9 : decode b_Md_add 9 = .ok (.iastore, 1) := by decide +kernel
theorem d_Md_add_10 : decode b_Md_add 10 = .ok (.aload_n 0, 1) := by decide +kernel
theorem d_Md_add_11 : decode b_Md_add 11 = .ok (.getfield 22, 3) := by decide +kernel
theorem d_Md_add_14 : decode b_Md_add 14 = .ok (.aload_n 0, 1) := by decide +kernel
theorem d_Md_add_15 : decode b_Md_add 15 = .ok (.getfield 140, 3) := by decide +kernel
theorem d_Md_add_18 : decode b_Md_add 18 = .ok (.iload_n 2, 1) := by decide +kernel
theorem d_Md_add_19 : decode b_Md_add 19 = .ok (.iastore, 1) := by decide +kernel
theorem d_Md_add_20 : decode b_Md_add 20 = .ok (.aload_n 0, 1) := by decide +kernel
theorem d_Md_add_21 : decode b_Md_add 21 = .ok (.getfield 25, 3) := by decide +kernel
theorem d_Md_add_24 : decode b_Md_add 24 = .ok (.aload_n 0, 1) := by decide +kernel
theorem d_Md_add_25 : decode b_Md_add 25 = .ok (.getfield 140, 3) := by decide +kernel
theorem d_Md_add_28 : decode b_Md_add 28 = .ok (.lload_n 3, 1) := by decide +kernel
theorem d_Md_add_29 : decode b_Md_add 29 = .ok (.lastore, 1) := by decide +kernel
theorem d_Md_add_30 : decode b_Md_add 30 = .ok (.aload_n 0, 1) := by decide +kernel
theorem d_Md_add_31 : decode b_Md_add 31 = .ok (.dup, 1) := by decide +kernel
theorem d_Md_add_32 : decode b_Md_add 32 = .ok (.getfield 140, 3) := by decide +kernel
theorem d_Md_add_35 : decode b_Md_add 35 = .ok (.iconst 1, 1) := by decide +kernel
theorem d_Md_add_36 : decode b_Md_add 36 = .ok (.iadd, 1) := by decide +kernel
theorem d_Md_add_37 : decode b_Md_add 37 = .ok (.putfield 140, 3) := by decide +kernel
theorem d_Md_add_40 : decode b_Md_add 40 = .ok (.aload_n 0, 1) := by decide +kernel
theorem d_Md_add_41 : decode b_Md_add 41 = .ok (.getfield 140, 3) := by decide +kernel
theorem d_Md_add_44 : decode b_Md_add 44 = .ok (.ireturn, 1) := by decide +kernel
theorem hg_Md_add : fx_mw fx_g "FixityTreesModel" y_Md_add b_Md_add 5 (some .int) := ⟨fx_in 1142 (by decide +kernel) (by decide +kernel), fx_inp 49 (by decide +kernel) (by decide +kernel), fx_in 9 (by decide +kernel) (by decide +kernel), fx_in 1143 (by decide +kernel) (by decide +kernel)⟩
abbrev b_Md_operand : ByteArray := prog_10_method_19_code
abbrev y_Md_operand : MethodName := ⟨"FixityTreesModel", "operand", "(J)I"⟩
theorem d_Md_operand_0 : decode b_Md_operand 0 = .ok (.aload_n 0, 1) := by decide +kernel
theorem d_Md_operand_1 : decode b_Md_operand 1 = .ok (.aload_n 0, 1) := by decide +kernel
theorem d_Md_operand_2 : decode b_Md_operand 2 = .ok (.invokevirtual 154, 3) := by decide +kernel
theorem d_Md_operand_5 : decode b_Md_operand 5 = .ok (.ifCond .eq 13, 3) := by decide +kernel
theorem d_Md_operand_8 : decode b_Md_operand 8 = .ok (.aload_n 0, 1) := by decide +kernel
theorem d_Md_operand_9 : decode b_Md_operand 9 = .ok (.getfield 140, 3) := by decide +kernel
theorem d_Md_operand_12 : decode b_Md_operand 12 = .ok (.sipush 200, 3) := by decide +kernel
theorem d_Md_operand_15 : decode b_Md_operand 15 = .ok (.if_icmp .ne 7, 3) := by decide +kernel
theorem d_Md_operand_18 : decode b_Md_operand 18 = .ok (.iconst 1, 1) := by decide +kernel
theorem d_Md_operand_19 : decode b_Md_operand 19 = .ok (.goto 4, 3) := by decide +kernel
theorem d_Md_operand_22 : decode b_Md_operand 22 = .ok (.iconst 0, 1) := by decide +kernel
theorem d_Md_operand_23 : decode b_Md_operand 23 = .ok (.invokevirtual 124, 3) := by decide +kernel
theorem d_Md_operand_26 : decode b_Md_operand 26 = .ok (.ifCond .eq 13, 3) := by decide +kernel
theorem d_Md_operand_29 : decode b_Md_operand 29 = .ok (.aload_n 0, 1) := by decide +kernel
theorem d_Md_operand_30 : decode b_Md_operand 30 = .ok (.iconst 0, 1) := by decide +kernel
theorem d_Md_operand_31 : decode b_Md_operand 31 = .ok (.iconst (-1), 1) := by decide +kernel
theorem d_Md_operand_32 : decode b_Md_operand 32 = .ok (.lload_n 1, 1) := by decide +kernel
theorem d_Md_operand_33 : decode b_Md_operand 33 = .ok (.invokevirtual 158, 3) := by decide +kernel
theorem d_Md_operand_36 : decode b_Md_operand 36 = .ok (.goto 4, 3) := by decide +kernel
theorem d_Md_operand_39 : decode b_Md_operand 39 = .ok (.iconst 0, 1) := by decide +kernel
theorem d_Md_operand_40 : decode b_Md_operand 40 = .ok (.ireturn, 1) := by decide +kernel
theorem hg_Md_operand : fx_mw fx_g "FixityTreesModel" y_Md_operand b_Md_operand 3 (some .int) := ⟨fx_in 1129 (by decide +kernel) (by decide +kernel), fx_in 1130 (by decide +kernel) (by decide +kernel), fx_in 9 (by decide +kernel) (by decide +kernel), fx_in 1131 (by decide +kernel) (by decide +kernel)⟩
abbrev b_Md_operator : ByteArray := prog_10_method_20_code
abbrev y_Md_operator : MethodName := ⟨"FixityTreesModel", "operator", "(I)I"⟩
theorem d_Md_operator_0 : decode b_Md_operator 0 = .ok (.aload_n 0, 1) := by decide +kernel
theorem d_Md_operator_1 : decode b_Md_operator 1 = .ok (.getfield 140, 3) := by decide +kernel
theorem d_Md_operator_4 : decode b_Md_operator 4 = .ok (.sipush 200, 3) := by decide +kernel
theorem d_Md_operator_7 : decode b_Md_operator 7 = .ok (.if_icmp .ge 7, 3) := by decide +kernel
theorem d_Md_operator_10 : decode b_Md_operator 10 = .ok (.iconst 1, 1) := by decide +kernel
theorem d_Md_operator_11 : decode b_Md_operator 11 = .ok (.goto 4, 3) := by decide +kernel
theorem d_Md_operator_14 : decode b_Md_operator 14 = .ok (.iconst 0, 1) := by decide +kernel
theorem d_Md_operator_15 : decode b_Md_operator 15 = .ok (.istore_n 2, 1) := by decide +kernel
theorem d_Md_operator_16 : decode b_Md_operator 16 = .ok (.aload_n 0, 1) := by decide +kernel
theorem d_Md_operator_17 : decode b_Md_operator 17 = .ok (.invokevirtual 154, 3) := by decide +kernel
theorem d_Md_operator_20 : decode b_Md_operator 20 = .ok (.ifCond .eq 11, 3) := by decide +kernel
theorem d_Md_operator_23 : decode b_Md_operator 23 = .ok (.iload_n 1, 1) := by decide +kernel
theorem d_Md_operator_24 : decode b_Md_operator 24 = .ok (.ifCond .ne 7, 3) := by decide +kernel
theorem d_Md_operator_27 : decode b_Md_operator 27 = .ok (.iconst 1, 1) := by decide +kernel
theorem d_Md_operator_28 : decode b_Md_operator 28 = .ok (.goto 4, 3) := by decide +kernel
theorem d_Md_operator_31 : decode b_Md_operator 31 = .ok (.iconst 0, 1) := by decide +kernel
theorem d_Md_operator_32 : decode b_Md_operator 32 = .ok (.istore_n 3, 1) := by decide +kernel
theorem d_Md_operator_33 : decode b_Md_operator 33 = .ok (.iload_n 3, 1) := by decide +kernel
theorem d_Md_operator_34 : decode b_Md_operator 34 = .ok (.ifCond .eq 31, 3) := by decide +kernel
theorem d_Md_operator_37 : decode b_Md_operator 37 = .ok (.iload_n 2, 1) := by decide +kernel
theorem d_Md_operator_38 : decode b_Md_operator 38 = .ok (.ifCond .eq 22, 3) := by decide +kernel
theorem d_Md_operator_41 : decode b_Md_operator 41 = .ok (.aload_n 0, 1) := by decide +kernel
theorem d_Md_operator_42 : decode b_Md_operator 42 = .ok (.getfield 146, 3) := by decide +kernel
theorem d_Md_operator_45 : decode b_Md_operator 45 = .ok (.ifCond .eq 11, 3) := by decide +kernel
theorem d_Md_operator_48 : decode b_Md_operator 48 = .ok (.aload_n 0, 1) := by decide +kernel
theorem d_Md_operator_49 : decode b_Md_operator 49 = .ok (.invokevirtual 150, 3) := by decide +kernel
theorem d_Md_operator_52 : decode b_Md_operator 52 = .ok (.iconst 2, 1) := by decide +kernel
theorem d_Md_operator_53 : decode b_Md_operator 53 = .ok (.if_icmp .eq 7, 3) := by decide +kernel
theorem d_Md_operator_56 : decode b_Md_operator 56 = .ok (.iconst 1, 1) := by decide +kernel
theorem d_Md_operator_57 : decode b_Md_operator 57 = .ok (.goto 4, 3) := by decide +kernel
theorem d_Md_operator_60 : decode b_Md_operator 60 = .ok (.iconst 0, 1) := by decide +kernel
theorem d_Md_operator_61 : decode b_Md_operator 61 = .ok (.istore_n 2, 1) := by decide +kernel
theorem d_Md_operator_62 : decode b_Md_operator 62 = .ok (.goto 35, 3) := by decide +kernel
theorem d_Md_operator_65 : decode b_Md_operator 65 = .ok (.aload_n 0, 1) := by decide +kernel
theorem d_Md_operator_66 : decode b_Md_operator 66 = .ok (.invokevirtual 154, 3) := by decide +kernel
theorem d_Md_operator_69 : decode b_Md_operator 69 = .ok (.ifCond .eq 28, 3) := by decide +kernel
theorem d_Md_operator_72 : decode b_Md_operator 72 = .ok (.iload_n 2, 1) := by decide +kernel
theorem d_Md_operator_73 : decode b_Md_operator 73 = .ok (.ifCond .eq 22, 3) := by decide +kernel
theorem d_Md_operator_76 : decode b_Md_operator 76 = .ok (.aload_n 0, 1) := by decide +kernel
theorem d_Md_operator_77 : decode b_Md_operator 77 = .ok (.getfield 146, 3) := by decide +kernel
theorem d_Md_operator_80 : decode b_Md_operator 80 = .ok (.ifCond .ne 15, 3) := by decide +kernel
theorem d_Md_operator_83 : decode b_Md_operator 83 = .ok (.aload_n 0, 1) := by decide +kernel
theorem d_Md_operator_84 : decode b_Md_operator 84 = .ok (.invokevirtual 150, 3) := by decide +kernel
theorem d_Md_operator_87 : decode b_Md_operator 87 = .ok (.iconst 3, 1) := by decide +kernel
theorem d_Md_operator_88 : decode b_Md_operator 88 = .ok (.if_icmp .ne 7, 3) := by decide +kernel
theorem d_Md_operator_91 : decode b_Md_operator 91 = .ok (.iconst 1, 1) := by decide +kernel
theorem d_Md_operator_92 : decode b_Md_operator 92 = .ok (.goto 4, 3) := by decide +kernel
theorem d_Md_operator_95 : decode b_Md_operator 95 = .ok (.iconst 0, 1) := by decide +kernel
theorem d_Md_operator_96 : decode b_Md_operator 96 = .ok (.istore_n 2, 1) := by decide +kernel
theorem d_Md_operator_97 : decode b_Md_operator 97 = .ok (.aload_n 0, 1) := by decide +kernel
theorem d_Md_operator_98 : decode b_Md_operator 98 = .ok (.iload_n 1, 1) := by decide +kernel
theorem d_Md_operator_99 : decode b_Md_operator 99 = .ok (.invokestatic 127, 3) := by decide +kernel
theorem d_Md_operator_102 : decode b_Md_operator 102 = .ok (.ifCond .ne 7, 3) := by decide +kernel
theorem d_Md_operator_105 : decode b_Md_operator 105 = .ok (.iconst 1, 1) := by decide +kernel
theorem d_Md_operator_106 : decode b_Md_operator 106 = .ok (.goto 12, 3) := by decide +kernel
theorem d_Md_operator_109 : decode b_Md_operator 109 = .ok (.iload_n 2, 1) := by decide +kernel
theorem d_Md_operator_110 : decode b_Md_operator 110 = .ok (.ifCond .eq 7, 3) := by decide +kernel
theorem d_Md_operator_113 : decode b_Md_operator 113 = .ok (.iconst 0, 1) := by decide +kernel
theorem d_Md_operator_114 : decode b_Md_operator 114 = .ok (.goto 4, 3) := by decide +kernel
theorem d_Md_operator_117 : decode b_Md_operator 117 = .ok (.iconst 2, 1) := by decide +kernel
theorem d_Md_operator_118 : decode b_Md_operator 118 = .ok (.invokevirtual 124, 3) := by decide +kernel
theorem d_Md_operator_121 : decode b_Md_operator 121 = .ok (.ifCond .ne 5, 3) := by decide +kernel
theorem d_Md_operator_124 : decode b_Md_operator 124 = .ok (.iconst 0, 1) := by decide +kernel
theorem d_Md_operator_125 : decode b_Md_operator 125 = .ok (.ireturn, 1) := by decide +kernel
theorem d_Md_operator_126 : decode b_Md_operator 126 = .ok (.aload_n 0, 1) := by decide +kernel
theorem d_Md_operator_127 : decode b_Md_operator 127 = .ok (.iload_n 3, 1) := by decide +kernel
theorem d_Md_operator_128 : decode b_Md_operator 128 = .ok (.ifCond .eq 7, 3) := by decide +kernel
theorem d_Md_operator_131 : decode b_Md_operator 131 = .ok (.iconst 2, 1) := by decide +kernel
theorem d_Md_operator_132 : decode b_Md_operator 132 = .ok (.goto 4, 3) := by decide +kernel
theorem d_Md_operator_135 : decode b_Md_operator 135 = .ok (.iconst 1, 1) := by decide +kernel
theorem d_Md_operator_136 : decode b_Md_operator 136 = .ok (.iload_n 1, 1) := by decide +kernel
theorem d_Md_operator_137 : decode b_Md_operator 137 = .ok (.lconst 0, 1) := by decide +kernel
theorem d_Md_operator_138 : decode b_Md_operator 138 = .ok (.invokevirtual 158, 3) := by decide +kernel
theorem d_Md_operator_141 : decode b_Md_operator 141 = .ok (.ireturn, 1) := by decide +kernel
theorem hg_Md_operator : fx_mw fx_g "FixityTreesModel" y_Md_operator b_Md_operator 4 (some .int) := ⟨fx_in 1145 (by decide +kernel) (by decide +kernel), fx_in 1146 (by decide +kernel) (by decide +kernel), fx_in 9 (by decide +kernel) (by decide +kernel), fx_in 1147 (by decide +kernel) (by decide +kernel)⟩
abbrev b_Md_open : ByteArray := prog_10_method_21_code
abbrev y_Md_open : MethodName := ⟨"FixityTreesModel", "open", "()I"⟩
theorem d_Md_open_0 : decode b_Md_open 0 = .ok (.aload_n 0, 1) := by decide +kernel
theorem d_Md_open_1 : decode b_Md_open 1 = .ok (.invokevirtual 154, 3) := by decide +kernel
theorem d_Md_open_4 : decode b_Md_open 4 = .ok (.ifCond .eq 41, 3) := by decide +kernel
theorem d_Md_open_7 : decode b_Md_open 7 = .ok (.aload_n 0, 1) := by decide +kernel
theorem d_Md_open_8 : decode b_Md_open 8 = .ok (.getfield 140, 3) := by decide +kernel
theorem d_Md_open_11 : decode b_Md_open 11 = .ok (.sipush 200, 3) := by decide +kernel
theorem d_Md_open_14 : decode b_Md_open 14 = .ok (.if_icmp .ge 31, 3) := by decide +kernel
theorem d_Md_open_17 : decode b_Md_open 17 = .ok (.aload_n 0, 1) := by decide +kernel
theorem d_Md_open_18 : decode b_Md_open 18 = .ok (.getfield 143, 3) := by decide +kernel
theorem d_Md_open_21 : decode b_Md_open 21 = .ok (.bipush 40, 2) := by decide +kernel
theorem d_Md_open_23 : decode b_Md_open 23 = .ok (.if_icmp .ge 22, 3) := by decide +kernel
theorem d_Md_open_26 : decode b_Md_open 26 = .ok (.aload_n 0, 1) := by decide +kernel
theorem d_Md_open_27 : decode b_Md_open 27 = .ok (.getfield 146, 3) := by decide +kernel
theorem d_Md_open_30 : decode b_Md_open 30 = .ok (.ifCond .eq 11, 3) := by decide +kernel
theorem d_Md_open_33 : decode b_Md_open 33 = .ok (.aload_n 0, 1) := by decide +kernel
theorem d_Md_open_34 : decode b_Md_open 34 = .ok (.invokevirtual 150, 3) := by decide +kernel
theorem d_Md_open_37 : decode b_Md_open 37 = .ok (.iconst 2, 1) := by decide +kernel
theorem d_Md_open_38 : decode b_Md_open 38 = .ok (.if_icmp .eq 7, 3) := by decide +kernel
theorem d_Md_open_41 : decode b_Md_open 41 = .ok (.iconst 1, 1) := by decide +kernel
theorem d_Md_open_42 : decode b_Md_open 42 = .ok (.goto 4, 3) := by decide +kernel
theorem d_Md_open_45 : decode b_Md_open 45 = .ok (.iconst 0, 1) := by decide +kernel
theorem d_Md_open_46 : decode b_Md_open 46 = .ok (.istore_n 1, 1) := by decide +kernel
theorem d_Md_open_47 : decode b_Md_open 47 = .ok (.aload_n 0, 1) := by decide +kernel
theorem d_Md_open_48 : decode b_Md_open 48 = .ok (.iload_n 1, 1) := by decide +kernel
theorem d_Md_open_49 : decode b_Md_open 49 = .ok (.ifCond .eq 7, 3) := by decide +kernel
theorem d_Md_open_52 : decode b_Md_open 52 = .ok (.iconst 0, 1) := by decide +kernel
theorem d_Md_open_53 : decode b_Md_open 53 = .ok (.goto 4, 3) := by decide +kernel
theorem d_Md_open_56 : decode b_Md_open 56 = .ok (.iconst 1, 1) := by decide +kernel
theorem d_Md_open_57 : decode b_Md_open 57 = .ok (.invokevirtual 124, 3) := by decide +kernel
theorem d_Md_open_60 : decode b_Md_open 60 = .ok (.ifCond .ne 5, 3) := by decide +kernel
theorem d_Md_open_63 : decode b_Md_open 63 = .ok (.iconst 0, 1) := by decide +kernel
theorem d_Md_open_64 : decode b_Md_open 64 = .ok (.ireturn, 1) := by decide +kernel
theorem d_Md_open_65 : decode b_Md_open 65 = .ok (.aload_n 0, 1) := by decide +kernel
theorem d_Md_open_66 : decode b_Md_open 66 = .ok (.getfield 29, 3) := by decide +kernel
theorem d_Md_open_69 : decode b_Md_open 69 = .ok (.aload_n 0, 1) := by decide +kernel
theorem d_Md_open_70 : decode b_Md_open 70 = .ok (.getfield 143, 3) := by decide +kernel
theorem d_Md_open_73 : decode b_Md_open 73 = .ok (.aload_n 0, 1) := by decide +kernel
theorem d_Md_open_74 : decode b_Md_open 74 = .ok (.getfield 140, 3) := by decide +kernel
theorem d_Md_open_77 : decode b_Md_open 77 = .ok (.iastore, 1) := by decide +kernel
theorem d_Md_open_78 : decode b_Md_open 78 = .ok (.aload_n 0, 1) := by decide +kernel
theorem d_Md_open_79 : decode b_Md_open 79 = .ok (.dup, 1) := by decide +kernel
theorem d_Md_open_80 : decode b_Md_open 80 = .ok (.getfield 143, 3) := by decide +kernel
theorem d_Md_open_83 : decode b_Md_open 83 = .ok (.iconst 1, 1) := by decide +kernel
theorem d_Md_open_84 : decode b_Md_open 84 = .ok (.iadd, 1) := by decide +kernel
theorem d_Md_open_85 : decode b_Md_open 85 = .ok (.putfield 143, 3) := by decide +kernel
theorem d_Md_open_88 : decode b_Md_open 88 = .ok (.aload_n 0, 1) := by decide +kernel
theorem d_Md_open_89 : decode b_Md_open 89 = .ok (.iconst 3, 1) := by decide +kernel
theorem d_Md_open_90 : decode b_Md_open 90 = .ok (.iconst (-1), 1) := by decide +kernel
theorem d_Md_open_91 : decode b_Md_open 91 = .ok (.lconst 0, 1) := by decide +kernel
theorem d_Md_open_92 : decode b_Md_open 92 = .ok (.invokevirtual 158, 3) := by decide +kernel
theorem d_Md_open_95 : decode b_Md_open 95 = .ok (.ireturn, 1) := by decide +kernel
theorem hg_Md_open : fx_mw fx_g "FixityTreesModel" y_Md_open b_Md_open 2 (some .int) := ⟨fx_in 1149 (by decide +kernel) (by decide +kernel), fx_in 1150 (by decide +kernel) (by decide +kernel), fx_in 9 (by decide +kernel) (by decide +kernel), fx_in 1151 (by decide +kernel) (by decide +kernel)⟩
abbrev b_Md_begins : ByteArray := prog_10_method_17_code
abbrev y_Md_begins : MethodName := ⟨"FixityTreesModel", "begins", "(I)Z"⟩
theorem d_Md_begins_0 : decode b_Md_begins 0 = .ok (.aload_n 0, 1) := by decide +kernel
theorem d_Md_begins_1 : decode b_Md_begins 1 = .ok (.getfield 19, 3) := by decide +kernel
theorem d_Md_begins_4 : decode b_Md_begins 4 = .ok (.iload_n 1, 1) := by decide +kernel
theorem d_Md_begins_5 : decode b_Md_begins 5 = .ok (.iaload, 1) := by decide +kernel
theorem d_Md_begins_6 : decode b_Md_begins 6 = .ok (.iconst 1, 1) := by decide +kernel
theorem d_Md_begins_7 : decode b_Md_begins 7 = .ok (.if_icmp .ne 23, 3) := by decide +kernel
theorem d_Md_begins_10 : decode b_Md_begins 10 = .ok (.iload_n 1, 1) := by decide +kernel
theorem d_Md_begins_11 : decode b_Md_begins 11 = .ok (.ifCond .le 19, 3) := by decide +kernel
theorem d_Md_begins_14 : decode b_Md_begins 14 = .ok (.aload_n 0, 1) := by decide +kernel
theorem d_Md_begins_15 : decode b_Md_begins 15 = .ok (.getfield 19, 3) := by decide +kernel
theorem d_Md_begins_18 : decode b_Md_begins 18 = .ok (.iload_n 1, 1) := by decide +kernel
theorem d_Md_begins_19 : decode b_Md_begins 19 = .ok (.iconst 1, 1) := by decide +kernel
theorem d_Md_begins_20 : decode b_Md_begins 20 = .ok (.isub, 1) := by decide +kernel
theorem d_Md_begins_21 : decode b_Md_begins 21 = .ok (.iaload, 1) := by decide +kernel
theorem d_Md_begins_22 : decode b_Md_begins 22 = .ok (.iconst 3, 1) := by decide +kernel
theorem d_Md_begins_23 : decode b_Md_begins 23 = .ok (.if_icmp .ne 7, 3) := by decide +kernel
theorem d_Md_begins_26 : decode b_Md_begins 26 = .ok (.iconst 1, 1) := by decide +kernel
theorem d_Md_begins_27 : decode b_Md_begins 27 = .ok (.goto 4, 3) := by decide +kernel
theorem d_Md_begins_30 : decode b_Md_begins 30 = .ok (.iconst 0, 1) := by decide +kernel
theorem d_Md_begins_31 : decode b_Md_begins 31 = .ok (.ireturn, 1) := by decide +kernel
theorem hg_Md_begins : fx_mw fx_g "FixityTreesModel" y_Md_begins b_Md_begins 2 (some .boolean) := ⟨fx_in 1158 (by decide +kernel) (by decide +kernel), fx_inp 50 (by decide +kernel) (by decide +kernel), fx_in 9 (by decide +kernel) (by decide +kernel), fx_in 1159 (by decide +kernel) (by decide +kernel)⟩
abbrev b_Md_close : ByteArray := prog_10_method_22_code
abbrev y_Md_close : MethodName := ⟨"FixityTreesModel", "close", "()I"⟩
theorem d_Md_close_0 : decode b_Md_close 0 = .ok (.aload_n 0, 1) := by decide +kernel
theorem d_Md_close_1 : decode b_Md_close 1 = .ok (.getfield 140, 3) := by decide +kernel
theorem d_Md_close_4 : decode b_Md_close 4 = .ok (.sipush 200, 3) := by decide +kernel
theorem d_Md_close_7 : decode b_Md_close 7 = .ok (.if_icmp .ge 14, 3) := by decide +kernel
theorem d_Md_close_10 : decode b_Md_close 10 = .ok (.aload_n 0, 1) := by decide +kernel
theorem d_Md_close_11 : decode b_Md_close 11 = .ok (.getfield 143, 3) := by decide +kernel
theorem d_Md_close_14 : decode b_Md_close 14 = .ok (.ifCond .le 7, 3) := by decide +kernel
theorem d_Md_close_17 : decode b_Md_close 17 = .ok (.iconst 1, 1) := by decide +kernel
theorem d_Md_close_18 : decode b_Md_close 18 = .ok (.goto 4, 3) := by decide +kernel
theorem d_Md_close_21 : decode b_Md_close 21 = .ok (.iconst 0, 1) := by decide +kernel
theorem d_Md_close_22 : decode b_Md_close 22 = .ok (.istore_n 1, 1) := by decide +kernel
theorem d_Md_close_23 : decode b_Md_close 23 = .ok (.iload_n 1, 1) := by decide +kernel
theorem d_Md_close_24 : decode b_Md_close 24 = .ok (.ifCond .eq 53, 3) := by decide +kernel
theorem d_Md_close_27 : decode b_Md_close 27 = .ok (.aload_n 0, 1) := by decide +kernel
theorem d_Md_close_28 : decode b_Md_close 28 = .ok (.invokevirtual 154, 3) := by decide +kernel
theorem d_Md_close_31 : decode b_Md_close 31 = .ok (.ifCond .eq 46, 3) := by decide +kernel
theorem d_Md_close_34 : decode b_Md_close 34 = .ok (.aload_n 0, 1) := by decide +kernel
theorem d_Md_close_35 : decode b_Md_close 35 = .ok (.getfield 29, 3) := by decide +kernel
theorem d_Md_close_38 : decode b_Md_close 38 = .ok (.aload_n 0, 1) := by decide +kernel
theorem d_Md_close_39 : decode b_Md_close 39 = .ok (.getfield 143, 3) := by decide +kernel
theorem d_Md_close_42 : decode b_Md_close 42 = .ok (.iconst 1, 1) := by decide +kernel
theorem d_Md_close_43 : decode b_Md_close 43 = .ok (.isub, 1) := by decide +kernel
theorem d_Md_close_44 : decode b_Md_close 44 = .ok (.iaload, 1) := by decide +kernel
theorem d_Md_close_45 : decode b_Md_close 45 = .ok (.iconst 1, 1) := by decide +kernel
theorem d_Md_close_46 : decode b_Md_close 46 = .ok (.iadd, 1) := by decide +kernel
theorem d_Md_close_47 : decode b_Md_close 47 = .ok (.istore_n 2, 1) := by decide +kernel
theorem d_Md_close_48 : decode b_Md_close 48 = .ok (.aload_n 0, 1) := by decide +kernel
theorem d_Md_close_49 : decode b_Md_close 49 = .ok (.getfield 146, 3) := by decide +kernel
theorem d_Md_close_52 : decode b_Md_close 52 = .ok (.ifCond .ne 23, 3) := by decide +kernel
theorem d_Md_close_55 : decode b_Md_close 55 = .ok (.aload_n 0, 1) := by decide +kernel
theorem d_Md_close_56 : decode b_Md_close 56 = .ok (.invokevirtual 150, 3) := by decide +kernel
theorem d_Md_close_59 : decode b_Md_close 59 = .ok (.iconst 1, 1) := by decide +kernel
theorem d_Md_close_60 : decode b_Md_close 60 = .ok (.if_icmp .ne 15, 3) := by decide +kernel
theorem d_Md_close_63 : decode b_Md_close 63 = .ok (.aload_n 0, 1) := by decide +kernel
theorem d_Md_close_64 : decode b_Md_close 64 = .ok (.iload_n 2, 1) := by decide +kernel
theorem d_Md_close_65 : decode b_Md_close 65 = .ok (.invokevirtual 162, 3) := by decide +kernel
theorem d_Md_close_68 : decode b_Md_close 68 = .ok (.ifCond .ne 7, 3) := by decide +kernel
theorem d_Md_close_71 : decode b_Md_close 71 = .ok (.iconst 1, 1) := by decide +kernel
theorem d_Md_close_72 : decode b_Md_close 72 = .ok (.goto 4, 3) := by decide +kernel
theorem d_Md_close_75 : decode b_Md_close 75 = .ok (.iconst 0, 1) := by decide +kernel
theorem d_Md_close_76 : decode b_Md_close 76 = .ok (.istore_n 1, 1) := by decide +kernel
theorem d_Md_close_77 : decode b_Md_close 77 = .ok (.aload_n 0, 1) := by decide +kernel
theorem d_Md_close_78 : decode b_Md_close 78 = .ok (.iload_n 1, 1) := by decide +kernel
theorem d_Md_close_79 : decode b_Md_close 79 = .ok (.ifCond .eq 7, 3) := by decide +kernel
theorem d_Md_close_82 : decode b_Md_close 82 = .ok (.iconst 0, 1) := by decide +kernel
theorem d_Md_close_83 : decode b_Md_close 83 = .ok (.goto 4, 3) := by decide +kernel
theorem d_Md_close_86 : decode b_Md_close 86 = .ok (.iconst 1, 1) := by decide +kernel
theorem d_Md_close_87 : decode b_Md_close 87 = .ok (.invokevirtual 124, 3) := by decide +kernel
theorem d_Md_close_90 : decode b_Md_close 90 = .ok (.ifCond .ne 5, 3) := by decide +kernel
theorem d_Md_close_93 : decode b_Md_close 93 = .ok (.iconst 0, 1) := by decide +kernel
theorem d_Md_close_94 : decode b_Md_close 94 = .ok (.ireturn, 1) := by decide +kernel
theorem d_Md_close_95 : decode b_Md_close 95 = .ok (.aload_n 0, 1) := by decide +kernel
theorem d_Md_close_96 : decode b_Md_close 96 = .ok (.dup, 1) := by decide +kernel
theorem d_Md_close_97 : decode b_Md_close 97 = .ok (.getfield 143, 3) := by decide +kernel
theorem d_Md_close_100 : decode b_Md_close 100 = .ok (.iconst 1, 1) := by decide +kernel
theorem d_Md_close_101 : decode b_Md_close 101 = .ok (.isub, 1) := by decide +kernel
theorem d_Md_close_102 : decode b_Md_close 102 = .ok (.putfield 143, 3) := by decide +kernel
theorem d_Md_close_105 : decode b_Md_close 105 = .ok (.aload_n 0, 1) := by decide +kernel
theorem d_Md_close_106 : decode b_Md_close 106 = .ok (.iconst 4, 1) := by decide +kernel
theorem d_Md_close_107 : decode b_Md_close 107 = .ok (.iconst (-1), 1) := by decide +kernel
theorem d_Md_close_108 : decode b_Md_close 108 = .ok (.lconst 0, 1) := by decide +kernel
theorem d_Md_close_109 : decode b_Md_close 109 = .ok (.invokevirtual 158, 3) := by decide +kernel
theorem d_Md_close_112 : decode b_Md_close 112 = .ok (.ireturn, 1) := by decide +kernel
theorem hg_Md_close : fx_mw fx_g "FixityTreesModel" y_Md_close b_Md_close 3 (some .int) := ⟨fx_in 1153 (by decide +kernel) (by decide +kernel), fx_in 1154 (by decide +kernel) (by decide +kernel), fx_in 9 (by decide +kernel) (by decide +kernel), fx_in 1155 (by decide +kernel) (by decide +kernel)⟩
abbrev b_Md_whyNot : ByteArray := prog_10_method_35_code
abbrev y_Md_whyNot : MethodName := ⟨"FixityTreesModel", "whyNot", "(I)I"⟩
theorem d_Md_whyNot_0 : decode b_Md_whyNot 0 = .ok (.aload_n 0, 1) := by decide +kernel
theorem d_Md_whyNot_1 : decode b_Md_whyNot 1 = .ok (.iload_n 1, 1) := by decide +kernel
theorem d_Md_whyNot_2 : decode b_Md_whyNot 2 = .ok (.invokevirtual 120, 3) := by decide +kernel
theorem d_Md_whyNot_5 : decode b_Md_whyNot 5 = .ok (.ifCond .ne 7, 3) := by decide +kernel
theorem d_Md_whyNot_8 : decode b_Md_whyNot 8 = .ok (.iconst 1, 1) := by decide +kernel
theorem d_Md_whyNot_9 : decode b_Md_whyNot 9 = .ok (.goto 22, 3) := by decide +kernel
theorem d_Md_whyNot_12 : decode b_Md_whyNot 12 = .ok (.aload_n 0, 1) := by decide +kernel
theorem d_Md_whyNot_13 : decode b_Md_whyNot 13 = .ok (.invokevirtual 154, 3) := by decide +kernel
theorem d_Md_whyNot_16 : decode b_Md_whyNot 16 = .ok (.ifCond .ne 10, 3) := by decide +kernel
theorem d_Md_whyNot_19 : decode b_Md_whyNot 19 = .ok (.aload_n 0, 1) := by decide +kernel
theorem d_Md_whyNot_20 : decode b_Md_whyNot 20 = .ok (.getfield 143, 3) := by decide +kernel
theorem d_Md_whyNot_23 : decode b_Md_whyNot 23 = .ok (.ifCond .le 7, 3) := by decide +kernel
theorem d_Md_whyNot_26 : decode b_Md_whyNot 26 = .ok (.iconst 2, 1) := by decide +kernel
theorem d_Md_whyNot_27 : decode b_Md_whyNot 27 = .ok (.goto 4, 3) := by decide +kernel
theorem d_Md_whyNot_30 : decode b_Md_whyNot 30 = .ok (.iconst 0, 1) := by decide +kernel
theorem d_Md_whyNot_31 : decode b_Md_whyNot 31 = .ok (.ireturn, 1) := by decide +kernel
theorem hg_Md_whyNot : fx_mw fx_g "FixityTreesModel" y_Md_whyNot b_Md_whyNot 2 (some .int) := ⟨fx_in 1166 (by decide +kernel) (by decide +kernel), fx_inp 51 (by decide +kernel) (by decide +kernel), fx_in 9 (by decide +kernel) (by decide +kernel), fx_in 1167 (by decide +kernel) (by decide +kernel)⟩
abbrev b_Md_learn : ByteArray := prog_10_method_23_code
abbrev y_Md_learn : MethodName := ⟨"FixityTreesModel", "learn", "()V"⟩
theorem d_Md_learn_0 : decode b_Md_learn 0 = .ok (.iconst 0, 1) := by decide +kernel
theorem d_Md_learn_1 : decode b_Md_learn 1 = .ok (.istore_n 1, 1) := by decide +kernel
theorem d_Md_learn_2 : decode b_Md_learn 2 = .ok (.iconst 0, 1) := by decide +kernel
theorem d_Md_learn_3 : decode b_Md_learn 3 = .ok (.istore_n 2, 1) := by decide +kernel
theorem d_Md_learn_4 : decode b_Md_learn 4 = .ok (.iload_n 2, 1) := by decide +kernel
theorem d_Md_learn_5 : decode b_Md_learn 5 = .ok (.aload_n 0, 1) := by decide +kernel
theorem d_Md_learn_6 : decode b_Md_learn 6 = .ok (.getfield 140, 3) := by decide +kernel
theorem d_Md_learn_9 : decode b_Md_learn 9 = .ok (.if_icmp .ge 88, 3) := by decide +kernel
theorem d_Md_learn_12 : decode b_Md_learn 12 = .ok (.aload_n 0, 1) := by decide +kernel
theorem d_Md_learn_13 : decode b_Md_learn 13 = .ok (.getfield 19, 3) := by decide +kernel
theorem d_Md_learn_16 : decode b_Md_learn 16 = .ok (.iload_n 2, 1) := by decide +kernel
theorem d_Md_learn_17 : decode b_Md_learn 17 = .ok (.iaload, 1) := by decide +kernel
theorem d_Md_learn_18 : decode b_Md_learn 18 = .ok (.iconst 4, 1) := by decide +kernel
theorem d_Md_learn_19 : decode b_Md_learn 19 = .ok (.if_icmp .ne 30, 3) := by decide +kernel
theorem d_Md_learn_22 : decode b_Md_learn 22 = .ok (.iinc 1 (-1), 3) := by decide +kernel
theorem d_Md_learn_25 : decode b_Md_learn 25 = .ok (.aload_n 0, 1) := by decide +kernel
theorem d_Md_learn_26 : decode b_Md_learn 26 = .ok (.getfield 66, 3) := by decide +kernel
theorem d_Md_learn_29 : decode b_Md_learn 29 = .ok (.aload_n 0, 1) := by decide +kernel
theorem d_Md_learn_30 : decode b_Md_learn 30 = .ok (.getfield 73, 3) := by decide +kernel
theorem d_Md_learn_33 : decode b_Md_learn 33 = .ok (.iload_n 1, 1) := by decide +kernel
theorem d_Md_learn_34 : decode b_Md_learn 34 = .ok (.iaload, 1) := by decide +kernel
theorem d_Md_learn_35 : decode b_Md_learn 35 = .ok (.iload_n 2, 1) := by decide +kernel
theorem d_Md_learn_36 : decode b_Md_learn 36 = .ok (.iastore, 1) := by decide +kernel
theorem d_Md_learn_37 : decode b_Md_learn 37 = .ok (.aload_n 0, 1) := by decide +kernel
theorem d_Md_learn_38 : decode b_Md_learn 38 = .ok (.getfield 66, 3) := by decide +kernel
theorem d_Md_learn_41 : decode b_Md_learn 41 = .ok (.iload_n 2, 1) := by decide +kernel
theorem d_Md_learn_42 : decode b_Md_learn 42 = .ok (.aload_n 0, 1) := by decide +kernel
theorem d_Md_learn_43 : decode b_Md_learn 43 = .ok (.getfield 73, 3) := by decide +kernel
theorem d_Md_learn_46 : decode b_Md_learn 46 = .ok (.iload_n 1, 1) := by decide +kernel
theorem d_Md_learn_47 : decode b_Md_learn 47 = .ok (.iaload, 1) := by decide +kernel
theorem d_Md_learn_48 : decode b_Md_learn 48 = .ok (.iastore, 1) := by decide +kernel
theorem d_Md_learn_49 : decode b_Md_learn 49 = .ok (.aload_n 0, 1) := by decide +kernel
theorem d_Md_learn_50 : decode b_Md_learn 50 = .ok (.getfield 63, 3) := by decide +kernel
theorem d_Md_learn_53 : decode b_Md_learn 53 = .ok (.iload_n 2, 1) := by decide +kernel
theorem d_Md_learn_54 : decode b_Md_learn 54 = .ok (.iload_n 1, 1) := by decide +kernel
theorem d_Md_learn_55 : decode b_Md_learn 55 = .ok (.ifCond .ne 7, 3) := by decide +kernel
theorem d_Md_learn_58 : decode b_Md_learn 58 = .ok (.iconst (-1), 1) := by decide +kernel
theorem d_Md_learn_59 : decode b_Md_learn 59 = .ok (.goto 11, 3) := by decide +kernel
theorem d_Md_learn_62 : decode b_Md_learn 62 = .ok (.aload_n 0, 1) := by decide +kernel
theorem d_Md_learn_63 : decode b_Md_learn 63 = .ok (.getfield 73, 3) := by decide +kernel
theorem d_Md_learn_66 : decode b_Md_learn 66 = .ok (.iload_n 1, 1) := by decide +kernel
theorem d_Md_learn_67 : decode b_Md_learn 67 = .ok (.iconst 1, 1) := by decide +kernel
theorem d_Md_learn_68 : decode b_Md_learn 68 = .ok (.isub, 1) := by decide +kernel
theorem d_Md_learn_69 : decode b_Md_learn 69 = .ok (.iaload, 1) := by decide +kernel
theorem d_Md_learn_70 : decode b_Md_learn 70 = .ok (.iastore, 1) := by decide +kernel
theorem d_Md_learn_71 : decode b_Md_learn 71 = .ok (.aload_n 0, 1) := by decide +kernel
theorem d_Md_learn_72 : decode b_Md_learn 72 = .ok (.getfield 19, 3) := by decide +kernel
theorem d_Md_learn_75 : decode b_Md_learn 75 = .ok (.iload_n 2, 1) := by decide +kernel
theorem d_Md_learn_76 : decode b_Md_learn 76 = .ok (.iaload, 1) := by decide +kernel
theorem d_Md_learn_77 : decode b_Md_learn 77 = .ok (.iconst 3, 1) := by decide +kernel
theorem d_Md_learn_78 : decode b_Md_learn 78 = .ok (.if_icmp .ne 13, 3) := by decide +kernel
theorem d_Md_learn_81 : decode b_Md_learn 81 = .ok (.aload_n 0, 1) := by decide +kernel
theorem d_Md_learn_82 : decode b_Md_learn 82 = .ok (.getfield 73, 3) := by decide +kernel
theorem d_Md_learn_85 : decode b_Md_learn 85 = .ok (.iload_n 1, 1) := by decide +kernel
theorem d_Md_learn_86 : decode b_Md_learn 86 = .ok (.iload_n 2, 1) := by decide +kernel
theorem d_Md_learn_87 : decode b_Md_learn 87 = .ok (.iastore, 1) := by decide +kernel
theorem d_Md_learn_88 : decode b_Md_learn 88 = .ok (.iinc 1 1, 3) := by decide +kernel
theorem d_Md_learn_91 : decode b_Md_learn 91 = .ok (.iinc 2 1, 3) := by decide +kernel
theorem d_Md_learn_94 : decode b_Md_learn 94 = .ok (.goto (-90), 3) := by decide +kernel
theorem d_Md_learn_97 : decode b_Md_learn 97 = .ok (.return_, 1) := by decide +kernel
theorem hg_Md_learn : fx_mw fx_g "FixityTreesModel" y_Md_learn b_Md_learn 3 none := ⟨fx_in 1174 (by decide +kernel) (by decide +kernel), fx_inp 53 (by decide +kernel) (by decide +kernel), fx_in 9 (by decide +kernel) (by decide +kernel), fx_in 1175 (by decide +kernel) (by decide +kernel)⟩
abbrev b_Md_newest : ByteArray := prog_10_method_24_code
abbrev y_Md_newest : MethodName := ⟨"FixityTreesModel", "newest", "(II)I"⟩
theorem d_Md_newest_0 : decode b_Md_newest 0 = .ok (.iload_n 2, 1) := by decide +kernel
theorem d_Md_newest_1 : decode b_Md_newest 1 = .ok (.iconst 1, 1) := by decide +kernel
theorem d_Md_newest_2 : decode b_Md_newest 2 = .ok (.isub, 1) := by decide +kernel
theorem d_Md_newest_3 : decode b_Md_newest 3 = .ok (.istore_n 3, 1) := by decide +kernel
theorem d_Md_newest_4 : decode b_Md_newest 4 = .ok (.iload_n 3, 1) := by decide +kernel
theorem d_Md_newest_5 : decode b_Md_newest 5 = .ok (.ifCond .lt 28, 3) := by decide +kernel
theorem d_Md_newest_8 : decode b_Md_newest 8 = .ok (.aload_n 0, 1) := by decide +kernel
theorem d_Md_newest_9 : decode b_Md_newest 9 = .ok (.getfield 69, 3) := by decide +kernel
theorem d_Md_newest_12 : decode b_Md_newest 12 = .ok (.iload_n 3, 1) := by decide +kernel
theorem d_Md_newest_13 : decode b_Md_newest 13 = .ok (.baload, 1) := by decide +kernel
theorem d_Md_newest_14 : decode b_Md_newest 14 = .ok (.ifCond .eq 13, 3) := by decide +kernel
theorem d_Md_newest_17 : decode b_Md_newest 17 = .ok (.aload_n 0, 1) := by decide +kernel
theorem d_Md_newest_18 : decode b_Md_newest 18 = .ok (.getfield 63, 3) := by decide +kernel
theorem d_Md_newest_21 : decode b_Md_newest 21 = .ok (.iload_n 3, 1) := by decide +kernel
theorem d_Md_newest_22 : decode b_Md_newest 22 = .ok (.iaload, 1) := by decide +kernel
theorem d_Md_newest_23 : decode b_Md_newest 23 = .ok (.iload_n 1, 1) := by decide +kernel
theorem d_Md_newest_24 : decode b_Md_newest 24 = .ok (.if_icmp .eq 9, 3) := by decide +kernel
theorem d_Md_newest_27 : decode b_Md_newest 27 = .ok (.iinc 3 (-1), 3) := by decide +kernel
theorem d_Md_newest_30 : decode b_Md_newest 30 = .ok (.goto (-26), 3) := by decide +kernel
theorem d_Md_newest_33 : decode b_Md_newest 33 = .ok (.iload_n 3, 1) := by decide +kernel
theorem d_Md_newest_34 : decode b_Md_newest 34 = .ok (.ireturn, 1) := by decide +kernel
theorem hg_Md_newest : fx_mw fx_g "FixityTreesModel" y_Md_newest b_Md_newest 4 (some .int) := ⟨fx_in 1182 (by decide +kernel) (by decide +kernel), fx_inp 55 (by decide +kernel) (by decide +kernel), fx_in 9 (by decide +kernel) (by decide +kernel), fx_in 1183 (by decide +kernel) (by decide +kernel)⟩
abbrev b_Md_clashes : ByteArray := prog_10_method_25_code
abbrev y_Md_clashes : MethodName := ⟨"FixityTreesModel", "clashes", "(III)V"⟩
theorem d_Md_clashes_0 : decode b_Md_clashes 0 = .ok (.aload_n 0, 1) := by decide +kernel
theorem d_Md_clashes_1 : decode b_Md_clashes 1 = .ok (.iload_n 1, 1) := by decide +kernel
theorem d_Md_clashes_2 : decode b_Md_clashes 2 = .ok (.putfield 165, 3) := by decide +kernel
theorem d_Md_clashes_5 : decode b_Md_clashes 5 = .ok (.aload_n 0, 1) := by decide +kernel
theorem d_Md_clashes_6 : decode b_Md_clashes 6 = .ok (.iload_n 2, 1) := by decide +kernel
theorem d_Md_clashes_7 : decode b_Md_clashes 7 = .ok (.putfield 168, 3) := by decide +kernel
theorem d_Md_clashes_10 : decode b_Md_clashes 10 = .ok (.aload_n 0, 1) := by decide +kernel
theorem d_Md_clashes_11 : decode b_Md_clashes 11 = .ok (.iload_n 3, 1) := by decide +kernel
theorem d_Md_clashes_12 : decode b_Md_clashes 12 = .ok (.putfield 171, 3) := by decide +kernel
theorem d_Md_clashes_15 : decode b_Md_clashes 15 = .ok (.return_, 1) := by decide +kernel
theorem hg_Md_clashes : fx_mw fx_g "FixityTreesModel" y_Md_clashes b_Md_clashes 4 none := ⟨fx_in 1186 (by decide +kernel) (by decide +kernel), fx_inp 56 (by decide +kernel) (by decide +kernel), fx_in 9 (by decide +kernel) (by decide +kernel), fx_in 1187 (by decide +kernel) (by decide +kernel)⟩
abbrev b_Md_closes : ByteArray := prog_10_method_29_code
abbrev y_Md_closes : MethodName := ⟨"FixityTreesModel", "closes", "(I)V"⟩
theorem d_Md_closes_0 : decode b_Md_closes 0 = .ok (.aload_n 0, 1) := by decide +kernel
theorem d_Md_closes_1 : decode b_Md_closes 1 = .ok (.getfield 66, 3) := by decide +kernel
theorem d_Md_closes_4 : decode b_Md_closes 4 = .ok (.iload_n 1, 1) := by decide +kernel
theorem d_Md_closes_5 : decode b_Md_closes 5 = .ok (.iaload, 1) := by decide +kernel
theorem d_Md_closes_6 : decode b_Md_closes 6 = .ok (.istore_n 2, 1) := by decide +kernel
theorem d_Md_closes_7 : decode b_Md_closes 7 = .ok (.aload_n 0, 1) := by decide +kernel
theorem d_Md_closes_8 : decode b_Md_closes 8 = .ok (.getfield 19, 3) := by decide +kernel
theorem d_Md_closes_11 : decode b_Md_closes 11 = .ok (.iload_n 1, 1) := by decide +kernel
theorem d_Md_closes_12 : decode b_Md_closes 12 = .ok (.iconst 1, 1) := by decide +kernel
theorem d_Md_closes_13 : decode b_Md_closes 13 = .ok (.isub, 1) := by decide +kernel
theorem d_Md_closes_14 : decode b_Md_closes 14 = .ok (.iaload, 1) := by decide +kernel
theorem d_Md_closes_15 : decode b_Md_closes 15 = .ok (.iconst 1, 1) := by decide +kernel
theorem d_Md_closes_16 : decode b_Md_closes 16 = .ok (.if_icmp .ne 27, 3) := by decide +kernel
theorem d_Md_closes_19 : decode b_Md_closes 19 = .ok (.aload_n 0, 1) := by decide +kernel
theorem d_Md_closes_20 : decode b_Md_closes 20 = .ok (.iload_n 2, 1) := by decide +kernel
theorem d_Md_closes_21 : decode b_Md_closes 21 = .ok (.iload_n 1, 1) := by decide +kernel
theorem d_Md_closes_22 : decode b_Md_closes 22 = .ok (.iconst 1, 1) := by decide +kernel
theorem d_Md_closes_23 : decode b_Md_closes 23 = .ok (.isub, 1) := by decide +kernel
theorem d_Md_closes_24 : decode b_Md_closes 24 = .ok (.invokevirtual 190, 3) := by decide +kernel
theorem d_Md_closes_27 : decode b_Md_closes 27 = .ok (.istore_n 3, 1) := by decide +kernel
theorem d_Md_closes_28 : decode b_Md_closes 28 = .ok (.iload_n 3, 1) := by decide +kernel
theorem d_Md_closes_29 : decode b_Md_closes 29 = .ok (.iconst (-1), 1) := by decide +kernel
theorem d_Md_closes_30 : decode b_Md_closes 30 = .ok (.if_icmp .eq 13, 3) := by decide +kernel
theorem d_Md_closes_33 : decode b_Md_closes 33 = .ok (.aload_n 0, 1) := by decide +kernel
theorem d_Md_closes_34 : decode b_Md_closes 34 = .ok (.iconst 3, 1) := by decide +kernel
theorem d_Md_closes_35 : decode b_Md_closes 35 = .ok (.iload_n 3, 1) := by decide +kernel
theorem d_Md_closes_36 : decode b_Md_closes 36 = .ok (.iload_n 1, 1) := by decide +kernel
theorem d_Md_closes_37 : decode b_Md_closes 37 = .ok (.iconst 1, 1) := by decide +kernel
theorem d_Md_closes_38 : decode b_Md_closes 38 = .ok (.isub, 1) := by decide +kernel
theorem d_Md_closes_39 : decode b_Md_closes 39 = .ok (.invokevirtual 193, 3) := by decide +kernel
theorem d_Md_closes_42 : decode b_Md_closes 42 = .ok (.return_, 1) := by decide +kernel
theorem d_Md_closes_43 : decode b_Md_closes 43 = .ok (.iload_n 2, 1) := by decide +kernel
theorem d_Md_closes_44 : decode b_Md_closes 44 = .ok (.iconst 1, 1) := by decide +kernel
theorem d_Md_closes_45 : decode b_Md_closes 45 = .ok (.iadd, 1) := by decide +kernel
theorem d_Md_closes_46 : decode b_Md_closes 46 = .ok (.istore_n 3, 1) := by decide +kernel
theorem d_Md_closes_47 : decode b_Md_closes 47 = .ok (.iload_n 3, 1) := by decide +kernel
theorem d_Md_closes_48 : decode b_Md_closes 48 = .ok (.iload_n 1, 1) := by decide +kernel
theorem d_Md_closes_49 : decode b_Md_closes 49 = .ok (.if_icmp .ge 39, 3) := by decide +kernel
theorem d_Md_closes_52 : decode b_Md_closes 52 = .ok (.aload_n 0, 1) := by decide +kernel
theorem d_Md_closes_53 : decode b_Md_closes 53 = .ok (.getfield 69, 3) := by decide +kernel
theorem d_Md_closes_56 : decode b_Md_closes 56 = .ok (.iload_n 3, 1) := by decide +kernel
theorem d_Md_closes_57 : decode b_Md_closes 57 = .ok (.aload_n 0, 1) := by decide +kernel
theorem d_Md_closes_58 : decode b_Md_closes 58 = .ok (.getfield 69, 3) := by decide +kernel
theorem d_Md_closes_61 : decode b_Md_closes 61 = .ok (.iload_n 3, 1) := by decide +kernel
theorem d_Md_closes_62 : decode b_Md_closes 62 = .ok (.baload, 1) := by decide +kernel
theorem d_Md_closes_63 : decode b_Md_closes 63 = .ok (.ifCond .eq 17, 3) := by decide +kernel
theorem d_Md_closes_66 : decode b_Md_closes 66 = .ok (.aload_n 0, 1) := by decide +kernel
theorem d_Md_closes_67 : decode b_Md_closes 67 = .ok (.getfield 63, 3) := by decide +kernel
theorem d_Md_closes_70 : decode b_Md_closes 70 = .ok (.iload_n 3, 1) := by decide +kernel
theorem d_Md_closes_71 : decode b_Md_closes 71 = .ok (.iaload, 1) := by decide +kernel
theorem d_Md_closes_72 : decode b_Md_closes 72 = .ok (.iload_n 2, 1) := by decide +kernel
theorem d_Md_closes_73 : decode b_Md_closes 73 = .ok (.if_icmp .eq 7, 3) := by decide +kernel
theorem d_Md_closes_76 : decode b_Md_closes 76 = .ok (.iconst 1, 1) := by decide +kernel
theorem d_Md_closes_77 : decode b_Md_closes 77 = .ok (.goto 4, 3) := by decide +kernel
theorem d_Md_closes_80 : decode b_Md_closes 80 = .ok (.iconst 0, 1) := by decide +kernel
theorem d_Md_closes_81 : decode b_Md_closes 81 = .ok (.bastore, 1) := by decide +kernel
theorem d_Md_closes_82 : decode b_Md_closes 82 = .ok (.iinc 3 1, 3) := by decide +kernel
theorem d_Md_closes_85 : decode b_Md_closes 85 = .ok (.goto (-38), 3) := by decide +kernel
theorem d_Md_closes_88 : decode b_Md_closes 88 = .ok (.return_, 1) := by decide +kernel
theorem hg_Md_closes : fx_mw fx_g "FixityTreesModel" y_Md_closes b_Md_closes 4 none := ⟨fx_in 1194 (by decide +kernel) (by decide +kernel), fx_inp 58 (by decide +kernel) (by decide +kernel), fx_in 9 (by decide +kernel) (by decide +kernel), fx_in 1195 (by decide +kernel) (by decide +kernel)⟩
abbrev b_Md_comes : ByteArray := prog_10_method_28_code
abbrev y_Md_comes : MethodName := ⟨"FixityTreesModel", "comes", "(II)V"⟩
theorem d_Md_comes_0 : decode b_Md_comes 0 = .ok (.aload_n 0, 1) := by decide +kernel
theorem d_Md_comes_1 : decode b_Md_comes 1 = .ok (.iload_n 1, 1) := by decide +kernel
theorem d_Md_comes_2 : decode b_Md_comes 2 = .ok (.aload_n 0, 1) := by decide +kernel
theorem d_Md_comes_3 : decode b_Md_comes 3 = .ok (.getfield 22, 3) := by decide +kernel
theorem d_Md_comes_6 : decode b_Md_comes 6 = .ok (.iload_n 2, 1) := by decide +kernel
theorem d_Md_comes_7 : decode b_Md_comes 7 = .ok (.iaload, 1) := by decide +kernel
theorem d_Md_comes_8 : decode b_Md_comes 8 = .ok (.invokevirtual 137, 3) := by decide +kernel
theorem d_Md_comes_11 : decode b_Md_comes 11 = .ok (.istore_n 3, 1) := by decide +kernel
theorem d_Md_comes_12 : decode b_Md_comes 12 = .ok (.aload_n 0, 1) := by decide +kernel
theorem d_Md_comes_13 : decode b_Md_comes 13 = .ok (.iload_n 1, 1) := by decide +kernel
theorem d_Md_comes_14 : decode b_Md_comes 14 = .ok (.aload_n 0, 1) := by decide +kernel
theorem d_Md_comes_15 : decode b_Md_comes 15 = .ok (.getfield 22, 3) := by decide +kernel
theorem d_Md_comes_18 : decode b_Md_comes 18 = .ok (.iload_n 2, 1) := by decide +kernel
theorem d_Md_comes_19 : decode b_Md_comes 19 = .ok (.iaload, 1) := by decide +kernel
theorem d_Md_comes_20 : decode b_Md_comes 20 = .ok (.invokevirtual 134, 3) := by decide +kernel
theorem d_Md_comes_23 : decode b_Md_comes 23 = .ok (.istore 4, 2) := by decide +kernel
theorem d_Md_comes_25 : decode b_Md_comes 25 = .ok (.aload_n 0, 1) := by decide +kernel
theorem d_Md_comes_26 : decode b_Md_comes 26 = .ok (.aload_n 0, 1) := by decide +kernel
theorem d_Md_comes_27 : decode b_Md_comes 27 = .ok (.getfield 63, 3) := by decide +kernel
theorem d_Md_comes_30 : decode b_Md_comes 30 = .ok (.iload_n 2, 1) := by decide +kernel
theorem d_Md_comes_31 : decode b_Md_comes 31 = .ok (.iaload, 1) := by decide +kernel
theorem d_Md_comes_32 : decode b_Md_comes 32 = .ok (.iload_n 2, 1) := by decide +kernel
theorem d_Md_comes_33 : decode b_Md_comes 33 = .ok (.invokevirtual 190, 3) := by decide +kernel
theorem d_Md_comes_36 : decode b_Md_comes 36 = .ok (.istore 5, 2) := by decide +kernel
theorem d_Md_comes_38 : decode b_Md_comes 38 = .ok (.iload 5, 2) := by decide +kernel
theorem d_Md_comes_40 : decode b_Md_comes 40 = .ok (.iconst (-1), 1) := by decide +kernel
theorem d_Md_comes_41 : decode b_Md_comes 41 = .ok (.if_icmp .eq 7, 3) := by decide +kernel
theorem d_Md_comes_44 : decode b_Md_comes 44 = .ok (.iconst 1, 1) := by decide +kernel
theorem d_Md_comes_45 : decode b_Md_comes 45 = .ok (.goto 4, 3) := by decide +kernel
theorem d_Md_comes_48 : decode b_Md_comes 48 = .ok (.iconst 0, 1) := by decide +kernel
theorem d_Md_comes_49 : decode b_Md_comes 49 = .ok (.istore 6, 2) := by decide +kernel
theorem d_Md_comes_51 : decode b_Md_comes 51 = .ok (.iload 6, 2) := by decide +kernel
theorem d_Md_comes_53 : decode b_Md_comes 53 = .ok (.ifCond .eq 164, 3) := by decide +kernel
theorem d_Md_comes_56 : decode b_Md_comes 56 = .ok (.aload_n 0, 1) := by decide +kernel
theorem d_Md_comes_57 : decode b_Md_comes 57 = .ok (.iload_n 1, 1) := by decide +kernel
theorem d_Md_comes_58 : decode b_Md_comes 58 = .ok (.aload_n 0, 1) := by decide +kernel
theorem d_Md_comes_59 : decode b_Md_comes 59 = .ok (.getfield 22, 3) := by decide +kernel
theorem d_Md_comes_62 : decode b_Md_comes 62 = .ok (.iload 5, 2) := by decide +kernel
theorem d_Md_comes_64 : decode b_Md_comes 64 = .ok (.iaload, 1) := by decide +kernel
theorem d_Md_comes_65 : decode b_Md_comes 65 = .ok (.invokevirtual 137, 3) := by decide +kernel
theorem d_Md_comes_68 : decode b_Md_comes 68 = .ok (.istore 7, 2) := by decide +kernel
theorem d_Md_comes_70 : decode b_Md_comes 70 = .ok (.aload_n 0, 1) := by decide +kernel
theorem d_Md_comes_71 : decode b_Md_comes 71 = .ok (.iload_n 1, 1) := by decide +kernel
theorem d_Md_comes_72 : decode b_Md_comes 72 = .ok (.aload_n 0, 1) := by decide +kernel
theorem d_Md_comes_73 : decode b_Md_comes 73 = .ok (.getfield 22, 3) := by decide +kernel
theorem d_Md_comes_76 : decode b_Md_comes 76 = .ok (.iload 5, 2) := by decide +kernel
theorem d_Md_comes_78 : decode b_Md_comes 78 = .ok (.iaload, 1) := by decide +kernel
theorem d_Md_comes_79 : decode b_Md_comes 79 = .ok (.invokevirtual 134, 3) := by decide +kernel
theorem d_Md_comes_82 : decode b_Md_comes 82 = .ok (.istore 8, 2) := by decide +kernel
theorem d_Md_comes_84 : decode b_Md_comes 84 = .ok (.iload 7, 2) := by decide +kernel
theorem d_Md_comes_86 : decode b_Md_comes 86 = .ok (.iload_n 3, 1) := by decide +kernel
theorem d_Md_comes_87 : decode b_Md_comes 87 = .ok (.if_icmp .ne 25, 3) := by decide +kernel
theorem d_Md_comes_90 : decode b_Md_comes 90 = .ok (.iload 8, 2) := by decide +kernel
theorem d_Md_comes_92 : decode b_Md_comes 92 = .ok (.iload 4, 2) := by decide +kernel
theorem d_Md_comes_94 : decode b_Md_comes 94 = .ok (.if_icmp .ne 9, 3) := by decide +kernel
theorem d_Md_comes_97 : decode b_Md_comes 97 = .ok (.iload 4, 2) := by decide +kernel
theorem d_Md_comes_99 : decode b_Md_comes 99 = .ok (.iconst 1, 1) := by decide +kernel
theorem d_Md_comes_100 : decode b_Md_comes 100 = .ok (.if_icmp .le 12, 3) := by decide +kernel
theorem d_Md_comes_103 : decode b_Md_comes 103 = .ok (.aload_n 0, 1) := by decide +kernel
theorem d_Md_comes_104 : decode b_Md_comes 104 = .ok (.iconst 1, 1) := by decide +kernel
theorem d_Md_comes_105 : decode b_Md_comes 105 = .ok (.iload 5, 2) := by decide +kernel
theorem d_Md_comes_107 : decode b_Md_comes 107 = .ok (.iload_n 2, 1) := by decide +kernel
theorem d_Md_comes_108 : decode b_Md_comes 108 = .ok (.invokevirtual 193, 3) := by decide +kernel
theorem d_Md_comes_111 : decode b_Md_comes 111 = .ok (.return_, 1) := by decide +kernel
theorem d_Md_comes_112 : decode b_Md_comes 112 = .ok (.iload 7, 2) := by decide +kernel
theorem d_Md_comes_114 : decode b_Md_comes 114 = .ok (.iload_n 3, 1) := by decide +kernel
theorem d_Md_comes_115 : decode b_Md_comes 115 = .ok (.if_icmp .gt 14, 3) := by decide +kernel
theorem d_Md_comes_118 : decode b_Md_comes 118 = .ok (.iload 7, 2) := by decide +kernel
theorem d_Md_comes_120 : decode b_Md_comes 120 = .ok (.iload_n 3, 1) := by decide +kernel
theorem d_Md_comes_121 : decode b_Md_comes 121 = .ok (.if_icmp .ne 63, 3) := by decide +kernel
theorem d_Md_comes_124 : decode b_Md_comes 124 = .ok (.iload 4, 2) := by decide +kernel
theorem d_Md_comes_126 : decode b_Md_comes 126 = .ok (.ifCond .ne 58, 3) := by decide +kernel
theorem d_Md_comes_129 : decode b_Md_comes 129 = .ok (.aload_n 0, 1) := by decide +kernel
theorem d_Md_comes_130 : decode b_Md_comes 130 = .ok (.iload 5, 2) := by decide +kernel
theorem d_Md_comes_132 : decode b_Md_comes 132 = .ok (.invokevirtual 162, 3) := by decide +kernel
theorem d_Md_comes_135 : decode b_Md_comes 135 = .ok (.ifCond .eq 12, 3) := by decide +kernel
theorem d_Md_comes_138 : decode b_Md_comes 138 = .ok (.aload_n 0, 1) := by decide +kernel
theorem d_Md_comes_139 : decode b_Md_comes 139 = .ok (.iconst 3, 1) := by decide +kernel
theorem d_Md_comes_140 : decode b_Md_comes 140 = .ok (.iload 5, 2) := by decide +kernel
theorem d_Md_comes_142 : decode b_Md_comes 142 = .ok (.iload_n 2, 1) := by decide +kernel
theorem d_Md_comes_143 : decode b_Md_comes 143 = .ok (.invokevirtual 193, 3) := by decide +kernel
theorem d_Md_comes_146 : decode b_Md_comes 146 = .ok (.return_, 1) := by decide +kernel
theorem d_Md_comes_147 : decode b_Md_comes 147 = .ok (.aload_n 0, 1) := by decide +kernel
theorem d_Md_comes_148 : decode b_Md_comes 148 = .ok (.getfield 69, 3) := by decide +kernel
theorem d_Md_comes_151 : decode b_Md_comes 151 = .ok (.iload 5, 2) := by decide +kernel
theorem d_Md_comes_153 : decode b_Md_comes 153 = .ok (.iconst 0, 1) := by decide +kernel
theorem d_Md_comes_154 : decode b_Md_comes 154 = .ok (.bastore, 1) := by decide +kernel
theorem d_Md_comes_155 : decode b_Md_comes 155 = .ok (.aload_n 0, 1) := by decide +kernel
theorem d_Md_comes_156 : decode b_Md_comes 156 = .ok (.aload_n 0, 1) := by decide +kernel
theorem d_Md_comes_157 : decode b_Md_comes 157 = .ok (.getfield 63, 3) := by decide +kernel
theorem d_Md_comes_160 : decode b_Md_comes 160 = .ok (.iload_n 2, 1) := by decide +kernel
theorem d_Md_comes_161 : decode b_Md_comes 161 = .ok (.iaload, 1) := by decide +kernel
theorem d_Md_comes_162 : decode b_Md_comes 162 = .ok (.iload_n 2, 1) := by decide +kernel
theorem d_Md_comes_163 : decode b_Md_comes 163 = .ok (.invokevirtual 190, 3) := by decide +kernel
theorem d_Md_comes_166 : decode b_Md_comes 166 = .ok (.istore 5, 2) := by decide +kernel
theorem d_Md_comes_168 : decode b_Md_comes 168 = .ok (.iload 5, 2) := by decide +kernel
theorem d_Md_comes_170 : decode b_Md_comes 170 = .ok (.iconst (-1), 1) := by decide +kernel
theorem d_Md_comes_171 : decode b_Md_comes 171 = .ok (.if_icmp .eq 7, 3) := by decide +kernel
theorem d_Md_comes_174 : decode b_Md_comes 174 = .ok (.iconst 1, 1) := by decide +kernel
theorem d_Md_comes_175 : decode b_Md_comes 175 = .ok (.goto 4, 3) := by decide +kernel
theorem d_Md_comes_178 : decode b_Md_comes 178 = .ok (.iconst 0, 1) := by decide +kernel
theorem d_Md_comes_179 : decode b_Md_comes 179 = .ok (.istore 6, 2) := by decide +kernel
theorem d_Md_comes_181 : decode b_Md_comes 181 = .ok (.goto 33, 3) := by decide +kernel
theorem d_Md_comes_184 : decode b_Md_comes 184 = .ok (.aload_n 0, 1) := by decide +kernel
theorem d_Md_comes_185 : decode b_Md_comes 185 = .ok (.getfield 146, 3) := by decide +kernel
theorem d_Md_comes_188 : decode b_Md_comes 188 = .ok (.ifCond .eq 23, 3) := by decide +kernel
theorem d_Md_comes_191 : decode b_Md_comes 191 = .ok (.aload_n 0, 1) := by decide +kernel
theorem d_Md_comes_192 : decode b_Md_comes 192 = .ok (.getfield 19, 3) := by decide +kernel
theorem d_Md_comes_195 : decode b_Md_comes 195 = .ok (.iload 5, 2) := by decide +kernel
theorem d_Md_comes_197 : decode b_Md_comes 197 = .ok (.iaload, 1) := by decide +kernel
theorem d_Md_comes_198 : decode b_Md_comes 198 = .ok (.iconst 2, 1) := by decide +kernel
theorem d_Md_comes_199 : decode b_Md_comes 199 = .ok (.if_icmp .ne 12, 3) := by decide +kernel
theorem d_Md_comes_202 : decode b_Md_comes 202 = .ok (.aload_n 0, 1) := by decide +kernel
theorem d_Md_comes_203 : decode b_Md_comes 203 = .ok (.iconst 4, 1) := by decide +kernel
theorem d_Md_comes_204 : decode b_Md_comes 204 = .ok (.iload 5, 2) := by decide +kernel
theorem d_Md_comes_206 : decode b_Md_comes 206 = .ok (.iload_n 2, 1) := by decide +kernel
theorem d_Md_comes_207 : decode b_Md_comes 207 = .ok (.invokevirtual 193, 3) := by decide +kernel
theorem d_Md_comes_210 : decode b_Md_comes 210 = .ok (.return_, 1) := by decide +kernel
theorem d_Md_comes_211 : decode b_Md_comes 211 = .ok (.iconst 0, 1) := by decide +kernel
theorem d_Md_comes_212 : decode b_Md_comes 212 = .ok (.istore 6, 2) := by decide +kernel
theorem d_Md_comes_214 : decode b_Md_comes 214 = .ok (.goto (-163), 3) := by decide +kernel
theorem d_Md_comes_217 : decode b_Md_comes 217 = .ok (.aload_n 0, 1) := by decide +kernel
theorem d_Md_comes_218 : decode b_Md_comes 218 = .ok (.getfield 69, 3) := by decide +kernel
theorem d_Md_comes_221 : decode b_Md_comes 221 = .ok (.iload_n 2, 1) := by decide +kernel
theorem d_Md_comes_222 : decode b_Md_comes 222 = .ok (.iconst 1, 1) := by decide +kernel
theorem d_Md_comes_223 : decode b_Md_comes 223 = .ok (.bastore, 1) := by decide +kernel
theorem d_Md_comes_224 : decode b_Md_comes 224 = .ok (.return_, 1) := by decide +kernel
theorem hg_Md_comes : fx_mw fx_g "FixityTreesModel" y_Md_comes b_Md_comes 9 none := ⟨fx_in 1190 (by decide +kernel) (by decide +kernel), fx_inp 57 (by decide +kernel) (by decide +kernel), fx_in 9 (by decide +kernel) (by decide +kernel), fx_in 1191 (by decide +kernel) (by decide +kernel)⟩
abbrev b_Md_negates : ByteArray := prog_10_method_27_code
abbrev y_Md_negates : MethodName := ⟨"FixityTreesModel", "negates", "(II)V"⟩
theorem d_Md_negates_0 : decode b_Md_negates 0 = .ok (.aload_n 0, 1) := by decide +kernel
theorem d_Md_negates_1 : decode b_Md_negates 1 = .ok (.aload_n 0, 1) := by decide +kernel
theorem d_Md_negates_2 : decode b_Md_negates 2 = .ok (.getfield 63, 3) := by decide +kernel
theorem d_Md_negates_5 : decode b_Md_negates 5 = .ok (.iload_n 2, 1) := by decide +kernel
theorem d_Md_negates_6 : decode b_Md_negates 6 = .ok (.iaload, 1) := by decide +kernel
theorem d_Md_negates_7 : decode b_Md_negates 7 = .ok (.iload_n 2, 1) := by decide +kernel
theorem d_Md_negates_8 : decode b_Md_negates 8 = .ok (.invokevirtual 190, 3) := by decide +kernel
theorem d_Md_negates_11 : decode b_Md_negates 11 = .ok (.istore_n 3, 1) := by decide +kernel
theorem d_Md_negates_12 : decode b_Md_negates 12 = .ok (.iload_n 3, 1) := by decide +kernel
theorem d_Md_negates_13 : decode b_Md_negates 13 = .ok (.iconst (-1), 1) := by decide +kernel
theorem d_Md_negates_14 : decode b_Md_negates 14 = .ok (.if_icmp .eq 29, 3) := by decide +kernel
theorem d_Md_negates_17 : decode b_Md_negates 17 = .ok (.aload_n 0, 1) := by decide +kernel
theorem d_Md_negates_18 : decode b_Md_negates 18 = .ok (.iload_n 1, 1) := by decide +kernel
theorem d_Md_negates_19 : decode b_Md_negates 19 = .ok (.aload_n 0, 1) := by decide +kernel
theorem d_Md_negates_20 : decode b_Md_negates 20 = .ok (.getfield 22, 3) := by decide +kernel
theorem d_Md_negates_23 : decode b_Md_negates 23 = .ok (.iload_n 3, 1) := by decide +kernel
theorem d_Md_negates_24 : decode b_Md_negates 24 = .ok (.iaload, 1) := by decide +kernel
theorem d_Md_negates_25 : decode b_Md_negates 25 = .ok (.invokevirtual 137, 3) := by decide +kernel
theorem d_Md_negates_28 : decode b_Md_negates 28 = .ok (.bipush 6, 2) := by decide +kernel
theorem d_Md_negates_30 : decode b_Md_negates 30 = .ok (.if_icmp .lt 13, 3) := by decide +kernel
theorem d_Md_negates_33 : decode b_Md_negates 33 = .ok (.aload_n 0, 1) := by decide +kernel
theorem d_Md_negates_34 : decode b_Md_negates 34 = .ok (.iconst 2, 1) := by decide +kernel
theorem d_Md_negates_35 : decode b_Md_negates 35 = .ok (.iload_n 3, 1) := by decide +kernel
theorem d_Md_negates_36 : decode b_Md_negates 36 = .ok (.iload_n 2, 1) := by decide +kernel
theorem d_Md_negates_37 : decode b_Md_negates 37 = .ok (.invokevirtual 193, 3) := by decide +kernel
theorem d_Md_negates_40 : decode b_Md_negates 40 = .ok (.goto 10, 3) := by decide +kernel
theorem d_Md_negates_43 : decode b_Md_negates 43 = .ok (.aload_n 0, 1) := by decide +kernel
theorem d_Md_negates_44 : decode b_Md_negates 44 = .ok (.getfield 69, 3) := by decide +kernel
theorem d_Md_negates_47 : decode b_Md_negates 47 = .ok (.iload_n 2, 1) := by decide +kernel
theorem d_Md_negates_48 : decode b_Md_negates 48 = .ok (.iconst 1, 1) := by decide +kernel
theorem d_Md_negates_49 : decode b_Md_negates 49 = .ok (.bastore, 1) := by decide +kernel
theorem d_Md_negates_50 : decode b_Md_negates 50 = .ok (.return_, 1) := by decide +kernel
theorem hg_Md_negates : fx_mw fx_g "FixityTreesModel" y_Md_negates b_Md_negates 4 none := ⟨fx_in 1178 (by decide +kernel) (by decide +kernel), fx_inp 54 (by decide +kernel) (by decide +kernel), fx_in 9 (by decide +kernel) (by decide +kernel), fx_in 1179 (by decide +kernel) (by decide +kernel)⟩
abbrev b_Md_goThrough : ByteArray := prog_10_method_26_code
abbrev y_Md_goThrough : MethodName := ⟨"FixityTreesModel", "goThrough", "(I)Z"⟩
theorem d_Md_goThrough_0 : decode b_Md_goThrough 0 = .ok (.aload_n 0, 1) := by decide +kernel
theorem d_Md_goThrough_1 : decode b_Md_goThrough 1 = .ok (.invokevirtual 174, 3) := by decide +kernel
theorem d_Md_goThrough_4 : decode b_Md_goThrough 4 = .ok (.aload_n 0, 1) := by decide +kernel
theorem d_Md_goThrough_5 : decode b_Md_goThrough 5 = .ok (.iconst (-1), 1) := by decide +kernel
theorem d_Md_goThrough_6 : decode b_Md_goThrough 6 = .ok (.putfield 165, 3) := by decide +kernel
theorem d_Md_goThrough_9 : decode b_Md_goThrough 9 = .ok (.aload_n 0, 1) := by decide +kernel
theorem d_Md_goThrough_10 : decode b_Md_goThrough 10 = .ok (.iconst (-1), 1) := by decide +kernel
theorem d_Md_goThrough_11 : decode b_Md_goThrough 11 = .ok (.putfield 168, 3) := by decide +kernel
theorem d_Md_goThrough_14 : decode b_Md_goThrough 14 = .ok (.aload_n 0, 1) := by decide +kernel
theorem d_Md_goThrough_15 : decode b_Md_goThrough 15 = .ok (.iconst (-1), 1) := by decide +kernel
theorem d_Md_goThrough_16 : decode b_Md_goThrough 16 = .ok (.putfield 171, 3) := by decide +kernel
theorem d_Md_goThrough_19 : decode b_Md_goThrough 19 = .ok (.aload_n 0, 1) := by decide +kernel
theorem d_Md_goThrough_20 : decode b_Md_goThrough 20 = .ok (.iconst 0, 1) := by decide +kernel
theorem d_Md_goThrough_21 : decode b_Md_goThrough 21 = .ok (.putfield 177, 3) := by decide +kernel
theorem d_Md_goThrough_24 : decode b_Md_goThrough 24 = .ok (.iconst 0, 1) := by decide +kernel
theorem d_Md_goThrough_25 : decode b_Md_goThrough 25 = .ok (.istore_n 2, 1) := by decide +kernel
theorem d_Md_goThrough_26 : decode b_Md_goThrough 26 = .ok (.iload_n 2, 1) := by decide +kernel
theorem d_Md_goThrough_27 : decode b_Md_goThrough 27 = .ok (.aload_n 0, 1) := by decide +kernel
theorem d_Md_goThrough_28 : decode b_Md_goThrough 28 = .ok (.getfield 140, 3) := by decide +kernel
theorem d_Md_goThrough_31 : decode b_Md_goThrough 31 = .ok (.if_icmp .ge 132, 3) := by decide +kernel
theorem d_Md_goThrough_34 : decode b_Md_goThrough 34 = .ok (.aload_n 0, 1) := by decide +kernel
theorem d_Md_goThrough_35 : decode b_Md_goThrough 35 = .ok (.getfield 165, 3) := by decide +kernel
theorem d_Md_goThrough_38 : decode b_Md_goThrough 38 = .ok (.iconst (-1), 1) := by decide +kernel
theorem d_Md_goThrough_39 : decode b_Md_goThrough 39 = .ok (.if_icmp .ne 124, 3) := by decide +kernel
theorem d_Md_goThrough_42 : decode b_Md_goThrough 42 = .ok (.aload_n 0, 1) := by decide +kernel
theorem d_Md_goThrough_43 : decode b_Md_goThrough 43 = .ok (.getfield 69, 3) := by decide +kernel
theorem d_Md_goThrough_46 : decode b_Md_goThrough 46 = .ok (.iload_n 2, 1) := by decide +kernel
theorem d_Md_goThrough_47 : decode b_Md_goThrough 47 = .ok (.iconst 0, 1) := by decide +kernel
theorem d_Md_goThrough_48 : decode b_Md_goThrough 48 = .ok (.bastore, 1) := by decide +kernel
theorem d_Md_goThrough_49 : decode b_Md_goThrough 49 = .ok (.aload_n 0, 1) := by decide +kernel
theorem d_Md_goThrough_50 : decode b_Md_goThrough 50 = .ok (.getfield 19, 3) := by decide +kernel
theorem d_Md_goThrough_53 : decode b_Md_goThrough 53 = .ok (.iload_n 2, 1) := by decide +kernel
theorem d_Md_goThrough_54 : decode b_Md_goThrough 54 = .ok (.iaload, 1) := by decide +kernel
theorem d_Md_goThrough_55 : decode b_Md_goThrough 55 = .ok (.iconst 2, 1) := by decide +kernel
theorem d_Md_goThrough_56 : decode b_Md_goThrough 56 = .ok (.if_icmp .ne 12, 3) := by decide +kernel
theorem d_Md_goThrough_59 : decode b_Md_goThrough 59 = .ok (.aload_n 0, 1) := by decide +kernel
theorem d_Md_goThrough_60 : decode b_Md_goThrough 60 = .ok (.iload_n 1, 1) := by decide +kernel
theorem d_Md_goThrough_61 : decode b_Md_goThrough 61 = .ok (.iload_n 2, 1) := by decide +kernel
theorem d_Md_goThrough_62 : decode b_Md_goThrough 62 = .ok (.invokevirtual 180, 3) := by decide +kernel
theorem d_Md_goThrough_65 : decode b_Md_goThrough 65 = .ok (.goto 37, 3) := by decide +kernel
theorem d_Md_goThrough_68 : decode b_Md_goThrough 68 = .ok (.aload_n 0, 1) := by decide +kernel
theorem d_Md_goThrough_69 : decode b_Md_goThrough 69 = .ok (.getfield 19, 3) := by decide +kernel
theorem d_Md_goThrough_72 : decode b_Md_goThrough 72 = .ok (.iload_n 2, 1) := by decide +kernel
theorem d_Md_goThrough_73 : decode b_Md_goThrough 73 = .ok (.iaload, 1) := by decide +kernel
theorem d_Md_goThrough_74 : decode b_Md_goThrough 74 = .ok (.iconst 1, 1) := by decide +kernel
theorem d_Md_goThrough_75 : decode b_Md_goThrough 75 = .ok (.if_icmp .ne 12, 3) := by decide +kernel
theorem d_Md_goThrough_78 : decode b_Md_goThrough 78 = .ok (.aload_n 0, 1) := by decide +kernel
theorem d_Md_goThrough_79 : decode b_Md_goThrough 79 = .ok (.iload_n 1, 1) := by decide +kernel
theorem d_Md_goThrough_80 : decode b_Md_goThrough 80 = .ok (.iload_n 2, 1) := by decide +kernel
theorem d_Md_goThrough_81 : decode b_Md_goThrough 81 = .ok (.invokevirtual 184, 3) := by decide +kernel
theorem d_Md_goThrough_84 : decode b_Md_goThrough 84 = .ok (.goto 18, 3) := by decide +kernel
theorem d_Md_goThrough_87 : decode b_Md_goThrough 87 = .ok (.aload_n 0, 1) := by decide +kernel
theorem d_Md_goThrough_88 : decode b_Md_goThrough 88 = .ok (.getfield 19, 3) := by decide +kernel
theorem d_Md_goThrough_91 : decode b_Md_goThrough 91 = .ok (.iload_n 2, 1) := by decide +kernel
theorem d_Md_goThrough_92 : decode b_Md_goThrough 92 = .ok (.iaload, 1) := by decide +kernel
theorem d_Md_goThrough_93 : decode b_Md_goThrough 93 = .ok (.iconst 4, 1) := by decide +kernel
theorem d_Md_goThrough_94 : decode b_Md_goThrough 94 = .ok (.if_icmp .ne 8, 3) := by decide +kernel
theorem d_Md_goThrough_97 : decode b_Md_goThrough 97 = .ok (.aload_n 0, 1) := by decide +kernel
theorem d_Md_goThrough_98 : decode b_Md_goThrough 98 = .ok (.iload_n 2, 1) := by decide +kernel
theorem d_Md_goThrough_99 : decode b_Md_goThrough 99 = .ok (.invokevirtual 187, 3) := by decide +kernel
theorem d_Md_goThrough_102 : decode b_Md_goThrough 102 = .ok (.iconst 0, 1) := by decide +kernel
theorem d_Md_goThrough_103 : decode b_Md_goThrough 103 = .ok (.istore_n 3, 1) := by decide +kernel
theorem d_Md_goThrough_104 : decode b_Md_goThrough 104 = .ok (.iconst 0, 1) := by decide +kernel
theorem d_Md_goThrough_105 : decode b_Md_goThrough 105 = .ok (.istore 4, 2) := by decide +kernel
theorem d_Md_goThrough_107 : decode b_Md_goThrough 107 = .ok (.iload 4, 2) := by decide +kernel
theorem d_Md_goThrough_109 : decode b_Md_goThrough 109 = .ok (.iload_n 2, 1) := by decide +kernel
theorem d_Md_goThrough_110 : decode b_Md_goThrough 110 = .ok (.if_icmp .gt 27, 3) := by decide +kernel
theorem d_Md_goThrough_113 : decode b_Md_goThrough 113 = .ok (.iload_n 3, 1) := by decide +kernel
theorem d_Md_goThrough_114 : decode b_Md_goThrough 114 = .ok (.aload_n 0, 1) := by decide +kernel
theorem d_Md_goThrough_115 : decode b_Md_goThrough 115 = .ok (.getfield 69, 3) := by decide +kernel
theorem d_Md_goThrough_118 : decode b_Md_goThrough 118 = .ok (.iload 4, 2) := by decide +kernel
theorem d_Md_goThrough_120 : decode b_Md_goThrough 120 = .ok (.baload, 1) := by decide +kernel
theorem d_Md_goThrough_121 : decode b_Md_goThrough 121 = .ok (.ifCond .eq 7, 3) := by decide +kernel
theorem d_Md_goThrough_124 : decode b_Md_goThrough 124 = .ok (.iconst 1, 1) := by decide +kernel
theorem d_Md_goThrough_125 : decode b_Md_goThrough 125 = .ok (.goto 4, 3) := by decide +kernel
theorem d_Md_goThrough_128 : decode b_Md_goThrough 128 = .ok (.iconst 0, 1) := by decide +kernel
theorem d_Md_goThrough_129 : decode b_Md_goThrough 129 = .ok (.iadd, 1) := by decide +kernel
theorem d_Md_goThrough_130 : decode b_Md_goThrough 130 = .ok (.istore_n 3, 1) := by decide +kernel
theorem d_Md_goThrough_131 : decode b_Md_goThrough 131 = .ok (.iinc 4 1, 3) := by decide +kernel
theorem d_Md_goThrough_134 : decode b_Md_goThrough 134 = .ok (.goto (-27), 3) := by decide +kernel
theorem d_Md_goThrough_137 : decode b_Md_goThrough 137 = .ok (.aload_n 0, 1) := by decide +kernel
theorem d_Md_goThrough_138 : decode b_Md_goThrough 138 = .ok (.iload_n 3, 1) := by decide +kernel
theorem d_Md_goThrough_139 : decode b_Md_goThrough 139 = .ok (.aload_n 0, 1) := by decide +kernel
theorem d_Md_goThrough_140 : decode b_Md_goThrough 140 = .ok (.getfield 177, 3) := by decide +kernel
theorem d_Md_goThrough_143 : decode b_Md_goThrough 143 = .ok (.if_icmp .le 7, 3) := by decide +kernel
theorem d_Md_goThrough_146 : decode b_Md_goThrough 146 = .ok (.iload_n 3, 1) := by decide +kernel
theorem d_Md_goThrough_147 : decode b_Md_goThrough 147 = .ok (.goto 7, 3) := by decide +kernel
theorem d_Md_goThrough_150 : decode b_Md_goThrough 150 = .ok (.aload_n 0, 1) := by decide +kernel
theorem d_Md_goThrough_151 : decode b_Md_goThrough 151 = .ok (.getfield 177, 3) := by decide +kernel
theorem d_Md_goThrough_154 : decode b_Md_goThrough 154 = .ok (.putfield 177, 3) := by decide +kernel
theorem d_Md_goThrough_157 : decode b_Md_goThrough 157 = .ok (.iinc 2 1, 3) := by decide +kernel
theorem d_Md_goThrough_160 : decode b_Md_goThrough 160 = .ok (.goto (-134), 3) := by decide +kernel
theorem d_Md_goThrough_163 : decode b_Md_goThrough 163 = .ok (.aload_n 0, 1) := by decide +kernel
theorem d_Md_goThrough_164 : decode b_Md_goThrough 164 = .ok (.getfield 165, 3) := by decide +kernel
theorem d_Md_goThrough_167 : decode b_Md_goThrough 167 = .ok (.iconst (-1), 1) := by decide +kernel
theorem d_Md_goThrough_168 : decode b_Md_goThrough 168 = .ok (.if_icmp .ne 7, 3) := by decide +kernel
theorem d_Md_goThrough_171 : decode b_Md_goThrough 171 = .ok (.iconst 1, 1) := by decide +kernel
theorem d_Md_goThrough_172 : decode b_Md_goThrough 172 = .ok (.goto 4, 3) := by decide +kernel
theorem d_Md_goThrough_175 : decode b_Md_goThrough 175 = .ok (.iconst 0, 1) := by decide +kernel
theorem d_Md_goThrough_176 : decode b_Md_goThrough 176 = .ok (.ireturn, 1) := by decide +kernel
theorem hg_Md_goThrough : fx_mw fx_g "FixityTreesModel" y_Md_goThrough b_Md_goThrough 5 (some .boolean) := ⟨fx_in 1170 (by decide +kernel) (by decide +kernel), fx_inp 52 (by decide +kernel) (by decide +kernel), fx_in 9 (by decide +kernel) (by decide +kernel), fx_in 1171 (by decide +kernel) (by decide +kernel)⟩
abbrev b_Md_part : ByteArray := prog_10_method_30_code
abbrev y_Md_part : MethodName := ⟨"FixityTreesModel", "part", "(IIII)V"⟩
theorem d_Md_part_0 : decode b_Md_part 0 = .ok (.aload_n 0, 1) := by decide +kernel
theorem d_Md_part_1 : decode b_Md_part 1 = .ok (.getfield 76, 3) := by decide +kernel
theorem d_Md_part_4 : decode b_Md_part 4 = .ok (.aload_n 0, 1) := by decide +kernel
theorem d_Md_part_5 : decode b_Md_part 5 = .ok (.getfield 197, 3) := by decide +kernel
theorem d_Md_part_8 : decode b_Md_part 8 = .ok (.iload_n 1, 1) := by decide +kernel
theorem d_Md_part_9 : decode b_Md_part 9 = .ok (.iastore, 1) := by decide +kernel
theorem d_Md_part_10 : decode b_Md_part 10 = .ok (.aload_n 0, 1) := by decide +kernel
theorem d_Md_part_11 : decode b_Md_part 11 = .ok (.getfield 79, 3) := by decide +kernel
theorem d_Md_part_14 : decode b_Md_part 14 = .ok (.aload_n 0, 1) := by decide +kernel
theorem d_Md_part_15 : decode b_Md_part 15 = .ok (.getfield 197, 3) := by decide +kernel
theorem d_Md_part_18 : decode b_Md_part 18 = .ok (.iload_n 2, 1) := by decide +kernel
theorem d_Md_part_19 : decode b_Md_part 19 = .ok (.iastore, 1) := by decide +kernel
theorem d_Md_part_20 : decode b_Md_part 20 = .ok (.aload_n 0, 1) := by decide +kernel
theorem d_Md_part_21 : decode b_Md_part 21 = .ok (.getfield 82, 3) := by decide +kernel
theorem d_Md_part_24 : decode b_Md_part 24 = .ok (.aload_n 0, 1) := by decide +kernel
theorem d_Md_part_25 : decode b_Md_part 25 = .ok (.getfield 197, 3) := by decide +kernel
theorem d_Md_part_28 : decode b_Md_part 28 = .ok (.iload_n 3, 1) := by decide +kernel
theorem d_Md_part_29 : decode b_Md_part 29 = .ok (.iastore, 1) := by decide +kernel
theorem d_Md_part_30 : decode b_Md_part 30 = .ok (.aload_n 0, 1) := by decide +kernel
theorem d_Md_part_31 : decode b_Md_part 31 = .ok (.getfield 85, 3) := by decide +kernel
theorem d_Md_part_34 : decode b_Md_part 34 = .ok (.aload_n 0, 1) := by decide +kernel
theorem d_Md_part_35 : decode b_Md_part 35 = .ok (.getfield 197, 3) := by decide +kernel
theorem d_Md_part_38 : decode b_Md_part 38 = .ok (.iload 4, 2) := by decide +kernel
theorem d_Md_part_40 : decode b_Md_part 40 = .ok (.iastore, 1) := by decide +kernel
theorem d_Md_part_41 : decode b_Md_part 41 = .ok (.aload_n 0, 1) := by decide +kernel
theorem d_Md_part_42 : decode b_Md_part 42 = .ok (.dup, 1) := by decide +kernel
theorem d_Md_part_43 : decode b_Md_part 43 = .ok (.getfield 197, 3) := by decide +kernel
theorem d_Md_part_46 : decode b_Md_part 46 = .ok (.iconst 1, 1) := by decide +kernel
theorem d_Md_part_47 : decode b_Md_part 47 = .ok (.iadd, 1) := by decide +kernel
theorem d_Md_part_48 : decode b_Md_part 48 = .ok (.putfield 197, 3) := by decide +kernel
theorem d_Md_part_51 : decode b_Md_part 51 = .ok (.return_, 1) := by decide +kernel
theorem hg_Md_part : fx_mw fx_g "FixityTreesModel" y_Md_part b_Md_part 5 none := ⟨fx_in 1202 (by decide +kernel) (by decide +kernel), fx_inp 60 (by decide +kernel) (by decide +kernel), fx_in 9 (by decide +kernel) (by decide +kernel), fx_in 1203 (by decide +kernel) (by decide +kernel)⟩
abbrev b_Md_loosest : ByteArray := prog_10_method_34_code
abbrev y_Md_loosest : MethodName := ⟨"FixityTreesModel", "loosest", "(III)I"⟩
theorem d_Md_loosest_0 : decode b_Md_loosest 0 = .ok (.iconst (-1), 1) := by decide +kernel
theorem d_Md_loosest_1 : decode b_Md_loosest 1 = .ok (.istore 4, 2) := by decide +kernel
theorem d_Md_loosest_3 : decode b_Md_loosest 3 = .ok (.bipush 10, 2) := by decide +kernel
theorem d_Md_loosest_5 : decode b_Md_loosest 5 = .ok (.istore 5, 2) := by decide +kernel
theorem d_Md_loosest_7 : decode b_Md_loosest 7 = .ok (.iload_n 2, 1) := by decide +kernel
theorem d_Md_loosest_8 : decode b_Md_loosest 8 = .ok (.istore 6, 2) := by decide +kernel
theorem d_Md_loosest_10 : decode b_Md_loosest 10 = .ok (.iload 6, 2) := by decide +kernel
theorem d_Md_loosest_12 : decode b_Md_loosest 12 = .ok (.iload_n 3, 1) := by decide +kernel
theorem d_Md_loosest_13 : decode b_Md_loosest 13 = .ok (.if_icmp .gt 93, 3) := by decide +kernel
theorem d_Md_loosest_16 : decode b_Md_loosest 16 = .ok (.aload_n 0, 1) := by decide +kernel
theorem d_Md_loosest_17 : decode b_Md_loosest 17 = .ok (.getfield 19, 3) := by decide +kernel
theorem d_Md_loosest_20 : decode b_Md_loosest 20 = .ok (.iload 6, 2) := by decide +kernel
theorem d_Md_loosest_22 : decode b_Md_loosest 22 = .ok (.iaload, 1) := by decide +kernel
theorem d_Md_loosest_23 : decode b_Md_loosest 23 = .ok (.iconst 3, 1) := by decide +kernel
theorem d_Md_loosest_24 : decode b_Md_loosest 24 = .ok (.if_icmp .ne 15, 3) := by decide +kernel
theorem d_Md_loosest_27 : decode b_Md_loosest 27 = .ok (.aload_n 0, 1) := by decide +kernel
theorem d_Md_loosest_28 : decode b_Md_loosest 28 = .ok (.getfield 66, 3) := by decide +kernel
theorem d_Md_loosest_31 : decode b_Md_loosest 31 = .ok (.iload 6, 2) := by decide +kernel
theorem d_Md_loosest_33 : decode b_Md_loosest 33 = .ok (.iaload, 1) := by decide +kernel
theorem d_Md_loosest_34 : decode b_Md_loosest 34 = .ok (.istore 6, 2) := by decide +kernel
theorem d_Md_loosest_36 : decode b_Md_loosest 36 = .ok (.goto 64, 3) := by decide +kernel
theorem d_Md_loosest_39 : decode b_Md_loosest 39 = .ok (.aload_n 0, 1) := by decide +kernel
theorem d_Md_loosest_40 : decode b_Md_loosest 40 = .ok (.getfield 19, 3) := by decide +kernel
theorem d_Md_loosest_43 : decode b_Md_loosest 43 = .ok (.iload 6, 2) := by decide +kernel
theorem d_Md_loosest_45 : decode b_Md_loosest 45 = .ok (.iaload, 1) := by decide +kernel
theorem d_Md_loosest_46 : decode b_Md_loosest 46 = .ok (.ifCond .eq 54, 3) := by decide +kernel
theorem d_Md_loosest_49 : decode b_Md_loosest 49 = .ok (.aload_n 0, 1) := by decide +kernel
theorem d_Md_loosest_50 : decode b_Md_loosest 50 = .ok (.iload_n 1, 1) := by decide +kernel
theorem d_Md_loosest_51 : decode b_Md_loosest 51 = .ok (.aload_n 0, 1) := by decide +kernel
theorem d_Md_loosest_52 : decode b_Md_loosest 52 = .ok (.getfield 22, 3) := by decide +kernel
theorem d_Md_loosest_55 : decode b_Md_loosest 55 = .ok (.iload 6, 2) := by decide +kernel
theorem d_Md_loosest_57 : decode b_Md_loosest 57 = .ok (.iaload, 1) := by decide +kernel
theorem d_Md_loosest_58 : decode b_Md_loosest 58 = .ok (.invokevirtual 137, 3) := by decide +kernel
theorem d_Md_loosest_61 : decode b_Md_loosest 61 = .ok (.istore 7, 2) := by decide +kernel
theorem d_Md_loosest_63 : decode b_Md_loosest 63 = .ok (.iload 7, 2) := by decide +kernel
theorem d_Md_loosest_65 : decode b_Md_loosest 65 = .ok (.iload 5, 2) := by decide +kernel
theorem d_Md_loosest_67 : decode b_Md_loosest 67 = .ok (.if_icmp .lt 25, 3) := by decide +kernel
theorem d_Md_loosest_70 : decode b_Md_loosest 70 = .ok (.iload 7, 2) := by decide +kernel
theorem d_Md_loosest_72 : decode b_Md_loosest 72 = .ok (.iload 5, 2) := by decide +kernel
theorem d_Md_loosest_74 : decode b_Md_loosest 74 = .ok (.if_icmp .ne 26, 3) := by decide +kernel
theorem d_Md_loosest_77 : decode b_Md_loosest 77 = .ok (.aload_n 0, 1) := by decide +kernel
theorem d_Md_loosest_78 : decode b_Md_loosest 78 = .ok (.iload_n 1, 1) := by decide +kernel
theorem d_Md_loosest_79 : decode b_Md_loosest 79 = .ok (.aload_n 0, 1) := by decide +kernel
theorem d_Md_loosest_80 : decode b_Md_loosest 80 = .ok (.getfield 22, 3) := by decide +kernel
theorem d_Md_loosest_83 : decode b_Md_loosest 83 = .ok (.iload 6, 2) := by decide +kernel
theorem d_Md_loosest_85 : decode b_Md_loosest 85 = .ok (.iaload, 1) := by decide +kernel
theorem d_Md_loosest_86 : decode b_Md_loosest 86 = .ok (.invokevirtual 134, 3) := by decide +kernel
theorem d_Md_loosest_89 : decode b_Md_loosest 89 = .ok (.ifCond .ne 11, 3) := by decide +kernel
theorem d_Md_loosest_92 : decode b_Md_loosest 92 = .ok (.iload 6, 2) := by decide +kernel
theorem d_Md_loosest_94 : decode b_Md_loosest 94 = .ok (.istore 4, 2) := by decide +kernel
theorem d_Md_loosest_96 : decode b_Md_loosest 96 = .ok (.iload 7, 2) := by decide +kernel
theorem d_Md_loosest_98 : decode b_Md_loosest 98 = .ok (.istore 5, 2) := by decide +kernel
theorem d_Md_loosest_100 : decode b_Md_loosest 100 = .ok (.iinc 6 1, 3) := by decide +kernel
theorem d_Md_loosest_103 : decode b_Md_loosest 103 = .ok (.goto (-93), 3) := by decide +kernel
theorem d_Md_loosest_106 : decode b_Md_loosest 106 = .ok (.iload 4, 2) := by decide +kernel
theorem d_Md_loosest_108 : decode b_Md_loosest 108 = .ok (.ireturn, 1) := by decide +kernel
theorem hg_Md_loosest : fx_mw fx_g "FixityTreesModel" y_Md_loosest b_Md_loosest 8 (some .int) := ⟨fx_in 1214 (by decide +kernel) (by decide +kernel), fx_inp 63 (by decide +kernel) (by decide +kernel), fx_in 9 (by decide +kernel) (by decide +kernel), fx_in 1215 (by decide +kernel) (by decide +kernel)⟩
abbrev b_Md_tell : ByteArray := prog_10_method_33_code
abbrev y_Md_tell : MethodName := ⟨"FixityTreesModel", "tell", "(III)V"⟩
theorem d_Md_tell_0 : decode b_Md_tell 0 = .ok (.aload_n 0, 1) := by decide +kernel
theorem d_Md_tell_1 : decode b_Md_tell 1 = .ok (.getfield 32, 3) := by decide +kernel
theorem d_Md_tell_4 : decode b_Md_tell 4 = .ok (.iload_n 1, 1) := by decide +kernel
theorem d_Md_tell_5 : decode b_Md_tell 5 = .ok (.iload_n 2, 1) := by decide +kernel
theorem d_Md_tell_6 : decode b_Md_tell 6 = .ok (.iastore, 1) := by decide +kernel
theorem d_Md_tell_7 : decode b_Md_tell 7 = .ok (.aload_n 0, 1) := by decide +kernel
theorem d_Md_tell_8 : decode b_Md_tell 8 = .ok (.getfield 44, 3) := by decide +kernel
theorem d_Md_tell_11 : decode b_Md_tell 11 = .ok (.iload_n 1, 1) := by decide +kernel
theorem d_Md_tell_12 : decode b_Md_tell 12 = .ok (.iload_n 3, 1) := by decide +kernel
theorem d_Md_tell_13 : decode b_Md_tell 13 = .ok (.iastore, 1) := by decide +kernel
theorem d_Md_tell_14 : decode b_Md_tell 14 = .ok (.aload_n 0, 1) := by decide +kernel
theorem d_Md_tell_15 : decode b_Md_tell 15 = .ok (.getfield 35, 3) := by decide +kernel
theorem d_Md_tell_18 : decode b_Md_tell 18 = .ok (.iload_n 1, 1) := by decide +kernel
theorem d_Md_tell_19 : decode b_Md_tell 19 = .ok (.aload_n 0, 1) := by decide +kernel
theorem d_Md_tell_20 : decode b_Md_tell 20 = .ok (.getfield 22, 3) := by decide +kernel
theorem d_Md_tell_23 : decode b_Md_tell 23 = .ok (.iload_n 3, 1) := by decide +kernel
theorem d_Md_tell_24 : decode b_Md_tell 24 = .ok (.iaload, 1) := by decide +kernel
theorem d_Md_tell_25 : decode b_Md_tell 25 = .ok (.iastore, 1) := by decide +kernel
theorem d_Md_tell_26 : decode b_Md_tell 26 = .ok (.aload_n 0, 1) := by decide +kernel
theorem d_Md_tell_27 : decode b_Md_tell 27 = .ok (.getfield 50, 3) := by decide +kernel
theorem d_Md_tell_30 : decode b_Md_tell 30 = .ok (.iload_n 1, 1) := by decide +kernel
theorem d_Md_tell_31 : decode b_Md_tell 31 = .ok (.aload_n 0, 1) := by decide +kernel
theorem d_Md_tell_32 : decode b_Md_tell 32 = .ok (.getfield 25, 3) := by decide +kernel
theorem d_Md_tell_35 : decode b_Md_tell 35 = .ok (.iload_n 3, 1) := by decide +kernel
theorem d_Md_tell_36 : decode b_Md_tell 36 = .ok (.laload, 1) := by decide +kernel
theorem d_Md_tell_37 : decode b_Md_tell 37 = .ok (.lastore, 1) := by decide +kernel
theorem d_Md_tell_38 : decode b_Md_tell 38 = .ok (.return_, 1) := by decide +kernel
theorem hg_Md_tell : fx_mw fx_g "FixityTreesModel" y_Md_tell b_Md_tell 4 none := ⟨fx_in 1210 (by decide +kernel) (by decide +kernel), fx_inp 62 (by decide +kernel) (by decide +kernel), fx_in 9 (by decide +kernel) (by decide +kernel), fx_in 1211 (by decide +kernel) (by decide +kernel)⟩
abbrev b_Md_root : ByteArray := prog_10_method_32_code
abbrev y_Md_root : MethodName := ⟨"FixityTreesModel", "root", "(IIIII)V"⟩
theorem d_Md_root_0 : decode b_Md_root 0 = .ok (.iload 4, 2) := by decide +kernel
theorem d_Md_root_2 : decode b_Md_root 2 = .ok (.istore 6, 2) := by decide +kernel
theorem d_Md_root_4 : decode b_Md_root 4 = .ok (.iload 5, 2) := by decide +kernel
theorem d_Md_root_6 : decode b_Md_root 6 = .ok (.istore 7, 2) := by decide +kernel
theorem d_Md_root_8 : decode b_Md_root 8 = .ok (.aload_n 0, 1) := by decide +kernel
theorem d_Md_root_9 : decode b_Md_root 9 = .ok (.getfield 19, 3) := by decide +kernel
theorem d_Md_root_12 : decode b_Md_root 12 = .ok (.iload 6, 2) := by decide +kernel
theorem d_Md_root_14 : decode b_Md_root 14 = .ok (.iaload, 1) := by decide +kernel
theorem d_Md_root_15 : decode b_Md_root 15 = .ok (.iconst 3, 1) := by decide +kernel
theorem d_Md_root_16 : decode b_Md_root 16 = .ok (.if_icmp .ne 48, 3) := by decide +kernel
theorem d_Md_root_19 : decode b_Md_root 19 = .ok (.aload_n 0, 1) := by decide +kernel
theorem d_Md_root_20 : decode b_Md_root 20 = .ok (.getfield 66, 3) := by decide +kernel
theorem d_Md_root_23 : decode b_Md_root 23 = .ok (.iload 6, 2) := by decide +kernel
theorem d_Md_root_25 : decode b_Md_root 25 = .ok (.iaload, 1) := by decide +kernel
theorem d_Md_root_26 : decode b_Md_root 26 = .ok (.iload 7, 2) := by decide +kernel
theorem d_Md_root_28 : decode b_Md_root 28 = .ok (.if_icmp .ne 36, 3) := by decide +kernel
theorem d_Md_root_31 : decode b_Md_root 31 = .ok (.aload_n 0, 1) := by decide +kernel
theorem d_Md_root_32 : decode b_Md_root 32 = .ok (.iload 6, 2) := by decide +kernel
theorem d_Md_root_34 : decode b_Md_root 34 = .ok (.iconst 1, 1) := by decide +kernel
theorem d_Md_root_35 : decode b_Md_root 35 = .ok (.iadd, 1) := by decide +kernel
theorem d_Md_root_36 : decode b_Md_root 36 = .ok (.invokevirtual 162, 3) := by decide +kernel
theorem d_Md_root_39 : decode b_Md_root 39 = .ok (.ifCond .ne 25, 3) := by decide +kernel
theorem d_Md_root_42 : decode b_Md_root 42 = .ok (.aload_n 0, 1) := by decide +kernel
theorem d_Md_root_43 : decode b_Md_root 43 = .ok (.getfield 19, 3) := by decide +kernel
theorem d_Md_root_46 : decode b_Md_root 46 = .ok (.iload 7, 2) := by decide +kernel
theorem d_Md_root_48 : decode b_Md_root 48 = .ok (.iconst 1, 1) := by decide +kernel
theorem d_Md_root_49 : decode b_Md_root 49 = .ok (.isub, 1) := by decide +kernel
theorem d_Md_root_50 : decode b_Md_root 50 = .ok (.iaload, 1) := by decide +kernel
theorem d_Md_root_51 : decode b_Md_root 51 = .ok (.iconst 1, 1) := by decide +kernel
theorem d_Md_root_52 : decode b_Md_root 52 = .ok (.if_icmp .eq 12, 3) := by decide +kernel
theorem d_Md_root_55 : decode b_Md_root 55 = .ok (.iinc 6 1, 3) := by decide +kernel
theorem d_Md_root_58 : decode b_Md_root 58 = .ok (.iinc 7 (-1), 3) := by decide +kernel
theorem d_Md_root_61 : decode b_Md_root 61 = .ok (.goto (-53), 3) := by decide +kernel
theorem d_Md_root_64 : decode b_Md_root 64 = .ok (.iload 6, 2) := by decide +kernel
theorem d_Md_root_66 : decode b_Md_root 66 = .ok (.iload 7, 2) := by decide +kernel
theorem d_Md_root_68 : decode b_Md_root 68 = .ok (.if_icmp .ne 16, 3) := by decide +kernel
theorem d_Md_root_71 : decode b_Md_root 71 = .ok (.aload_n 0, 1) := by decide +kernel
theorem d_Md_root_72 : decode b_Md_root 72 = .ok (.iload_n 2, 1) := by decide +kernel
theorem d_Md_root_73 : decode b_Md_root 73 = .ok (.iload_n 3, 1) := by decide +kernel
theorem d_Md_root_74 : decode b_Md_root 74 = .ok (.iadd, 1) := by decide +kernel
theorem d_Md_root_75 : decode b_Md_root 75 = .ok (.iconst 0, 1) := by decide +kernel
theorem d_Md_root_76 : decode b_Md_root 76 = .ok (.iload 6, 2) := by decide +kernel
theorem d_Md_root_78 : decode b_Md_root 78 = .ok (.invokevirtual 208, 3) := by decide +kernel
theorem d_Md_root_81 : decode b_Md_root 81 = .ok (.goto 195, 3) := by decide +kernel
theorem d_Md_root_84 : decode b_Md_root 84 = .ok (.aload_n 0, 1) := by decide +kernel
theorem d_Md_root_85 : decode b_Md_root 85 = .ok (.getfield 19, 3) := by decide +kernel
theorem d_Md_root_88 : decode b_Md_root 88 = .ok (.iload 6, 2) := by decide +kernel
theorem d_Md_root_90 : decode b_Md_root 90 = .ok (.iaload, 1) := by decide +kernel
theorem d_Md_root_91 : decode b_Md_root 91 = .ok (.iconst 3, 1) := by decide +kernel
theorem d_Md_root_92 : decode b_Md_root 92 = .ok (.if_icmp .ne 55, 3) := by decide +kernel
theorem d_Md_root_95 : decode b_Md_root 95 = .ok (.aload_n 0, 1) := by decide +kernel
theorem d_Md_root_96 : decode b_Md_root 96 = .ok (.getfield 66, 3) := by decide +kernel
theorem d_Md_root_99 : decode b_Md_root 99 = .ok (.iload 6, 2) := by decide +kernel
theorem d_Md_root_101 : decode b_Md_root 101 = .ok (.iaload, 1) := by decide +kernel
theorem d_Md_root_102 : decode b_Md_root 102 = .ok (.iload 7, 2) := by decide +kernel
theorem d_Md_root_104 : decode b_Md_root 104 = .ok (.if_icmp .ne 43, 3) := by decide +kernel
theorem d_Md_root_107 : decode b_Md_root 107 = .ok (.aload_n 0, 1) := by decide +kernel
theorem d_Md_root_108 : decode b_Md_root 108 = .ok (.iload 6, 2) := by decide +kernel
theorem d_Md_root_110 : decode b_Md_root 110 = .ok (.iconst 1, 1) := by decide +kernel
theorem d_Md_root_111 : decode b_Md_root 111 = .ok (.iadd, 1) := by decide +kernel
theorem d_Md_root_112 : decode b_Md_root 112 = .ok (.invokevirtual 162, 3) := by decide +kernel
theorem d_Md_root_115 : decode b_Md_root 115 = .ok (.ifCond .eq 32, 3) := by decide +kernel
theorem d_Md_root_118 : decode b_Md_root 118 = .ok (.aload_n 0, 1) := by decide +kernel
theorem d_Md_root_119 : decode b_Md_root 119 = .ok (.iload_n 2, 1) := by decide +kernel
theorem d_Md_root_120 : decode b_Md_root 120 = .ok (.iload_n 3, 1) := by decide +kernel
theorem d_Md_root_121 : decode b_Md_root 121 = .ok (.iadd, 1) := by decide +kernel
theorem d_Md_root_122 : decode b_Md_root 122 = .ok (.iconst 4, 1) := by decide +kernel
theorem d_Md_root_123 : decode b_Md_root 123 = .ok (.iload 6, 2) := by decide +kernel
theorem d_Md_root_125 : decode b_Md_root 125 = .ok (.iconst 1, 1) := by decide +kernel
theorem d_Md_root_126 : decode b_Md_root 126 = .ok (.iadd, 1) := by decide +kernel
theorem d_Md_root_127 : decode b_Md_root 127 = .ok (.invokevirtual 208, 3) := by decide +kernel
theorem d_Md_root_130 : decode b_Md_root 130 = .ok (.aload_n 0, 1) := by decide +kernel
theorem d_Md_root_131 : decode b_Md_root 131 = .ok (.iload 6, 2) := by decide +kernel
theorem d_Md_root_133 : decode b_Md_root 133 = .ok (.iconst 2, 1) := by decide +kernel
theorem d_Md_root_134 : decode b_Md_root 134 = .ok (.iadd, 1) := by decide +kernel
theorem d_Md_root_135 : decode b_Md_root 135 = .ok (.iload 7, 2) := by decide +kernel
theorem d_Md_root_137 : decode b_Md_root 137 = .ok (.iconst 1, 1) := by decide +kernel
theorem d_Md_root_138 : decode b_Md_root 138 = .ok (.isub, 1) := by decide +kernel
theorem d_Md_root_139 : decode b_Md_root 139 = .ok (.iload_n 3, 1) := by decide +kernel
theorem d_Md_root_140 : decode b_Md_root 140 = .ok (.iconst 0, 1) := by decide +kernel
theorem d_Md_root_141 : decode b_Md_root 141 = .ok (.invokevirtual 200, 3) := by decide +kernel
theorem d_Md_root_144 : decode b_Md_root 144 = .ok (.goto 132, 3) := by decide +kernel
theorem d_Md_root_147 : decode b_Md_root 147 = .ok (.aload_n 0, 1) := by decide +kernel
theorem d_Md_root_148 : decode b_Md_root 148 = .ok (.getfield 19, 3) := by decide +kernel
theorem d_Md_root_151 : decode b_Md_root 151 = .ok (.iload 6, 2) := by decide +kernel
theorem d_Md_root_153 : decode b_Md_root 153 = .ok (.iaload, 1) := by decide +kernel
theorem d_Md_root_154 : decode b_Md_root 154 = .ok (.iconst 3, 1) := by decide +kernel
theorem d_Md_root_155 : decode b_Md_root 155 = .ok (.if_icmp .ne 44, 3) := by decide +kernel
theorem d_Md_root_158 : decode b_Md_root 158 = .ok (.aload_n 0, 1) := by decide +kernel
theorem d_Md_root_159 : decode b_Md_root 159 = .ok (.getfield 66, 3) := by decide +kernel
theorem d_Md_root_162 : decode b_Md_root 162 = .ok (.iload 6, 2) := by decide +kernel
theorem d_Md_root_164 : decode b_Md_root 164 = .ok (.iaload, 1) := by decide +kernel
theorem d_Md_root_165 : decode b_Md_root 165 = .ok (.iload 7, 2) := by decide +kernel
theorem d_Md_root_167 : decode b_Md_root 167 = .ok (.if_icmp .ne 32, 3) := by decide +kernel
theorem d_Md_root_170 : decode b_Md_root 170 = .ok (.aload_n 0, 1) := by decide +kernel
theorem d_Md_root_171 : decode b_Md_root 171 = .ok (.iload_n 2, 1) := by decide +kernel
theorem d_Md_root_172 : decode b_Md_root 172 = .ok (.iload_n 3, 1) := by decide +kernel
theorem d_Md_root_173 : decode b_Md_root 173 = .ok (.iadd, 1) := by decide +kernel
theorem d_Md_root_174 : decode b_Md_root 174 = .ok (.iconst 3, 1) := by decide +kernel
theorem d_Md_root_175 : decode b_Md_root 175 = .ok (.iload 7, 2) := by decide +kernel
theorem d_Md_root_177 : decode b_Md_root 177 = .ok (.iconst 1, 1) := by decide +kernel
theorem d_Md_root_178 : decode b_Md_root 178 = .ok (.isub, 1) := by decide +kernel
theorem d_Md_root_179 : decode b_Md_root 179 = .ok (.invokevirtual 208, 3) := by decide +kernel
theorem d_Md_root_182 : decode b_Md_root 182 = .ok (.aload_n 0, 1) := by decide +kernel
theorem d_Md_root_183 : decode b_Md_root 183 = .ok (.iload 6, 2) := by decide +kernel
theorem d_Md_root_185 : decode b_Md_root 185 = .ok (.iconst 1, 1) := by decide +kernel
theorem d_Md_root_186 : decode b_Md_root 186 = .ok (.iadd, 1) := by decide +kernel
theorem d_Md_root_187 : decode b_Md_root 187 = .ok (.iload 7, 2) := by decide +kernel
theorem d_Md_root_189 : decode b_Md_root 189 = .ok (.iconst 2, 1) := by decide +kernel
theorem d_Md_root_190 : decode b_Md_root 190 = .ok (.isub, 1) := by decide +kernel
theorem d_Md_root_191 : decode b_Md_root 191 = .ok (.iload_n 3, 1) := by decide +kernel
theorem d_Md_root_192 : decode b_Md_root 192 = .ok (.iconst 0, 1) := by decide +kernel
theorem d_Md_root_193 : decode b_Md_root 193 = .ok (.invokevirtual 200, 3) := by decide +kernel
theorem d_Md_root_196 : decode b_Md_root 196 = .ok (.goto 80, 3) := by decide +kernel
theorem d_Md_root_199 : decode b_Md_root 199 = .ok (.aload_n 0, 1) := by decide +kernel
theorem d_Md_root_200 : decode b_Md_root 200 = .ok (.iload_n 1, 1) := by decide +kernel
theorem d_Md_root_201 : decode b_Md_root 201 = .ok (.iload 6, 2) := by decide +kernel
theorem d_Md_root_203 : decode b_Md_root 203 = .ok (.iload 7, 2) := by decide +kernel
theorem d_Md_root_205 : decode b_Md_root 205 = .ok (.invokevirtual 211, 3) := by decide +kernel
theorem d_Md_root_208 : decode b_Md_root 208 = .ok (.istore 8, 2) := by decide +kernel
theorem d_Md_root_210 : decode b_Md_root 210 = .ok (.aload_n 0, 1) := by decide +kernel
theorem d_Md_root_211 : decode b_Md_root 211 = .ok (.iload_n 2, 1) := by decide +kernel
theorem d_Md_root_212 : decode b_Md_root 212 = .ok (.iload_n 3, 1) := by decide +kernel
theorem d_Md_root_213 : decode b_Md_root 213 = .ok (.iadd, 1) := by decide +kernel
theorem d_Md_root_214 : decode b_Md_root 214 = .ok (.aload_n 0, 1) := by decide +kernel
theorem d_Md_root_215 : decode b_Md_root 215 = .ok (.getfield 19, 3) := by decide +kernel
theorem d_Md_root_218 : decode b_Md_root 218 = .ok (.iload 8, 2) := by decide +kernel
theorem d_Md_root_220 : decode b_Md_root 220 = .ok (.iaload, 1) := by decide +kernel
theorem d_Md_root_221 : decode b_Md_root 221 = .ok (.iload 8, 2) := by decide +kernel
theorem d_Md_root_223 : decode b_Md_root 223 = .ok (.invokevirtual 208, 3) := by decide +kernel
theorem d_Md_root_226 : decode b_Md_root 226 = .ok (.aload_n 0, 1) := by decide +kernel
theorem d_Md_root_227 : decode b_Md_root 227 = .ok (.getfield 19, 3) := by decide +kernel
theorem d_Md_root_230 : decode b_Md_root 230 = .ok (.iload 8, 2) := by decide +kernel
theorem d_Md_root_232 : decode b_Md_root 232 = .ok (.iaload, 1) := by decide +kernel
theorem d_Md_root_233 : decode b_Md_root 233 = .ok (.iconst 1, 1) := by decide +kernel
theorem d_Md_root_234 : decode b_Md_root 234 = .ok (.if_icmp .ne 30, 3) := by decide +kernel
theorem d_Md_root_237 : decode b_Md_root 237 = .ok (.aload_n 0, 1) := by decide +kernel
theorem d_Md_root_238 : decode b_Md_root 238 = .ok (.iload 8, 2) := by decide +kernel
theorem d_Md_root_240 : decode b_Md_root 240 = .ok (.iconst 1, 1) := by decide +kernel
theorem d_Md_root_241 : decode b_Md_root 241 = .ok (.iadd, 1) := by decide +kernel
theorem d_Md_root_242 : decode b_Md_root 242 = .ok (.iload 7, 2) := by decide +kernel
theorem d_Md_root_244 : decode b_Md_root 244 = .ok (.iload_n 3, 1) := by decide +kernel
theorem d_Md_root_245 : decode b_Md_root 245 = .ok (.iconst 1, 1) := by decide +kernel
theorem d_Md_root_246 : decode b_Md_root 246 = .ok (.invokevirtual 200, 3) := by decide +kernel
theorem d_Md_root_249 : decode b_Md_root 249 = .ok (.aload_n 0, 1) := by decide +kernel
theorem d_Md_root_250 : decode b_Md_root 250 = .ok (.iload 6, 2) := by decide +kernel
theorem d_Md_root_252 : decode b_Md_root 252 = .ok (.iload 8, 2) := by decide +kernel
theorem d_Md_root_254 : decode b_Md_root 254 = .ok (.iconst 1, 1) := by decide +kernel
theorem d_Md_root_255 : decode b_Md_root 255 = .ok (.isub, 1) := by decide +kernel
theorem d_Md_root_256 : decode b_Md_root 256 = .ok (.iload_n 3, 1) := by decide +kernel
theorem d_Md_root_257 : decode b_Md_root 257 = .ok (.iconst 0, 1) := by decide +kernel
theorem d_Md_root_258 : decode b_Md_root 258 = .ok (.invokevirtual 200, 3) := by decide +kernel
theorem d_Md_root_261 : decode b_Md_root 261 = .ok (.goto 15, 3) := by decide +kernel
theorem d_Md_root_264 : decode b_Md_root 264 = .ok (.aload_n 0, 1) := by decide +kernel
theorem d_Md_root_265 : decode b_Md_root 265 = .ok (.iload 8, 2) := by decide +kernel
theorem d_Md_root_267 : decode b_Md_root 267 = .ok (.iconst 1, 1) := by decide +kernel
theorem d_Md_root_268 : decode b_Md_root 268 = .ok (.iadd, 1) := by decide +kernel
theorem d_Md_root_269 : decode b_Md_root 269 = .ok (.iload 7, 2) := by decide +kernel
theorem d_Md_root_271 : decode b_Md_root 271 = .ok (.iload_n 3, 1) := by decide +kernel
theorem d_Md_root_272 : decode b_Md_root 272 = .ok (.iconst 0, 1) := by decide +kernel
theorem d_Md_root_273 : decode b_Md_root 273 = .ok (.invokevirtual 200, 3) := by decide +kernel
theorem d_Md_root_276 : decode b_Md_root 276 = .ok (.return_, 1) := by decide +kernel
theorem hg_Md_root : fx_mw fx_g "FixityTreesModel" y_Md_root b_Md_root 9 none := ⟨fx_in 1206 (by decide +kernel) (by decide +kernel), fx_inp 61 (by decide +kernel) (by decide +kernel), fx_in 9 (by decide +kernel) (by decide +kernel), fx_in 1207 (by decide +kernel) (by decide +kernel)⟩
abbrev b_Md_grow : ByteArray := prog_10_method_31_code
abbrev y_Md_grow : MethodName := ⟨"FixityTreesModel", "grow", "(II)I"⟩
theorem d_Md_grow_0 : decode b_Md_grow 0 = .ok (.iconst 0, 1) := by decide +kernel
theorem d_Md_grow_1 : decode b_Md_grow 1 = .ok (.istore_n 3, 1) := by decide +kernel
theorem d_Md_grow_2 : decode b_Md_grow 2 = .ok (.aload_n 0, 1) := by decide +kernel
theorem d_Md_grow_3 : decode b_Md_grow 3 = .ok (.iconst 0, 1) := by decide +kernel
theorem d_Md_grow_4 : decode b_Md_grow 4 = .ok (.putfield 197, 3) := by decide +kernel
theorem d_Md_grow_7 : decode b_Md_grow 7 = .ok (.aload_n 0, 1) := by decide +kernel
theorem d_Md_grow_8 : decode b_Md_grow 8 = .ok (.iconst 0, 1) := by decide +kernel
theorem d_Md_grow_9 : decode b_Md_grow 9 = .ok (.aload_n 0, 1) := by decide +kernel
theorem d_Md_grow_10 : decode b_Md_grow 10 = .ok (.getfield 140, 3) := by decide +kernel
theorem d_Md_grow_13 : decode b_Md_grow 13 = .ok (.iconst 1, 1) := by decide +kernel
theorem d_Md_grow_14 : decode b_Md_grow 14 = .ok (.isub, 1) := by decide +kernel
theorem d_Md_grow_15 : decode b_Md_grow 15 = .ok (.iconst (-1), 1) := by decide +kernel
theorem d_Md_grow_16 : decode b_Md_grow 16 = .ok (.iconst 0, 1) := by decide +kernel
theorem d_Md_grow_17 : decode b_Md_grow 17 = .ok (.invokevirtual 200, 3) := by decide +kernel
theorem d_Md_grow_20 : decode b_Md_grow 20 = .ok (.aload_n 0, 1) := by decide +kernel
theorem d_Md_grow_21 : decode b_Md_grow 21 = .ok (.getfield 197, 3) := by decide +kernel
theorem d_Md_grow_24 : decode b_Md_grow 24 = .ok (.ifCond .le 161, 3) := by decide +kernel
theorem d_Md_grow_27 : decode b_Md_grow 27 = .ok (.aload_n 0, 1) := by decide +kernel
theorem d_Md_grow_28 : decode b_Md_grow 28 = .ok (.dup, 1) := by decide +kernel
theorem d_Md_grow_29 : decode b_Md_grow 29 = .ok (.getfield 197, 3) := by decide +kernel
theorem d_Md_grow_32 : decode b_Md_grow 32 = .ok (.iconst 1, 1) := by decide +kernel
theorem d_Md_grow_33 : decode b_Md_grow 33 = .ok (.isub, 1) := by decide +kernel
theorem d_Md_grow_34 : decode b_Md_grow 34 = .ok (.putfield 197, 3) := by decide +kernel
theorem d_Md_grow_37 : decode b_Md_grow 37 = .ok (.aload_n 0, 1) := by decide +kernel
theorem d_Md_grow_38 : decode b_Md_grow 38 = .ok (.getfield 76, 3) := by decide +kernel
theorem d_Md_grow_41 : decode b_Md_grow 41 = .ok (.aload_n 0, 1) := by decide +kernel
theorem d_Md_grow_42 : decode b_Md_grow 42 = .ok (.getfield 197, 3) := by decide +kernel
theorem d_Md_grow_45 : decode b_Md_grow 45 = .ok (.iaload, 1) := by decide +kernel
theorem d_Md_grow_46 : decode b_Md_grow 46 = .ok (.istore 4, 2) := by decide +kernel
theorem d_Md_grow_48 : decode b_Md_grow 48 = .ok (.aload_n 0, 1) := by decide +kernel
theorem d_Md_grow_49 : decode b_Md_grow 49 = .ok (.getfield 79, 3) := by decide +kernel
theorem d_Md_grow_52 : decode b_Md_grow 52 = .ok (.aload_n 0, 1) := by decide +kernel
theorem d_Md_grow_53 : decode b_Md_grow 53 = .ok (.getfield 197, 3) := by decide +kernel
theorem d_Md_grow_56 : decode b_Md_grow 56 = .ok (.iaload, 1) := by decide +kernel
theorem d_Md_grow_57 : decode b_Md_grow 57 = .ok (.istore 5, 2) := by decide +kernel
theorem d_Md_grow_59 : decode b_Md_grow 59 = .ok (.aload_n 0, 1) := by decide +kernel
theorem d_Md_grow_60 : decode b_Md_grow 60 = .ok (.getfield 82, 3) := by decide +kernel
theorem d_Md_grow_63 : decode b_Md_grow 63 = .ok (.aload_n 0, 1) := by decide +kernel
theorem d_Md_grow_64 : decode b_Md_grow 64 = .ok (.getfield 197, 3) := by decide +kernel
theorem d_Md_grow_67 : decode b_Md_grow 67 = .ok (.iaload, 1) := by decide +kernel
theorem d_Md_grow_68 : decode b_Md_grow 68 = .ok (.istore 6, 2) := by decide +kernel
theorem d_Md_grow_70 : decode b_Md_grow 70 = .ok (.aload_n 0, 1) := by decide +kernel
theorem d_Md_grow_71 : decode b_Md_grow 71 = .ok (.getfield 85, 3) := by decide +kernel
theorem d_Md_grow_74 : decode b_Md_grow 74 = .ok (.aload_n 0, 1) := by decide +kernel
theorem d_Md_grow_75 : decode b_Md_grow 75 = .ok (.getfield 197, 3) := by decide +kernel
theorem d_Md_grow_78 : decode b_Md_grow 78 = .ok (.iaload, 1) := by decide +kernel
theorem d_Md_grow_79 : decode b_Md_grow 79 = .ok (.istore 7, 2) := by decide +kernel
theorem d_Md_grow_81 : decode b_Md_grow 81 = .ok (.aload_n 0, 1) := by decide +kernel
theorem d_Md_grow_82 : decode b_Md_grow 82 = .ok (.getfield 38, 3) := by decide +kernel
theorem d_Md_grow_85 : decode b_Md_grow 85 = .ok (.iload_n 2, 1) := by decide +kernel
theorem d_Md_grow_86 : decode b_Md_grow 86 = .ok (.iload_n 3, 1) := by decide +kernel
theorem d_Md_grow_87 : decode b_Md_grow 87 = .ok (.iadd, 1) := by decide +kernel
theorem d_Md_grow_88 : decode b_Md_grow 88 = .ok (.iconst (-1), 1) := by decide +kernel
theorem d_Md_grow_89 : decode b_Md_grow 89 = .ok (.iastore, 1) := by decide +kernel
theorem d_Md_grow_90 : decode b_Md_grow 90 = .ok (.aload_n 0, 1) := by decide +kernel
theorem d_Md_grow_91 : decode b_Md_grow 91 = .ok (.getfield 41, 3) := by decide +kernel
theorem d_Md_grow_94 : decode b_Md_grow 94 = .ok (.iload_n 2, 1) := by decide +kernel
theorem d_Md_grow_95 : decode b_Md_grow 95 = .ok (.iload_n 3, 1) := by decide +kernel
theorem d_Md_grow_96 : decode b_Md_grow 96 = .ok (.iadd, 1) := by decide +kernel
theorem d_Md_grow_97 : decode b_Md_grow 97 = .ok (.iconst (-1), 1) := by decide +kernel
theorem d_Md_grow_98 : decode b_Md_grow 98 = .ok (.iastore, 1) := by decide +kernel
theorem d_Md_grow_99 : decode b_Md_grow 99 = .ok (.aload_n 0, 1) := by decide +kernel
theorem d_Md_grow_100 : decode b_Md_grow 100 = .ok (.getfield 47, 3) := by decide +kernel
theorem d_Md_grow_103 : decode b_Md_grow 103 = .ok (.iload_n 2, 1) := by decide +kernel
theorem d_Md_grow_104 : decode b_Md_grow 104 = .ok (.iload_n 3, 1) := by decide +kernel
theorem d_Md_grow_105 : decode b_Md_grow 105 = .ok (.iadd, 1) := by decide +kernel
theorem d_Md_grow_106 : decode b_Md_grow 106 = .ok (.iload 6, 2) := by decide +kernel
theorem d_Md_grow_108 : decode b_Md_grow 108 = .ok (.iconst (-1), 1) := by decide +kernel
theorem d_Md_grow_109 : decode b_Md_grow 109 = .ok (.if_icmp .ne 7, 3) := by decide +kernel
theorem d_Md_grow_112 : decode b_Md_grow 112 = .ok (.iconst 1, 1) := by decide +kernel
theorem d_Md_grow_113 : decode b_Md_grow 113 = .ok (.goto 14, 3) := by decide +kernel
theorem d_Md_grow_116 : decode b_Md_grow 116 = .ok (.aload_n 0, 1) := by decide +kernel
theorem d_Md_grow_117 : decode b_Md_grow 117 = .ok (.getfield 47, 3) := by decide +kernel
theorem d_Md_grow_120 : decode b_Md_grow 120 = .ok (.iload_n 2, 1) := by decide +kernel
theorem d_Md_grow_121 : decode b_Md_grow 121 = .ok (.iload 6, 2) := by decide +kernel
theorem d_Md_grow_123 : decode b_Md_grow 123 = .ok (.iadd, 1) := by decide +kernel
theorem d_Md_grow_124 : decode b_Md_grow 124 = .ok (.iaload, 1) := by decide +kernel
theorem d_Md_grow_125 : decode b_Md_grow 125 = .ok (.iconst 1, 1) := by decide +kernel
theorem d_Md_grow_126 : decode b_Md_grow 126 = .ok (.iadd, 1) := by decide +kernel
theorem d_Md_grow_127 : decode b_Md_grow 127 = .ok (.iastore, 1) := by decide +kernel
theorem d_Md_grow_128 : decode b_Md_grow 128 = .ok (.iload 6, 2) := by decide +kernel
theorem d_Md_grow_130 : decode b_Md_grow 130 = .ok (.iconst (-1), 1) := by decide +kernel
theorem d_Md_grow_131 : decode b_Md_grow 131 = .ok (.if_icmp .eq 21, 3) := by decide +kernel
theorem d_Md_grow_134 : decode b_Md_grow 134 = .ok (.iload 7, 2) := by decide +kernel
theorem d_Md_grow_136 : decode b_Md_grow 136 = .ok (.ifCond .ne 16, 3) := by decide +kernel
theorem d_Md_grow_139 : decode b_Md_grow 139 = .ok (.aload_n 0, 1) := by decide +kernel
theorem d_Md_grow_140 : decode b_Md_grow 140 = .ok (.getfield 38, 3) := by decide +kernel
theorem d_Md_grow_143 : decode b_Md_grow 143 = .ok (.iload_n 2, 1) := by decide +kernel
theorem d_Md_grow_144 : decode b_Md_grow 144 = .ok (.iload 6, 2) := by decide +kernel
theorem d_Md_grow_146 : decode b_Md_grow 146 = .ok (.iadd, 1) := by decide +kernel
theorem d_Md_grow_147 : decode b_Md_grow 147 = .ok (.iload_n 3, 1) := by decide +kernel
theorem d_Md_grow_148 : decode b_Md_grow 148 = .ok (.iastore, 1) := by decide +kernel
theorem d_Md_grow_149 : decode b_Md_grow 149 = .ok (.goto 19, 3) := by decide +kernel
theorem d_Md_grow_152 : decode b_Md_grow 152 = .ok (.iload 6, 2) := by decide +kernel
theorem d_Md_grow_154 : decode b_Md_grow 154 = .ok (.iconst (-1), 1) := by decide +kernel
theorem d_Md_grow_155 : decode b_Md_grow 155 = .ok (.if_icmp .eq 13, 3) := by decide +kernel
theorem d_Md_grow_158 : decode b_Md_grow 158 = .ok (.aload_n 0, 1) := by decide +kernel
theorem d_Md_grow_159 : decode b_Md_grow 159 = .ok (.getfield 41, 3) := by decide +kernel
theorem d_Md_grow_162 : decode b_Md_grow 162 = .ok (.iload_n 2, 1) := by decide +kernel
theorem d_Md_grow_163 : decode b_Md_grow 163 = .ok (.iload 6, 2) := by decide +kernel
theorem d_Md_grow_165 : decode b_Md_grow 165 = .ok (.iadd, 1) := by decide +kernel
theorem d_Md_grow_166 : decode b_Md_grow 166 = .ok (.iload_n 3, 1) := by decide +kernel
theorem d_Md_grow_167 : decode b_Md_grow 167 = .ok (.iastore, 1) := by decide +kernel
theorem d_Md_grow_168 : decode b_Md_grow 168 = .ok (.aload_n 0, 1) := by decide +kernel
theorem d_Md_grow_169 : decode b_Md_grow 169 = .ok (.iload_n 1, 1) := by decide +kernel
theorem d_Md_grow_170 : decode b_Md_grow 170 = .ok (.iload_n 2, 1) := by decide +kernel
theorem d_Md_grow_171 : decode b_Md_grow 171 = .ok (.iload_n 3, 1) := by decide +kernel
theorem d_Md_grow_172 : decode b_Md_grow 172 = .ok (.iload 4, 2) := by decide +kernel
theorem d_Md_grow_174 : decode b_Md_grow 174 = .ok (.iload 5, 2) := by decide +kernel
theorem d_Md_grow_176 : decode b_Md_grow 176 = .ok (.invokevirtual 204, 3) := by decide +kernel
theorem d_Md_grow_179 : decode b_Md_grow 179 = .ok (.iinc 3 1, 3) := by decide +kernel
theorem d_Md_grow_182 : decode b_Md_grow 182 = .ok (.goto (-162), 3) := by decide +kernel
theorem d_Md_grow_185 : decode b_Md_grow 185 = .ok (.iload_n 3, 1) := by decide +kernel
theorem d_Md_grow_186 : decode b_Md_grow 186 = .ok (.ireturn, 1) := by decide +kernel
theorem hg_Md_grow : fx_mw fx_g "FixityTreesModel" y_Md_grow b_Md_grow 8 (some .int) := ⟨fx_in 1198 (by decide +kernel) (by decide +kernel), fx_inp 59 (by decide +kernel) (by decide +kernel), fx_in 9 (by decide +kernel) (by decide +kernel), fx_in 1199 (by decide +kernel) (by decide +kernel)⟩
abbrev b_Md_resolve : ByteArray := prog_10_method_36_code
abbrev y_Md_resolve : MethodName := ⟨"FixityTreesModel", "resolve", "(I)I"⟩
theorem d_Md_resolve_0 : decode b_Md_resolve 0 = .ok (.aload_n 0, 1) := by decide +kernel
theorem d_Md_resolve_1 : decode b_Md_resolve 1 = .ok (.aload_n 0, 1) := by decide +kernel
theorem d_Md_resolve_2 : decode b_Md_resolve 2 = .ok (.iload_n 1, 1) := by decide +kernel
theorem d_Md_resolve_3 : decode b_Md_resolve 3 = .ok (.invokevirtual 215, 3) := by decide +kernel
theorem d_Md_resolve_6 : decode b_Md_resolve 6 = .ok (.invokevirtual 124, 3) := by decide +kernel
theorem d_Md_resolve_9 : decode b_Md_resolve 9 = .ok (.ifCond .ne 5, 3) := by decide +kernel
theorem d_Md_resolve_12 : decode b_Md_resolve 12 = .ok (.iconst 0, 1) := by decide +kernel
theorem d_Md_resolve_13 : decode b_Md_resolve 13 = .ok (.ireturn, 1) := by decide +kernel
theorem d_Md_resolve_14 : decode b_Md_resolve 14 = .ok (.aload_n 0, 1) := by decide +kernel
theorem d_Md_resolve_15 : decode b_Md_resolve 15 = .ok (.iload_n 1, 1) := by decide +kernel
theorem d_Md_resolve_16 : decode b_Md_resolve 16 = .ok (.invokevirtual 219, 3) := by decide +kernel
theorem d_Md_resolve_19 : decode b_Md_resolve 19 = .ok (.istore_n 2, 1) := by decide +kernel
theorem d_Md_resolve_20 : decode b_Md_resolve 20 = .ok (.aload_n 0, 1) := by decide +kernel
theorem d_Md_resolve_21 : decode b_Md_resolve 21 = .ok (.aload_n 0, 1) := by decide +kernel
theorem d_Md_resolve_22 : decode b_Md_resolve 22 = .ok (.getfield 165, 3) := by decide +kernel
theorem d_Md_resolve_25 : decode b_Md_resolve 25 = .ok (.putfield 53, 3) := by decide +kernel
theorem d_Md_resolve_28 : decode b_Md_resolve 28 = .ok (.aload_n 0, 1) := by decide +kernel
theorem d_Md_resolve_29 : decode b_Md_resolve 29 = .ok (.aload_n 0, 1) := by decide +kernel
theorem d_Md_resolve_30 : decode b_Md_resolve 30 = .ok (.getfield 168, 3) := by decide +kernel
theorem d_Md_resolve_33 : decode b_Md_resolve 33 = .ok (.putfield 57, 3) := by decide +kernel
theorem d_Md_resolve_36 : decode b_Md_resolve 36 = .ok (.aload_n 0, 1) := by decide +kernel
theorem d_Md_resolve_37 : decode b_Md_resolve 37 = .ok (.aload_n 0, 1) := by decide +kernel
theorem d_Md_resolve_38 : decode b_Md_resolve 38 = .ok (.getfield 171, 3) := by decide +kernel
theorem d_Md_resolve_41 : decode b_Md_resolve 41 = .ok (.putfield 60, 3) := by decide +kernel
theorem d_Md_resolve_44 : decode b_Md_resolve 44 = .ok (.iload_n 2, 1) := by decide +kernel
theorem d_Md_resolve_45 : decode b_Md_resolve 45 = .ok (.ifCond .ne 10, 3) := by decide +kernel
theorem d_Md_resolve_48 : decode b_Md_resolve 48 = .ok (.aload_n 0, 1) := by decide +kernel
theorem d_Md_resolve_49 : decode b_Md_resolve 49 = .ok (.iconst 0, 1) := by decide +kernel
theorem d_Md_resolve_50 : decode b_Md_resolve 50 = .ok (.putfield 222, 3) := by decide +kernel
theorem d_Md_resolve_53 : decode b_Md_resolve 53 = .ok (.iconst (-1), 1) := by decide +kernel
theorem d_Md_resolve_54 : decode b_Md_resolve 54 = .ok (.ireturn, 1) := by decide +kernel
theorem d_Md_resolve_55 : decode b_Md_resolve 55 = .ok (.aload_n 0, 1) := by decide +kernel
theorem d_Md_resolve_56 : decode b_Md_resolve 56 = .ok (.aload_n 0, 1) := by decide +kernel
theorem d_Md_resolve_57 : decode b_Md_resolve 57 = .ok (.getfield 177, 3) := by decide +kernel
theorem d_Md_resolve_60 : decode b_Md_resolve 60 = .ok (.putfield 225, 3) := by decide +kernel
theorem d_Md_resolve_63 : decode b_Md_resolve 63 = .ok (.aload_n 0, 1) := by decide +kernel
theorem d_Md_resolve_64 : decode b_Md_resolve 64 = .ok (.aload_n 0, 1) := by decide +kernel
theorem d_Md_resolve_65 : decode b_Md_resolve 65 = .ok (.iload_n 1, 1) := by decide +kernel
theorem d_Md_resolve_66 : decode b_Md_resolve 66 = .ok (.iconst 0, 1) := by decide +kernel
theorem d_Md_resolve_67 : decode b_Md_resolve 67 = .ok (.invokevirtual 228, 3) := by decide +kernel
theorem d_Md_resolve_70 : decode b_Md_resolve 70 = .ok (.putfield 222, 3) := by decide +kernel
theorem d_Md_resolve_73 : decode b_Md_resolve 73 = .ok (.aload_n 0, 1) := by decide +kernel
theorem d_Md_resolve_74 : decode b_Md_resolve 74 = .ok (.iconst 0, 1) := by decide +kernel
theorem d_Md_resolve_75 : decode b_Md_resolve 75 = .ok (.putfield 231, 3) := by decide +kernel
theorem d_Md_resolve_78 : decode b_Md_resolve 78 = .ok (.iconst 0, 1) := by decide +kernel
theorem d_Md_resolve_79 : decode b_Md_resolve 79 = .ok (.istore_n 3, 1) := by decide +kernel
theorem d_Md_resolve_80 : decode b_Md_resolve 80 = .ok (.iload_n 3, 1) := by decide +kernel
theorem d_Md_resolve_81 : decode b_Md_resolve 81 = .ok (.aload_n 0, 1) := by decide +kernel
theorem d_Md_resolve_82 : decode b_Md_resolve 82 = .ok (.getfield 222, 3) := by decide +kernel
theorem d_Md_resolve_85 : decode b_Md_resolve 85 = .ok (.if_icmp .ge 39, 3) := by decide +kernel
theorem d_Md_resolve_88 : decode b_Md_resolve 88 = .ok (.aload_n 0, 1) := by decide +kernel
theorem d_Md_resolve_89 : decode b_Md_resolve 89 = .ok (.aload_n 0, 1) := by decide +kernel
theorem d_Md_resolve_90 : decode b_Md_resolve 90 = .ok (.getfield 47, 3) := by decide +kernel
theorem d_Md_resolve_93 : decode b_Md_resolve 93 = .ok (.iload_n 3, 1) := by decide +kernel
theorem d_Md_resolve_94 : decode b_Md_resolve 94 = .ok (.iaload, 1) := by decide +kernel
theorem d_Md_resolve_95 : decode b_Md_resolve 95 = .ok (.aload_n 0, 1) := by decide +kernel
theorem d_Md_resolve_96 : decode b_Md_resolve 96 = .ok (.getfield 231, 3) := by decide +kernel
theorem d_Md_resolve_99 : decode b_Md_resolve 99 = .ok (.if_icmp .le 12, 3) := by decide +kernel
theorem d_Md_resolve_102 : decode b_Md_resolve 102 = .ok (.aload_n 0, 1) := by decide +kernel
theorem d_Md_resolve_103 : decode b_Md_resolve 103 = .ok (.getfield 47, 3) := by decide +kernel
theorem d_Md_resolve_106 : decode b_Md_resolve 106 = .ok (.iload_n 3, 1) := by decide +kernel
theorem d_Md_resolve_107 : decode b_Md_resolve 107 = .ok (.iaload, 1) := by decide +kernel
theorem d_Md_resolve_108 : decode b_Md_resolve 108 = .ok (.goto 7, 3) := by decide +kernel
theorem d_Md_resolve_111 : decode b_Md_resolve 111 = .ok (.aload_n 0, 1) := by decide +kernel
theorem d_Md_resolve_112 : decode b_Md_resolve 112 = .ok (.getfield 231, 3) := by decide +kernel
theorem d_Md_resolve_115 : decode b_Md_resolve 115 = .ok (.putfield 231, 3) := by decide +kernel
theorem d_Md_resolve_118 : decode b_Md_resolve 118 = .ok (.iinc 3 1, 3) := by decide +kernel
theorem d_Md_resolve_121 : decode b_Md_resolve 121 = .ok (.goto (-41), 3) := by decide +kernel
theorem d_Md_resolve_124 : decode b_Md_resolve 124 = .ok (.aload_n 0, 1) := by decide +kernel
theorem d_Md_resolve_125 : decode b_Md_resolve 125 = .ok (.getfield 222, 3) := by decide +kernel
theorem d_Md_resolve_128 : decode b_Md_resolve 128 = .ok (.ireturn, 1) := by decide +kernel
theorem hg_Md_resolve : fx_mw fx_g "FixityTreesModel" y_Md_resolve b_Md_resolve 4 (some .int) := ⟨fx_in 1161 (by decide +kernel) (by decide +kernel), fx_in 1162 (by decide +kernel) (by decide +kernel), fx_in 9 (by decide +kernel) (by decide +kernel), fx_in 1163 (by decide +kernel) (by decide +kernel)⟩
abbrev b_Md_clash : ByteArray := prog_10_method_37_code
abbrev y_Md_clash : MethodName := ⟨"FixityTreesModel", "clash", "(I)I"⟩
theorem d_Md_clash_0 : decode b_Md_clash 0 = .ok (.aload_n 0, 1) := by decide +kernel
theorem d_Md_clash_1 : decode b_Md_clash 1 = .ok (.iload_n 1, 1) := by decide +kernel
theorem d_Md_clash_2 : decode b_Md_clash 2 = .ok (.iconst 0, 1) := by decide +kernel
theorem d_Md_clash_3 : decode b_Md_clash 3 = .ok (.iconst 2, 1) := by decide +kernel
theorem d_Md_clash_4 : decode b_Md_clash 4 = .ok (.invokestatic 116, 3) := by decide +kernel
theorem d_Md_clash_7 : decode b_Md_clash 7 = .ok (.ifCond .eq 7, 3) := by decide +kernel
theorem d_Md_clash_10 : decode b_Md_clash 10 = .ok (.iconst 0, 1) := by decide +kernel
theorem d_Md_clash_11 : decode b_Md_clash 11 = .ok (.goto 4, 3) := by decide +kernel
theorem d_Md_clash_14 : decode b_Md_clash 14 = .ok (.iconst 1, 1) := by decide +kernel
theorem d_Md_clash_15 : decode b_Md_clash 15 = .ok (.invokevirtual 124, 3) := by decide +kernel
theorem d_Md_clash_18 : decode b_Md_clash 18 = .ok (.ifCond .ne 5, 3) := by decide +kernel
theorem d_Md_clash_21 : decode b_Md_clash 21 = .ok (.iconst 0, 1) := by decide +kernel
theorem d_Md_clash_22 : decode b_Md_clash 22 = .ok (.ireturn, 1) := by decide +kernel
theorem d_Md_clash_23 : decode b_Md_clash 23 = .ok (.iload_n 1, 1) := by decide +kernel
theorem d_Md_clash_24 : decode b_Md_clash 24 = .ok (.ifCond .ne 10, 3) := by decide +kernel
theorem d_Md_clash_27 : decode b_Md_clash 27 = .ok (.aload_n 0, 1) := by decide +kernel
theorem d_Md_clash_28 : decode b_Md_clash 28 = .ok (.getfield 53, 3) := by decide +kernel
theorem d_Md_clash_31 : decode b_Md_clash 31 = .ok (.goto 19, 3) := by decide +kernel
theorem d_Md_clash_34 : decode b_Md_clash 34 = .ok (.iload_n 1, 1) := by decide +kernel
theorem d_Md_clash_35 : decode b_Md_clash 35 = .ok (.iconst 1, 1) := by decide +kernel
theorem d_Md_clash_36 : decode b_Md_clash 36 = .ok (.if_icmp .ne 10, 3) := by decide +kernel
theorem d_Md_clash_39 : decode b_Md_clash 39 = .ok (.aload_n 0, 1) := by decide +kernel
theorem d_Md_clash_40 : decode b_Md_clash 40 = .ok (.getfield 57, 3) := by decide +kernel
theorem d_Md_clash_43 : decode b_Md_clash 43 = .ok (.goto 7, 3) := by decide +kernel
theorem d_Md_clash_46 : decode b_Md_clash 46 = .ok (.aload_n 0, 1) := by decide +kernel
theorem d_Md_clash_47 : decode b_Md_clash 47 = .ok (.getfield 60, 3) := by decide +kernel
theorem d_Md_clash_50 : decode b_Md_clash 50 = .ok (.ireturn, 1) := by decide +kernel
theorem hg_Md_clash : fx_mw fx_g "FixityTreesModel" y_Md_clash b_Md_clash 2 (some .int) := ⟨fx_in 1217 (by decide +kernel) (by decide +kernel), fx_in 1218 (by decide +kernel) (by decide +kernel), fx_in 9 (by decide +kernel) (by decide +kernel), fx_in 1219 (by decide +kernel) (by decide +kernel)⟩
abbrev b_Md_node : ByteArray := prog_10_method_38_code
abbrev y_Md_node : MethodName := ⟨"FixityTreesModel", "node", "(II)I"⟩
theorem d_Md_node_0 : decode b_Md_node 0 = .ok (.aload_n 0, 1) := by decide +kernel
theorem d_Md_node_1 : decode b_Md_node 1 = .ok (.iload_n 1, 1) := by decide +kernel
theorem d_Md_node_2 : decode b_Md_node 2 = .ok (.iconst 0, 1) := by decide +kernel
theorem d_Md_node_3 : decode b_Md_node 3 = .ok (.aload_n 0, 1) := by decide +kernel
theorem d_Md_node_4 : decode b_Md_node 4 = .ok (.getfield 222, 3) := by decide +kernel
theorem d_Md_node_7 : decode b_Md_node 7 = .ok (.iconst 1, 1) := by decide +kernel
theorem d_Md_node_8 : decode b_Md_node 8 = .ok (.isub, 1) := by decide +kernel
theorem d_Md_node_9 : decode b_Md_node 9 = .ok (.invokestatic 116, 3) := by decide +kernel
theorem d_Md_node_12 : decode b_Md_node 12 = .ok (.ifCond .ne 7, 3) := by decide +kernel
theorem d_Md_node_15 : decode b_Md_node 15 = .ok (.iconst 1, 1) := by decide +kernel
theorem d_Md_node_16 : decode b_Md_node 16 = .ok (.goto 17, 3) := by decide +kernel
theorem d_Md_node_19 : decode b_Md_node 19 = .ok (.iload_n 2, 1) := by decide +kernel
theorem d_Md_node_20 : decode b_Md_node 20 = .ok (.iconst 0, 1) := by decide +kernel
theorem d_Md_node_21 : decode b_Md_node 21 = .ok (.iconst 4, 1) := by decide +kernel
theorem d_Md_node_22 : decode b_Md_node 22 = .ok (.invokestatic 116, 3) := by decide +kernel
theorem d_Md_node_25 : decode b_Md_node 25 = .ok (.ifCond .ne 7, 3) := by decide +kernel
theorem d_Md_node_28 : decode b_Md_node 28 = .ok (.iconst 2, 1) := by decide +kernel
theorem d_Md_node_29 : decode b_Md_node 29 = .ok (.goto 4, 3) := by decide +kernel
theorem d_Md_node_32 : decode b_Md_node 32 = .ok (.iconst 0, 1) := by decide +kernel
theorem d_Md_node_33 : decode b_Md_node 33 = .ok (.invokevirtual 124, 3) := by decide +kernel
theorem d_Md_node_36 : decode b_Md_node 36 = .ok (.ifCond .ne 5, 3) := by decide +kernel
theorem d_Md_node_39 : decode b_Md_node 39 = .ok (.iconst 0, 1) := by decide +kernel
theorem d_Md_node_40 : decode b_Md_node 40 = .ok (.ireturn, 1) := by decide +kernel
theorem d_Md_node_41 : decode b_Md_node 41 = .ok (.iload_n 2, 1) := by decide +kernel
theorem d_Md_node_42 : decode b_Md_node 42 = .ok (.tableswitch 58 0 3 #[30, 37, 44, 51], 30) := by decide +kernel
theorem d_Md_node_72 : decode b_Md_node 72 = .ok (.aload_n 0, 1) := by decide +kernel
theorem d_Md_node_73 : decode b_Md_node 73 = .ok (.getfield 32, 3) := by decide +kernel
theorem d_Md_node_76 : decode b_Md_node 76 = .ok (.iload_n 1, 1) := by decide +kernel
theorem d_Md_node_77 : decode b_Md_node 77 = .ok (.iaload, 1) := by decide +kernel
theorem d_Md_node_78 : decode b_Md_node 78 = .ok (.ireturn, 1) := by decide +kernel
theorem d_Md_node_79 : decode b_Md_node 79 = .ok (.aload_n 0, 1) := by decide +kernel
theorem d_Md_node_80 : decode b_Md_node 80 = .ok (.getfield 35, 3) := by decide +kernel
theorem d_Md_node_83 : decode b_Md_node 83 = .ok (.iload_n 1, 1) := by decide +kernel
theorem d_Md_node_84 : decode b_Md_node 84 = .ok (.iaload, 1) := by decide +kernel
theorem d_Md_node_85 : decode b_Md_node 85 = .ok (.ireturn, 1) := by decide +kernel
theorem d_Md_node_86 : decode b_Md_node 86 = .ok (.aload_n 0, 1) := by decide +kernel
theorem d_Md_node_87 : decode b_Md_node 87 = .ok (.getfield 38, 3) := by decide +kernel
theorem d_Md_node_90 : decode b_Md_node 90 = .ok (.iload_n 1, 1) := by decide +kernel
theorem d_Md_node_91 : decode b_Md_node 91 = .ok (.iaload, 1) := by decide +kernel
theorem d_Md_node_92 : decode b_Md_node 92 = .ok (.ireturn, 1) := by decide +kernel
theorem d_Md_node_93 : decode b_Md_node 93 = .ok (.aload_n 0, 1) := by decide +kernel
theorem d_Md_node_94 : decode b_Md_node 94 = .ok (.getfield 41, 3) := by decide +kernel
theorem d_Md_node_97 : decode b_Md_node 97 = .ok (.iload_n 1, 1) := by decide +kernel
theorem d_Md_node_98 : decode b_Md_node 98 = .ok (.iaload, 1) := by decide +kernel
theorem d_Md_node_99 : decode b_Md_node 99 = .ok (.ireturn, 1) := by decide +kernel
theorem d_Md_node_100 : decode b_Md_node 100 = .ok (.aload_n 0, 1) := by decide +kernel
theorem d_Md_node_101 : decode b_Md_node 101 = .ok (.getfield 44, 3) := by decide +kernel
theorem d_Md_node_104 : decode b_Md_node 104 = .ok (.iload_n 1, 1) := by decide +kernel
theorem d_Md_node_105 : decode b_Md_node 105 = .ok (.iaload, 1) := by decide +kernel
theorem d_Md_node_106 : decode b_Md_node 106 = .ok (.ireturn, 1) := by decide +kernel
theorem hg_Md_node : fx_mw fx_g "FixityTreesModel" y_Md_node b_Md_node 3 (some .int) := ⟨fx_in 1221 (by decide +kernel) (by decide +kernel), fx_in 1222 (by decide +kernel) (by decide +kernel), fx_in 9 (by decide +kernel) (by decide +kernel), fx_in 1223 (by decide +kernel) (by decide +kernel)⟩
abbrev b_Md_number : ByteArray := prog_10_method_39_code
abbrev y_Md_number : MethodName := ⟨"FixityTreesModel", "number", "(I)J"⟩
theorem d_Md_number_0 : decode b_Md_number 0 = .ok (.iload_n 1, 1) := by decide +kernel
theorem d_Md_number_1 : decode b_Md_number 1 = .ok (.iconst 0, 1) := by decide +kernel
theorem d_Md_number_2 : decode b_Md_number 2 = .ok (.aload_n 0, 1) := by decide +kernel
theorem d_Md_number_3 : decode b_Md_number 3 = .ok (.getfield 222, 3) := by decide +kernel
theorem d_Md_number_6 : decode b_Md_number 6 = .ok (.iconst 1, 1) := by decide +kernel
theorem d_Md_number_7 : decode b_Md_number 7 = .ok (.isub, 1) := by decide +kernel
theorem d_Md_number_8 : decode b_Md_number 8 = .ok (.invokestatic 116, 3) := by decide +kernel
theorem d_Md_number_11 : decode b_Md_number 11 = .ok (.ifCond .eq 16, 3) := by decide +kernel
theorem d_Md_number_14 : decode b_Md_number 14 = .ok (.aload_n 0, 1) := by decide +kernel
theorem d_Md_number_15 : decode b_Md_number 15 = .ok (.getfield 32, 3) := by decide +kernel
theorem d_Md_number_18 : decode b_Md_number 18 = .ok (.iload_n 1, 1) := by decide +kernel
theorem d_Md_number_19 : decode b_Md_number 19 = .ok (.iaload, 1) := by decide +kernel
theorem d_Md_number_20 : decode b_Md_number 20 = .ok (.ifCond .ne 7, 3) := by decide +kernel
theorem d_Md_number_23 : decode b_Md_number 23 = .ok (.iconst 1, 1) := by decide +kernel
theorem d_Md_number_24 : decode b_Md_number 24 = .ok (.goto 4, 3) := by decide +kernel
theorem d_Md_number_27 : decode b_Md_number 27 = .ok (.iconst 0, 1) := by decide +kernel
theorem d_Md_number_28 : decode b_Md_number 28 = .ok (.istore_n 2, 1) := by decide +kernel
theorem d_Md_number_29 : decode b_Md_number 29 = .ok (.aload_n 0, 1) := by decide +kernel
theorem d_Md_number_30 : decode b_Md_number 30 = .ok (.iload_n 2, 1) := by decide +kernel
theorem d_Md_number_31 : decode b_Md_number 31 = .ok (.ifCond .eq 7, 3) := by decide +kernel
theorem d_Md_number_34 : decode b_Md_number 34 = .ok (.iconst 0, 1) := by decide +kernel
theorem d_Md_number_35 : decode b_Md_number 35 = .ok (.goto 4, 3) := by decide +kernel
theorem d_Md_number_38 : decode b_Md_number 38 = .ok (.iconst 1, 1) := by decide +kernel
theorem d_Md_number_39 : decode b_Md_number 39 = .ok (.invokevirtual 124, 3) := by decide +kernel
theorem d_Md_number_42 : decode b_Md_number 42 = .ok (.ifCond .eq 12, 3) := by decide +kernel
theorem d_Md_number_45 : decode b_Md_number 45 = .ok (.aload_n 0, 1) := by decide +kernel
theorem d_Md_number_46 : decode b_Md_number 46 = .ok (.getfield 50, 3) := by decide +kernel
theorem d_Md_number_49 : decode b_Md_number 49 = .ok (.iload_n 1, 1) := by decide +kernel
theorem d_Md_number_50 : decode b_Md_number 50 = .ok (.laload, 1) := by decide +kernel
theorem d_Md_number_51 : decode b_Md_number 51 = .ok (.goto 4, 3) := by decide +kernel
theorem d_Md_number_54 : decode b_Md_number 54 = .ok (.lconst 0, 1) := by decide +kernel
theorem d_Md_number_55 : decode b_Md_number 55 = .ok (.lreturn, 1) := by decide +kernel
theorem hg_Md_number : fx_mw fx_g "FixityTreesModel" y_Md_number b_Md_number 3 (some .long) := ⟨fx_in 1225 (by decide +kernel) (by decide +kernel), fx_in 1226 (by decide +kernel) (by decide +kernel), fx_in 9 (by decide +kernel) (by decide +kernel), fx_in 1227 (by decide +kernel) (by decide +kernel)⟩
abbrev b_Md_due : ByteArray := prog_10_method_41_code
abbrev y_Md_due : MethodName := ⟨"FixityTreesModel", "due", "(II)V"⟩
theorem d_Md_due_0 : decode b_Md_due 0 = .ok (.aload_n 0, 1) := by decide +kernel
theorem d_Md_due_1 : decode b_Md_due 1 = .ok (.getfield 100, 3) := by decide +kernel
theorem d_Md_due_4 : decode b_Md_due 4 = .ok (.aload_n 0, 1) := by decide +kernel
theorem d_Md_due_5 : decode b_Md_due 5 = .ok (.getfield 237, 3) := by decide +kernel
theorem d_Md_due_8 : decode b_Md_due 8 = .ok (.iload_n 1, 1) := by decide +kernel
theorem d_Md_due_9 : decode b_Md_due 9 = .ok (.iastore, 1) := by decide +kernel
theorem d_Md_due_10 : decode b_Md_due 10 = .ok (.aload_n 0, 1) := by decide +kernel
theorem d_Md_due_11 : decode b_Md_due 11 = .ok (.getfield 103, 3) := by decide +kernel
theorem d_Md_due_14 : decode b_Md_due 14 = .ok (.aload_n 0, 1) := by decide +kernel
theorem d_Md_due_15 : decode b_Md_due 15 = .ok (.getfield 237, 3) := by decide +kernel
theorem d_Md_due_18 : decode b_Md_due 18 = .ok (.iload_n 2, 1) := by decide +kernel
theorem d_Md_due_19 : decode b_Md_due 19 = .ok (.iastore, 1) := by decide +kernel
theorem d_Md_due_20 : decode b_Md_due 20 = .ok (.aload_n 0, 1) := by decide +kernel
theorem d_Md_due_21 : decode b_Md_due 21 = .ok (.dup, 1) := by decide +kernel
theorem d_Md_due_22 : decode b_Md_due 22 = .ok (.getfield 237, 3) := by decide +kernel
theorem d_Md_due_25 : decode b_Md_due 25 = .ok (.iconst 1, 1) := by decide +kernel
theorem d_Md_due_26 : decode b_Md_due 26 = .ok (.iadd, 1) := by decide +kernel
theorem d_Md_due_27 : decode b_Md_due 27 = .ok (.putfield 237, 3) := by decide +kernel
theorem d_Md_due_30 : decode b_Md_due 30 = .ok (.return_, 1) := by decide +kernel
theorem hg_Md_due : fx_mw fx_g "FixityTreesModel" y_Md_due b_Md_due 3 none := ⟨fx_in 1234 (by decide +kernel) (by decide +kernel), fx_inp 64 (by decide +kernel) (by decide +kernel), fx_in 9 (by decide +kernel) (by decide +kernel), fx_in 1235 (by decide +kernel) (by decide +kernel)⟩
abbrev b_Md_put : ByteArray := prog_10_method_40_code
abbrev y_Md_put : MethodName := ⟨"FixityTreesModel", "put", "(II)V"⟩
theorem d_Md_put_0 : decode b_Md_put 0 = .ok (.aload_n 0, 1) := by decide +kernel
theorem d_Md_put_1 : decode b_Md_put 1 = .ok (.getfield 88, 3) := by decide +kernel
theorem d_Md_put_4 : decode b_Md_put 4 = .ok (.aload_n 0, 1) := by decide +kernel
theorem d_Md_put_5 : decode b_Md_put 5 = .ok (.getfield 234, 3) := by decide +kernel
theorem d_Md_put_8 : decode b_Md_put 8 = .ok (.iload_n 1, 1) := by decide +kernel
theorem d_Md_put_9 : decode b_Md_put 9 = .ok (.iastore, 1) := by decide +kernel
theorem d_Md_put_10 : decode b_Md_put 10 = .ok (.aload_n 0, 1) := by decide +kernel
theorem d_Md_put_11 : decode b_Md_put 11 = .ok (.getfield 91, 3) := by decide +kernel
theorem d_Md_put_14 : decode b_Md_put 14 = .ok (.aload_n 0, 1) := by decide +kernel
theorem d_Md_put_15 : decode b_Md_put 15 = .ok (.getfield 234, 3) := by decide +kernel
theorem d_Md_put_18 : decode b_Md_put 18 = .ok (.iload_n 1, 1) := by decide +kernel
theorem d_Md_put_19 : decode b_Md_put 19 = .ok (.iconst 1, 1) := by decide +kernel
theorem d_Md_put_20 : decode b_Md_put 20 = .ok (.if_icmp .eq 8, 3) := by decide +kernel
theorem d_Md_put_23 : decode b_Md_put 23 = .ok (.iload_n 1, 1) := by decide +kernel
theorem d_Md_put_24 : decode b_Md_put 24 = .ok (.iconst 2, 1) := by decide +kernel
theorem d_Md_put_25 : decode b_Md_put 25 = .ok (.if_icmp .ne 12, 3) := by decide +kernel
theorem d_Md_put_28 : decode b_Md_put 28 = .ok (.aload_n 0, 1) := by decide +kernel
theorem d_Md_put_29 : decode b_Md_put 29 = .ok (.getfield 35, 3) := by decide +kernel
theorem d_Md_put_32 : decode b_Md_put 32 = .ok (.iload_n 2, 1) := by decide +kernel
theorem d_Md_put_33 : decode b_Md_put 33 = .ok (.iaload, 1) := by decide +kernel
theorem d_Md_put_34 : decode b_Md_put 34 = .ok (.goto 4, 3) := by decide +kernel
theorem d_Md_put_37 : decode b_Md_put 37 = .ok (.iconst (-1), 1) := by decide +kernel
theorem d_Md_put_38 : decode b_Md_put 38 = .ok (.iastore, 1) := by decide +kernel
theorem d_Md_put_39 : decode b_Md_put 39 = .ok (.aload_n 0, 1) := by decide +kernel
theorem d_Md_put_40 : decode b_Md_put 40 = .ok (.getfield 94, 3) := by decide +kernel
theorem d_Md_put_43 : decode b_Md_put 43 = .ok (.aload_n 0, 1) := by decide +kernel
theorem d_Md_put_44 : decode b_Md_put 44 = .ok (.getfield 234, 3) := by decide +kernel
theorem d_Md_put_47 : decode b_Md_put 47 = .ok (.iload_n 2, 1) := by decide +kernel
theorem d_Md_put_48 : decode b_Md_put 48 = .ok (.iastore, 1) := by decide +kernel
theorem d_Md_put_49 : decode b_Md_put 49 = .ok (.aload_n 0, 1) := by decide +kernel
theorem d_Md_put_50 : decode b_Md_put 50 = .ok (.getfield 97, 3) := by decide +kernel
theorem d_Md_put_53 : decode b_Md_put 53 = .ok (.aload_n 0, 1) := by decide +kernel
theorem d_Md_put_54 : decode b_Md_put 54 = .ok (.getfield 234, 3) := by decide +kernel
theorem d_Md_put_57 : decode b_Md_put 57 = .ok (.aload_n 0, 1) := by decide +kernel
theorem d_Md_put_58 : decode b_Md_put 58 = .ok (.getfield 50, 3) := by decide +kernel
theorem d_Md_put_61 : decode b_Md_put 61 = .ok (.iload_n 2, 1) := by decide +kernel
theorem d_Md_put_62 : decode b_Md_put 62 = .ok (.laload, 1) := by decide +kernel
theorem d_Md_put_63 : decode b_Md_put 63 = .ok (.lastore, 1) := by decide +kernel
theorem d_Md_put_64 : decode b_Md_put 64 = .ok (.aload_n 0, 1) := by decide +kernel
theorem d_Md_put_65 : decode b_Md_put 65 = .ok (.dup, 1) := by decide +kernel
theorem d_Md_put_66 : decode b_Md_put 66 = .ok (.getfield 234, 3) := by decide +kernel
theorem d_Md_put_69 : decode b_Md_put 69 = .ok (.iconst 1, 1) := by decide +kernel
theorem d_Md_put_70 : decode b_Md_put 70 = .ok (.iadd, 1) := by decide +kernel
theorem d_Md_put_71 : decode b_Md_put 71 = .ok (.putfield 234, 3) := by decide +kernel
theorem d_Md_put_74 : decode b_Md_put 74 = .ok (.return_, 1) := by decide +kernel
theorem hg_Md_put : fx_mw fx_g "FixityTreesModel" y_Md_put b_Md_put 3 none := ⟨fx_in 1238 (by decide +kernel) (by decide +kernel), fx_inp 65 (by decide +kernel) (by decide +kernel), fx_in 9 (by decide +kernel) (by decide +kernel), fx_in 1239 (by decide +kernel) (by decide +kernel)⟩
abbrev b_Md_fits : ByteArray := prog_10_method_42_code
abbrev y_Md_fits : MethodName := ⟨"FixityTreesModel", "fits", "(IIII)Z"⟩
theorem d_Md_fits_0 : decode b_Md_fits 0 = .ok (.aload_n 0, 1) := by decide +kernel
theorem d_Md_fits_1 : decode b_Md_fits 1 = .ok (.getfield 32, 3) := by decide +kernel
theorem d_Md_fits_4 : decode b_Md_fits 4 = .ok (.iload_n 3, 1) := by decide +kernel
theorem d_Md_fits_5 : decode b_Md_fits 5 = .ok (.iaload, 1) := by decide +kernel
theorem d_Md_fits_6 : decode b_Md_fits 6 = .ok (.iconst 1, 1) := by decide +kernel
theorem d_Md_fits_7 : decode b_Md_fits 7 = .ok (.if_icmp .eq 15, 3) := by decide +kernel
theorem d_Md_fits_10 : decode b_Md_fits 10 = .ok (.aload_n 0, 1) := by decide +kernel
theorem d_Md_fits_11 : decode b_Md_fits 11 = .ok (.getfield 32, 3) := by decide +kernel
theorem d_Md_fits_14 : decode b_Md_fits 14 = .ok (.iload_n 3, 1) := by decide +kernel
theorem d_Md_fits_15 : decode b_Md_fits 15 = .ok (.iaload, 1) := by decide +kernel
theorem d_Md_fits_16 : decode b_Md_fits 16 = .ok (.iconst 2, 1) := by decide +kernel
theorem d_Md_fits_17 : decode b_Md_fits 17 = .ok (.if_icmp .eq 5, 3) := by decide +kernel
theorem d_Md_fits_20 : decode b_Md_fits 20 = .ok (.iconst 1, 1) := by decide +kernel
theorem d_Md_fits_21 : decode b_Md_fits 21 = .ok (.ireturn, 1) := by decide +kernel
theorem d_Md_fits_22 : decode b_Md_fits 22 = .ok (.aload_n 0, 1) := by decide +kernel
theorem d_Md_fits_23 : decode b_Md_fits 23 = .ok (.iload_n 1, 1) := by decide +kernel
theorem d_Md_fits_24 : decode b_Md_fits 24 = .ok (.aload_n 0, 1) := by decide +kernel
theorem d_Md_fits_25 : decode b_Md_fits 25 = .ok (.getfield 35, 3) := by decide +kernel
theorem d_Md_fits_28 : decode b_Md_fits 28 = .ok (.iload_n 2, 1) := by decide +kernel
theorem d_Md_fits_29 : decode b_Md_fits 29 = .ok (.iaload, 1) := by decide +kernel
theorem d_Md_fits_30 : decode b_Md_fits 30 = .ok (.invokevirtual 137, 3) := by decide +kernel
theorem d_Md_fits_33 : decode b_Md_fits 33 = .ok (.istore 5, 2) := by decide +kernel
theorem d_Md_fits_35 : decode b_Md_fits 35 = .ok (.aload_n 0, 1) := by decide +kernel
theorem d_Md_fits_36 : decode b_Md_fits 36 = .ok (.iload_n 1, 1) := by decide +kernel
theorem d_Md_fits_37 : decode b_Md_fits 37 = .ok (.aload_n 0, 1) := by decide +kernel
theorem d_Md_fits_38 : decode b_Md_fits 38 = .ok (.getfield 35, 3) := by decide +kernel
theorem d_Md_fits_41 : decode b_Md_fits 41 = .ok (.iload_n 3, 1) := by decide +kernel
theorem d_Md_fits_42 : decode b_Md_fits 42 = .ok (.iaload, 1) := by decide +kernel
theorem d_Md_fits_43 : decode b_Md_fits 43 = .ok (.invokevirtual 137, 3) := by decide +kernel
theorem d_Md_fits_46 : decode b_Md_fits 46 = .ok (.istore 6, 2) := by decide +kernel
theorem d_Md_fits_48 : decode b_Md_fits 48 = .ok (.aload_n 0, 1) := by decide +kernel
theorem d_Md_fits_49 : decode b_Md_fits 49 = .ok (.iload_n 1, 1) := by decide +kernel
theorem d_Md_fits_50 : decode b_Md_fits 50 = .ok (.aload_n 0, 1) := by decide +kernel
theorem d_Md_fits_51 : decode b_Md_fits 51 = .ok (.getfield 35, 3) := by decide +kernel
theorem d_Md_fits_54 : decode b_Md_fits 54 = .ok (.iload_n 3, 1) := by decide +kernel
theorem d_Md_fits_55 : decode b_Md_fits 55 = .ok (.iaload, 1) := by decide +kernel
theorem d_Md_fits_56 : decode b_Md_fits 56 = .ok (.invokevirtual 134, 3) := by decide +kernel
theorem d_Md_fits_59 : decode b_Md_fits 59 = .ok (.istore 7, 2) := by decide +kernel
theorem d_Md_fits_61 : decode b_Md_fits 61 = .ok (.iload 6, 2) := by decide +kernel
theorem d_Md_fits_63 : decode b_Md_fits 63 = .ok (.iload 5, 2) := by decide +kernel
theorem d_Md_fits_65 : decode b_Md_fits 65 = .ok (.if_icmp .gt 33, 3) := by decide +kernel
theorem d_Md_fits_68 : decode b_Md_fits 68 = .ok (.iload 6, 2) := by decide +kernel
theorem d_Md_fits_70 : decode b_Md_fits 70 = .ok (.iload 5, 2) := by decide +kernel
theorem d_Md_fits_72 : decode b_Md_fits 72 = .ok (.if_icmp .ne 30, 3) := by decide +kernel
theorem d_Md_fits_75 : decode b_Md_fits 75 = .ok (.iload 7, 2) := by decide +kernel
theorem d_Md_fits_77 : decode b_Md_fits 77 = .ok (.iload 4, 2) := by decide +kernel
theorem d_Md_fits_79 : decode b_Md_fits 79 = .ok (.if_icmp .ne 23, 3) := by decide +kernel
theorem d_Md_fits_82 : decode b_Md_fits 82 = .ok (.aload_n 0, 1) := by decide +kernel
theorem d_Md_fits_83 : decode b_Md_fits 83 = .ok (.iload_n 1, 1) := by decide +kernel
theorem d_Md_fits_84 : decode b_Md_fits 84 = .ok (.aload_n 0, 1) := by decide +kernel
theorem d_Md_fits_85 : decode b_Md_fits 85 = .ok (.getfield 35, 3) := by decide +kernel
theorem d_Md_fits_88 : decode b_Md_fits 88 = .ok (.iload_n 2, 1) := by decide +kernel
theorem d_Md_fits_89 : decode b_Md_fits 89 = .ok (.iaload, 1) := by decide +kernel
theorem d_Md_fits_90 : decode b_Md_fits 90 = .ok (.invokevirtual 134, 3) := by decide +kernel
theorem d_Md_fits_93 : decode b_Md_fits 93 = .ok (.iload 4, 2) := by decide +kernel
theorem d_Md_fits_95 : decode b_Md_fits 95 = .ok (.if_icmp .ne 7, 3) := by decide +kernel
theorem d_Md_fits_98 : decode b_Md_fits 98 = .ok (.iconst 1, 1) := by decide +kernel
theorem d_Md_fits_99 : decode b_Md_fits 99 = .ok (.goto 4, 3) := by decide +kernel
theorem d_Md_fits_102 : decode b_Md_fits 102 = .ok (.iconst 0, 1) := by decide +kernel
theorem d_Md_fits_103 : decode b_Md_fits 103 = .ok (.ireturn, 1) := by decide +kernel
theorem hg_Md_fits : fx_mw fx_g "FixityTreesModel" y_Md_fits b_Md_fits 8 (some .boolean) := ⟨fx_in 1250 (by decide +kernel) (by decide +kernel), fx_inp 68 (by decide +kernel) (by decide +kernel), fx_in 9 (by decide +kernel) (by decide +kernel), fx_in 1251 (by decide +kernel) (by decide +kernel)⟩
abbrev b_Md_dueChild : ByteArray := prog_10_method_43_code
abbrev y_Md_dueChild : MethodName := ⟨"FixityTreesModel", "dueChild", "(IIII)V"⟩
theorem d_Md_dueChild_0 : decode b_Md_dueChild 0 = .ok (.aload_n 0, 1) := by decide +kernel
theorem d_Md_dueChild_1 : decode b_Md_dueChild 1 = .ok (.aload_n 0, 1) := by decide +kernel
theorem d_Md_dueChild_2 : decode b_Md_dueChild 2 = .ok (.iload_n 1, 1) := by decide +kernel
theorem d_Md_dueChild_3 : decode b_Md_dueChild 3 = .ok (.iload_n 2, 1) := by decide +kernel
theorem d_Md_dueChild_4 : decode b_Md_dueChild 4 = .ok (.iload_n 3, 1) := by decide +kernel
theorem d_Md_dueChild_5 : decode b_Md_dueChild 5 = .ok (.iload 4, 2) := by decide +kernel
theorem d_Md_dueChild_7 : decode b_Md_dueChild 7 = .ok (.invokevirtual 240, 3) := by decide +kernel
theorem d_Md_dueChild_10 : decode b_Md_dueChild 10 = .ok (.ifCond .eq 8, 3) := by decide +kernel
theorem d_Md_dueChild_13 : decode b_Md_dueChild 13 = .ok (.bipush 10, 2) := by decide +kernel
theorem d_Md_dueChild_15 : decode b_Md_dueChild 15 = .ok (.goto 5, 3) := by decide +kernel
theorem d_Md_dueChild_18 : decode b_Md_dueChild 18 = .ok (.bipush 11, 2) := by decide +kernel
theorem d_Md_dueChild_20 : decode b_Md_dueChild 20 = .ok (.iload_n 3, 1) := by decide +kernel
theorem d_Md_dueChild_21 : decode b_Md_dueChild 21 = .ok (.invokevirtual 244, 3) := by decide +kernel
theorem d_Md_dueChild_24 : decode b_Md_dueChild 24 = .ok (.return_, 1) := by decide +kernel
theorem hg_Md_dueChild : fx_mw fx_g "FixityTreesModel" y_Md_dueChild b_Md_dueChild 5 none := ⟨fx_in 1246 (by decide +kernel) (by decide +kernel), fx_inp 67 (by decide +kernel) (by decide +kernel), fx_in 9 (by decide +kernel) (by decide +kernel), fx_in 1247 (by decide +kernel) (by decide +kernel)⟩
abbrev b_Md_spread : ByteArray := prog_10_method_45_code
abbrev y_Md_spread : MethodName := ⟨"FixityTreesModel", "spread", "(IIZ)V"⟩
theorem d_Md_spread_0 : decode b_Md_spread 0 = .ok (.iload_n 3, 1) := by decide +kernel
theorem d_Md_spread_1 : decode b_Md_spread 1 = .ok (.ifCond .eq 15, 3) := by decide +kernel
theorem d_Md_spread_4 : decode b_Md_spread 4 = .ok (.aload_n 0, 1) := by decide +kernel
theorem d_Md_spread_5 : decode b_Md_spread 5 = .ok (.iconst 3, 1) := by decide +kernel
theorem d_Md_spread_6 : decode b_Md_spread 6 = .ok (.iload_n 2, 1) := by decide +kernel
theorem d_Md_spread_7 : decode b_Md_spread 7 = .ok (.invokevirtual 250, 3) := by decide +kernel
theorem d_Md_spread_10 : decode b_Md_spread 10 = .ok (.aload_n 0, 1) := by decide +kernel
theorem d_Md_spread_11 : decode b_Md_spread 11 = .ok (.iconst 4, 1) := by decide +kernel
theorem d_Md_spread_12 : decode b_Md_spread 12 = .ok (.iload_n 2, 1) := by decide +kernel
theorem d_Md_spread_13 : decode b_Md_spread 13 = .ok (.invokevirtual 244, 3) := by decide +kernel
theorem d_Md_spread_16 : decode b_Md_spread 16 = .ok (.aload_n 0, 1) := by decide +kernel
theorem d_Md_spread_17 : decode b_Md_spread 17 = .ok (.getfield 32, 3) := by decide +kernel
theorem d_Md_spread_20 : decode b_Md_spread 20 = .ok (.iload_n 2, 1) := by decide +kernel
theorem d_Md_spread_21 : decode b_Md_spread 21 = .ok (.iaload, 1) := by decide +kernel
theorem d_Md_spread_22 : decode b_Md_spread 22 = .ok (.tableswitch 118 0 3 #[30, 39, 74, 96], 30) := by decide +kernel
theorem d_Md_spread_52 : decode b_Md_spread 52 = .ok (.aload_n 0, 1) := by decide +kernel
theorem d_Md_spread_53 : decode b_Md_spread 53 = .ok (.iconst 0, 1) := by decide +kernel
theorem d_Md_spread_54 : decode b_Md_spread 54 = .ok (.iload_n 2, 1) := by decide +kernel
theorem d_Md_spread_55 : decode b_Md_spread 55 = .ok (.invokevirtual 250, 3) := by decide +kernel
theorem d_Md_spread_58 : decode b_Md_spread 58 = .ok (.goto 101, 3) := by decide +kernel
theorem d_Md_spread_61 : decode b_Md_spread 61 = .ok (.aload_n 0, 1) := by decide +kernel
theorem d_Md_spread_62 : decode b_Md_spread 62 = .ok (.iload_n 1, 1) := by decide +kernel
theorem d_Md_spread_63 : decode b_Md_spread 63 = .ok (.iload_n 2, 1) := by decide +kernel
theorem d_Md_spread_64 : decode b_Md_spread 64 = .ok (.aload_n 0, 1) := by decide +kernel
theorem d_Md_spread_65 : decode b_Md_spread 65 = .ok (.getfield 41, 3) := by decide +kernel
theorem d_Md_spread_68 : decode b_Md_spread 68 = .ok (.iload_n 2, 1) := by decide +kernel
theorem d_Md_spread_69 : decode b_Md_spread 69 = .ok (.iaload, 1) := by decide +kernel
theorem d_Md_spread_70 : decode b_Md_spread 70 = .ok (.iconst 1, 1) := by decide +kernel
theorem d_Md_spread_71 : decode b_Md_spread 71 = .ok (.invokevirtual 257, 3) := by decide +kernel
theorem d_Md_spread_74 : decode b_Md_spread 74 = .ok (.aload_n 0, 1) := by decide +kernel
theorem d_Md_spread_75 : decode b_Md_spread 75 = .ok (.iconst 1, 1) := by decide +kernel
theorem d_Md_spread_76 : decode b_Md_spread 76 = .ok (.iload_n 2, 1) := by decide +kernel
theorem d_Md_spread_77 : decode b_Md_spread 77 = .ok (.invokevirtual 244, 3) := by decide +kernel
theorem d_Md_spread_80 : decode b_Md_spread 80 = .ok (.aload_n 0, 1) := by decide +kernel
theorem d_Md_spread_81 : decode b_Md_spread 81 = .ok (.iload_n 1, 1) := by decide +kernel
theorem d_Md_spread_82 : decode b_Md_spread 82 = .ok (.iload_n 2, 1) := by decide +kernel
theorem d_Md_spread_83 : decode b_Md_spread 83 = .ok (.aload_n 0, 1) := by decide +kernel
theorem d_Md_spread_84 : decode b_Md_spread 84 = .ok (.getfield 38, 3) := by decide +kernel
theorem d_Md_spread_87 : decode b_Md_spread 87 = .ok (.iload_n 2, 1) := by decide +kernel
theorem d_Md_spread_88 : decode b_Md_spread 88 = .ok (.iaload, 1) := by decide +kernel
theorem d_Md_spread_89 : decode b_Md_spread 89 = .ok (.iconst 0, 1) := by decide +kernel
theorem d_Md_spread_90 : decode b_Md_spread 90 = .ok (.invokevirtual 257, 3) := by decide +kernel
theorem d_Md_spread_93 : decode b_Md_spread 93 = .ok (.goto 66, 3) := by decide +kernel
theorem d_Md_spread_96 : decode b_Md_spread 96 = .ok (.aload_n 0, 1) := by decide +kernel
theorem d_Md_spread_97 : decode b_Md_spread 97 = .ok (.iconst 2, 1) := by decide +kernel
theorem d_Md_spread_98 : decode b_Md_spread 98 = .ok (.iload_n 2, 1) := by decide +kernel
theorem d_Md_spread_99 : decode b_Md_spread 99 = .ok (.invokevirtual 250, 3) := by decide +kernel
theorem d_Md_spread_102 : decode b_Md_spread 102 = .ok (.aload_n 0, 1) := by decide +kernel
theorem d_Md_spread_103 : decode b_Md_spread 103 = .ok (.iload_n 1, 1) := by decide +kernel
theorem d_Md_spread_104 : decode b_Md_spread 104 = .ok (.iload_n 2, 1) := by decide +kernel
theorem d_Md_spread_105 : decode b_Md_spread 105 = .ok (.aload_n 0, 1) := by decide +kernel
theorem d_Md_spread_106 : decode b_Md_spread 106 = .ok (.getfield 38, 3) := by decide +kernel
theorem d_Md_spread_109 : decode b_Md_spread 109 = .ok (.iload_n 2, 1) := by decide +kernel
theorem d_Md_spread_110 : decode b_Md_spread 110 = .ok (.iaload, 1) := by decide +kernel
theorem d_Md_spread_111 : decode b_Md_spread 111 = .ok (.iconst 1, 1) := by decide +kernel
theorem d_Md_spread_112 : decode b_Md_spread 112 = .ok (.invokevirtual 257, 3) := by decide +kernel
theorem d_Md_spread_115 : decode b_Md_spread 115 = .ok (.goto 44, 3) := by decide +kernel
theorem d_Md_spread_118 : decode b_Md_spread 118 = .ok (.aload_n 0, 1) := by decide +kernel
theorem d_Md_spread_119 : decode b_Md_spread 119 = .ok (.iconst 1, 1) := by decide +kernel
theorem d_Md_spread_120 : decode b_Md_spread 120 = .ok (.iload_n 2, 1) := by decide +kernel
theorem d_Md_spread_121 : decode b_Md_spread 121 = .ok (.invokevirtual 244, 3) := by decide +kernel
theorem d_Md_spread_124 : decode b_Md_spread 124 = .ok (.aload_n 0, 1) := by decide +kernel
theorem d_Md_spread_125 : decode b_Md_spread 125 = .ok (.iload_n 1, 1) := by decide +kernel
theorem d_Md_spread_126 : decode b_Md_spread 126 = .ok (.iload_n 2, 1) := by decide +kernel
theorem d_Md_spread_127 : decode b_Md_spread 127 = .ok (.aload_n 0, 1) := by decide +kernel
theorem d_Md_spread_128 : decode b_Md_spread 128 = .ok (.getfield 38, 3) := by decide +kernel
theorem d_Md_spread_131 : decode b_Md_spread 131 = .ok (.iload_n 2, 1) := by decide +kernel
theorem d_Md_spread_132 : decode b_Md_spread 132 = .ok (.iaload, 1) := by decide +kernel
theorem d_Md_spread_133 : decode b_Md_spread 133 = .ok (.iconst 0, 1) := by decide +kernel
theorem d_Md_spread_134 : decode b_Md_spread 134 = .ok (.invokevirtual 257, 3) := by decide +kernel
theorem d_Md_spread_137 : decode b_Md_spread 137 = .ok (.goto 22, 3) := by decide +kernel
theorem d_Md_spread_140 : decode b_Md_spread 140 = .ok (.aload_n 0, 1) := by decide +kernel
theorem d_Md_spread_141 : decode b_Md_spread 141 = .ok (.iconst 1, 1) := by decide +kernel
theorem d_Md_spread_142 : decode b_Md_spread 142 = .ok (.iload_n 2, 1) := by decide +kernel
theorem d_Md_spread_143 : decode b_Md_spread 143 = .ok (.invokevirtual 250, 3) := by decide +kernel
theorem d_Md_spread_146 : decode b_Md_spread 146 = .ok (.aload_n 0, 1) := by decide +kernel
theorem d_Md_spread_147 : decode b_Md_spread 147 = .ok (.iload_n 1, 1) := by decide +kernel
theorem d_Md_spread_148 : decode b_Md_spread 148 = .ok (.iload_n 2, 1) := by decide +kernel
theorem d_Md_spread_149 : decode b_Md_spread 149 = .ok (.aload_n 0, 1) := by decide +kernel
theorem d_Md_spread_150 : decode b_Md_spread 150 = .ok (.getfield 38, 3) := by decide +kernel
theorem d_Md_spread_153 : decode b_Md_spread 153 = .ok (.iload_n 2, 1) := by decide +kernel
theorem d_Md_spread_154 : decode b_Md_spread 154 = .ok (.iaload, 1) := by decide +kernel
theorem d_Md_spread_155 : decode b_Md_spread 155 = .ok (.iconst 1, 1) := by decide +kernel
theorem d_Md_spread_156 : decode b_Md_spread 156 = .ok (.invokevirtual 257, 3) := by decide +kernel
theorem d_Md_spread_159 : decode b_Md_spread 159 = .ok (.return_, 1) := by decide +kernel
theorem hg_Md_spread : fx_mw fx_g "FixityTreesModel" y_Md_spread b_Md_spread 4 none := ⟨fx_in 1242 (by decide +kernel) (by decide +kernel), fx_inp 66 (by decide +kernel) (by decide +kernel), fx_in 9 (by decide +kernel) (by decide +kernel), fx_in 1243 (by decide +kernel) (by decide +kernel)⟩
abbrev b_Md_write : ByteArray := prog_10_method_44_code
abbrev y_Md_write : MethodName := ⟨"FixityTreesModel", "write", "(I)I"⟩
theorem d_Md_write_0 : decode b_Md_write 0 = .ok (.aload_n 0, 1) := by decide +kernel
theorem d_Md_write_1 : decode b_Md_write 1 = .ok (.aload_n 0, 1) := by decide +kernel
theorem d_Md_write_2 : decode b_Md_write 2 = .ok (.iload_n 1, 1) := by decide +kernel
theorem d_Md_write_3 : decode b_Md_write 3 = .ok (.invokevirtual 120, 3) := by decide +kernel
theorem d_Md_write_6 : decode b_Md_write 6 = .ok (.ifCond .ne 7, 3) := by decide +kernel
theorem d_Md_write_9 : decode b_Md_write 9 = .ok (.iconst 1, 1) := by decide +kernel
theorem d_Md_write_10 : decode b_Md_write 10 = .ok (.goto 15, 3) := by decide +kernel
theorem d_Md_write_13 : decode b_Md_write 13 = .ok (.aload_n 0, 1) := by decide +kernel
theorem d_Md_write_14 : decode b_Md_write 14 = .ok (.getfield 222, 3) := by decide +kernel
theorem d_Md_write_17 : decode b_Md_write 17 = .ok (.ifCond .ne 7, 3) := by decide +kernel
theorem d_Md_write_20 : decode b_Md_write 20 = .ok (.iconst 2, 1) := by decide +kernel
theorem d_Md_write_21 : decode b_Md_write 21 = .ok (.goto 4, 3) := by decide +kernel
theorem d_Md_write_24 : decode b_Md_write 24 = .ok (.iconst 0, 1) := by decide +kernel
theorem d_Md_write_25 : decode b_Md_write 25 = .ok (.invokevirtual 124, 3) := by decide +kernel
theorem d_Md_write_28 : decode b_Md_write 28 = .ok (.ifCond .ne 5, 3) := by decide +kernel
theorem d_Md_write_31 : decode b_Md_write 31 = .ok (.iconst 0, 1) := by decide +kernel
theorem d_Md_write_32 : decode b_Md_write 32 = .ok (.ireturn, 1) := by decide +kernel
theorem d_Md_write_33 : decode b_Md_write 33 = .ok (.aload_n 0, 1) := by decide +kernel
theorem d_Md_write_34 : decode b_Md_write 34 = .ok (.iconst 1, 1) := by decide +kernel
theorem d_Md_write_35 : decode b_Md_write 35 = .ok (.putfield 247, 3) := by decide +kernel
theorem d_Md_write_38 : decode b_Md_write 38 = .ok (.aload_n 0, 1) := by decide +kernel
theorem d_Md_write_39 : decode b_Md_write 39 = .ok (.iconst 0, 1) := by decide +kernel
theorem d_Md_write_40 : decode b_Md_write 40 = .ok (.putfield 234, 3) := by decide +kernel
theorem d_Md_write_43 : decode b_Md_write 43 = .ok (.aload_n 0, 1) := by decide +kernel
theorem d_Md_write_44 : decode b_Md_write 44 = .ok (.iconst 0, 1) := by decide +kernel
theorem d_Md_write_45 : decode b_Md_write 45 = .ok (.putfield 237, 3) := by decide +kernel
theorem d_Md_write_48 : decode b_Md_write 48 = .ok (.aload_n 0, 1) := by decide +kernel
theorem d_Md_write_49 : decode b_Md_write 49 = .ok (.bipush 10, 2) := by decide +kernel
theorem d_Md_write_51 : decode b_Md_write 51 = .ok (.iconst 0, 1) := by decide +kernel
theorem d_Md_write_52 : decode b_Md_write 52 = .ok (.invokevirtual 244, 3) := by decide +kernel
theorem d_Md_write_55 : decode b_Md_write 55 = .ok (.aload_n 0, 1) := by decide +kernel
theorem d_Md_write_56 : decode b_Md_write 56 = .ok (.getfield 237, 3) := by decide +kernel
theorem d_Md_write_59 : decode b_Md_write 59 = .ok (.ifCond .le 78, 3) := by decide +kernel
theorem d_Md_write_62 : decode b_Md_write 62 = .ok (.aload_n 0, 1) := by decide +kernel
theorem d_Md_write_63 : decode b_Md_write 63 = .ok (.dup, 1) := by decide +kernel
theorem d_Md_write_64 : decode b_Md_write 64 = .ok (.getfield 237, 3) := by decide +kernel
theorem d_Md_write_67 : decode b_Md_write 67 = .ok (.iconst 1, 1) := by decide +kernel
theorem d_Md_write_68 : decode b_Md_write 68 = .ok (.isub, 1) := by decide +kernel
theorem d_Md_write_69 : decode b_Md_write 69 = .ok (.putfield 237, 3) := by decide +kernel
theorem d_Md_write_72 : decode b_Md_write 72 = .ok (.aload_n 0, 1) := by decide +kernel
theorem d_Md_write_73 : decode b_Md_write 73 = .ok (.getfield 100, 3) := by decide +kernel
theorem d_Md_write_76 : decode b_Md_write 76 = .ok (.aload_n 0, 1) := by decide +kernel
theorem d_Md_write_77 : decode b_Md_write 77 = .ok (.getfield 237, 3) := by decide +kernel
theorem d_Md_write_80 : decode b_Md_write 80 = .ok (.iaload, 1) := by decide +kernel
theorem d_Md_write_81 : decode b_Md_write 81 = .ok (.istore_n 2, 1) := by decide +kernel
theorem d_Md_write_82 : decode b_Md_write 82 = .ok (.aload_n 0, 1) := by decide +kernel
theorem d_Md_write_83 : decode b_Md_write 83 = .ok (.getfield 103, 3) := by decide +kernel
theorem d_Md_write_86 : decode b_Md_write 86 = .ok (.aload_n 0, 1) := by decide +kernel
theorem d_Md_write_87 : decode b_Md_write 87 = .ok (.getfield 237, 3) := by decide +kernel
theorem d_Md_write_90 : decode b_Md_write 90 = .ok (.iaload, 1) := by decide +kernel
theorem d_Md_write_91 : decode b_Md_write 91 = .ok (.istore_n 3, 1) := by decide +kernel
theorem d_Md_write_92 : decode b_Md_write 92 = .ok (.iload_n 2, 1) := by decide +kernel
theorem d_Md_write_93 : decode b_Md_write 93 = .ok (.bipush 10, 2) := by decide +kernel
theorem d_Md_write_95 : decode b_Md_write 95 = .ok (.if_icmp .ge 12, 3) := by decide +kernel
theorem d_Md_write_98 : decode b_Md_write 98 = .ok (.aload_n 0, 1) := by decide +kernel
theorem d_Md_write_99 : decode b_Md_write 99 = .ok (.iload_n 2, 1) := by decide +kernel
theorem d_Md_write_100 : decode b_Md_write 100 = .ok (.iload_n 3, 1) := by decide +kernel
theorem d_Md_write_101 : decode b_Md_write 101 = .ok (.invokevirtual 250, 3) := by decide +kernel
theorem d_Md_write_104 : decode b_Md_write 104 = .ok (.goto 30, 3) := by decide +kernel
theorem d_Md_write_107 : decode b_Md_write 107 = .ok (.aload_n 0, 1) := by decide +kernel
theorem d_Md_write_108 : decode b_Md_write 108 = .ok (.iload_n 1, 1) := by decide +kernel
theorem d_Md_write_109 : decode b_Md_write 109 = .ok (.iload_n 3, 1) := by decide +kernel
theorem d_Md_write_110 : decode b_Md_write 110 = .ok (.iload_n 2, 1) := by decide +kernel
theorem d_Md_write_111 : decode b_Md_write 111 = .ok (.bipush 11, 2) := by decide +kernel
theorem d_Md_write_113 : decode b_Md_write 113 = .ok (.if_icmp .eq 13, 3) := by decide +kernel
theorem d_Md_write_116 : decode b_Md_write 116 = .ok (.aload_n 0, 1) := by decide +kernel
theorem d_Md_write_117 : decode b_Md_write 117 = .ok (.getfield 32, 3) := by decide +kernel
theorem d_Md_write_120 : decode b_Md_write 120 = .ok (.iload_n 3, 1) := by decide +kernel
theorem d_Md_write_121 : decode b_Md_write 121 = .ok (.iaload, 1) := by decide +kernel
theorem d_Md_write_122 : decode b_Md_write 122 = .ok (.iconst 3, 1) := by decide +kernel
theorem d_Md_write_123 : decode b_Md_write 123 = .ok (.if_icmp .lt 7, 3) := by decide +kernel
theorem d_Md_write_126 : decode b_Md_write 126 = .ok (.iconst 1, 1) := by decide +kernel
theorem d_Md_write_127 : decode b_Md_write 127 = .ok (.goto 4, 3) := by decide +kernel
theorem d_Md_write_130 : decode b_Md_write 130 = .ok (.iconst 0, 1) := by decide +kernel
theorem d_Md_write_131 : decode b_Md_write 131 = .ok (.invokevirtual 253, 3) := by decide +kernel
theorem d_Md_write_134 : decode b_Md_write 134 = .ok (.goto (-79), 3) := by decide +kernel
theorem d_Md_write_137 : decode b_Md_write 137 = .ok (.aload_n 0, 1) := by decide +kernel
theorem d_Md_write_138 : decode b_Md_write 138 = .ok (.getfield 234, 3) := by decide +kernel
theorem d_Md_write_141 : decode b_Md_write 141 = .ok (.ireturn, 1) := by decide +kernel
theorem hg_Md_write : fx_mw fx_g "FixityTreesModel" y_Md_write b_Md_write 4 (some .int) := ⟨fx_in 1229 (by decide +kernel) (by decide +kernel), fx_in 1230 (by decide +kernel) (by decide +kernel), fx_in 9 (by decide +kernel) (by decide +kernel), fx_in 1231 (by decide +kernel) (by decide +kernel)⟩
abbrev b_Md_written : ByteArray := prog_10_method_46_code
abbrev y_Md_written : MethodName := ⟨"FixityTreesModel", "written", "(II)I"⟩
theorem d_Md_written_0 : decode b_Md_written 0 = .ok (.aload_n 0, 1) := by decide +kernel
theorem d_Md_written_1 : decode b_Md_written 1 = .ok (.aload_n 0, 1) := by decide +kernel
theorem d_Md_written_2 : decode b_Md_written 2 = .ok (.getfield 247, 3) := by decide +kernel
theorem d_Md_written_5 : decode b_Md_written 5 = .ok (.ifCond .eq 17, 3) := by decide +kernel
theorem d_Md_written_8 : decode b_Md_written 8 = .ok (.iload_n 1, 1) := by decide +kernel
theorem d_Md_written_9 : decode b_Md_written 9 = .ok (.iconst 0, 1) := by decide +kernel
theorem d_Md_written_10 : decode b_Md_written 10 = .ok (.aload_n 0, 1) := by decide +kernel
theorem d_Md_written_11 : decode b_Md_written 11 = .ok (.getfield 234, 3) := by decide +kernel
theorem d_Md_written_14 : decode b_Md_written 14 = .ok (.iconst 1, 1) := by decide +kernel
theorem d_Md_written_15 : decode b_Md_written 15 = .ok (.isub, 1) := by decide +kernel
theorem d_Md_written_16 : decode b_Md_written 16 = .ok (.invokestatic 116, 3) := by decide +kernel
theorem d_Md_written_19 : decode b_Md_written 19 = .ok (.ifCond .ne 7, 3) := by decide +kernel
theorem d_Md_written_22 : decode b_Md_written 22 = .ok (.iconst 1, 1) := by decide +kernel
theorem d_Md_written_23 : decode b_Md_written 23 = .ok (.goto 17, 3) := by decide +kernel
theorem d_Md_written_26 : decode b_Md_written 26 = .ok (.iload_n 2, 1) := by decide +kernel
theorem d_Md_written_27 : decode b_Md_written 27 = .ok (.iconst 0, 1) := by decide +kernel
theorem d_Md_written_28 : decode b_Md_written 28 = .ok (.iconst 2, 1) := by decide +kernel
theorem d_Md_written_29 : decode b_Md_written 29 = .ok (.invokestatic 116, 3) := by decide +kernel
theorem d_Md_written_32 : decode b_Md_written 32 = .ok (.ifCond .ne 7, 3) := by decide +kernel
theorem d_Md_written_35 : decode b_Md_written 35 = .ok (.iconst 2, 1) := by decide +kernel
theorem d_Md_written_36 : decode b_Md_written 36 = .ok (.goto 4, 3) := by decide +kernel
theorem d_Md_written_39 : decode b_Md_written 39 = .ok (.iconst 0, 1) := by decide +kernel
theorem d_Md_written_40 : decode b_Md_written 40 = .ok (.invokevirtual 124, 3) := by decide +kernel
theorem d_Md_written_43 : decode b_Md_written 43 = .ok (.ifCond .ne 5, 3) := by decide +kernel
theorem d_Md_written_46 : decode b_Md_written 46 = .ok (.iconst 0, 1) := by decide +kernel
theorem d_Md_written_47 : decode b_Md_written 47 = .ok (.ireturn, 1) := by decide +kernel
theorem d_Md_written_48 : decode b_Md_written 48 = .ok (.iload_n 2, 1) := by decide +kernel
theorem d_Md_written_49 : decode b_Md_written 49 = .ok (.ifCond .ne 12, 3) := by decide +kernel
theorem d_Md_written_52 : decode b_Md_written 52 = .ok (.aload_n 0, 1) := by decide +kernel
theorem d_Md_written_53 : decode b_Md_written 53 = .ok (.getfield 88, 3) := by decide +kernel
theorem d_Md_written_56 : decode b_Md_written 56 = .ok (.iload_n 1, 1) := by decide +kernel
theorem d_Md_written_57 : decode b_Md_written 57 = .ok (.iaload, 1) := by decide +kernel
theorem d_Md_written_58 : decode b_Md_written 58 = .ok (.goto 23, 3) := by decide +kernel
theorem d_Md_written_61 : decode b_Md_written 61 = .ok (.iload_n 2, 1) := by decide +kernel
theorem d_Md_written_62 : decode b_Md_written 62 = .ok (.iconst 1, 1) := by decide +kernel
theorem d_Md_written_63 : decode b_Md_written 63 = .ok (.if_icmp .ne 12, 3) := by decide +kernel
theorem d_Md_written_66 : decode b_Md_written 66 = .ok (.aload_n 0, 1) := by decide +kernel
theorem d_Md_written_67 : decode b_Md_written 67 = .ok (.getfield 91, 3) := by decide +kernel
theorem d_Md_written_70 : decode b_Md_written 70 = .ok (.iload_n 1, 1) := by decide +kernel
theorem d_Md_written_71 : decode b_Md_written 71 = .ok (.iaload, 1) := by decide +kernel
theorem d_Md_written_72 : decode b_Md_written 72 = .ok (.goto 9, 3) := by decide +kernel
theorem d_Md_written_75 : decode b_Md_written 75 = .ok (.aload_n 0, 1) := by decide +kernel
theorem d_Md_written_76 : decode b_Md_written 76 = .ok (.getfield 94, 3) := by decide +kernel
theorem d_Md_written_79 : decode b_Md_written 79 = .ok (.iload_n 1, 1) := by decide +kernel
theorem d_Md_written_80 : decode b_Md_written 80 = .ok (.iaload, 1) := by decide +kernel
theorem d_Md_written_81 : decode b_Md_written 81 = .ok (.ireturn, 1) := by decide +kernel
theorem hg_Md_written : fx_mw fx_g "FixityTreesModel" y_Md_written b_Md_written 3 (some .int) := ⟨fx_in 1253 (by decide +kernel) (by decide +kernel), fx_in 1254 (by decide +kernel) (by decide +kernel), fx_in 9 (by decide +kernel) (by decide +kernel), fx_in 1255 (by decide +kernel) (by decide +kernel)⟩
abbrev b_Md_take : ByteArray := prog_10_method_47_code
abbrev y_Md_take : MethodName := ⟨"FixityTreesModel", "take", "()I"⟩
theorem d_Md_take_0 : decode b_Md_take 0 = .ok (.iconst 0, 1) := by decide +kernel
theorem d_Md_take_1 : decode b_Md_take 1 = .ok (.istore_n 1, 1) := by decide +kernel
theorem d_Md_take_2 : decode b_Md_take 2 = .ok (.iconst 0, 1) := by decide +kernel
theorem d_Md_take_3 : decode b_Md_take 3 = .ok (.istore_n 2, 1) := by decide +kernel
theorem d_Md_take_4 : decode b_Md_take 4 = .ok (.iconst 0, 1) := by decide +kernel
theorem d_Md_take_5 : decode b_Md_take 5 = .ok (.istore_n 3, 1) := by decide +kernel
theorem d_Md_take_6 : decode b_Md_take 6 = .ok (.iload_n 3, 1) := by decide +kernel
theorem d_Md_take_7 : decode b_Md_take 7 = .ok (.aload_n 0, 1) := by decide +kernel
theorem d_Md_take_8 : decode b_Md_take 8 = .ok (.getfield 234, 3) := by decide +kernel
theorem d_Md_take_11 : decode b_Md_take 11 = .ok (.if_icmp .ge 52, 3) := by decide +kernel
theorem d_Md_take_14 : decode b_Md_take 14 = .ok (.iload_n 1, 1) := by decide +kernel
theorem d_Md_take_15 : decode b_Md_take 15 = .ok (.aload_n 0, 1) := by decide +kernel
theorem d_Md_take_16 : decode b_Md_take 16 = .ok (.getfield 88, 3) := by decide +kernel
theorem d_Md_take_19 : decode b_Md_take 19 = .ok (.iload_n 3, 1) := by decide +kernel
theorem d_Md_take_20 : decode b_Md_take 20 = .ok (.iaload, 1) := by decide +kernel
theorem d_Md_take_21 : decode b_Md_take 21 = .ok (.iconst 3, 1) := by decide +kernel
theorem d_Md_take_22 : decode b_Md_take 22 = .ok (.if_icmp .ne 7, 3) := by decide +kernel
theorem d_Md_take_25 : decode b_Md_take 25 = .ok (.iconst 1, 1) := by decide +kernel
theorem d_Md_take_26 : decode b_Md_take 26 = .ok (.goto 18, 3) := by decide +kernel
theorem d_Md_take_29 : decode b_Md_take 29 = .ok (.aload_n 0, 1) := by decide +kernel
theorem d_Md_take_30 : decode b_Md_take 30 = .ok (.getfield 88, 3) := by decide +kernel
theorem d_Md_take_33 : decode b_Md_take 33 = .ok (.iload_n 3, 1) := by decide +kernel
theorem d_Md_take_34 : decode b_Md_take 34 = .ok (.iaload, 1) := by decide +kernel
theorem d_Md_take_35 : decode b_Md_take 35 = .ok (.iconst 4, 1) := by decide +kernel
theorem d_Md_take_36 : decode b_Md_take 36 = .ok (.if_icmp .ne 7, 3) := by decide +kernel
theorem d_Md_take_39 : decode b_Md_take 39 = .ok (.iconst (-1), 1) := by decide +kernel
theorem d_Md_take_40 : decode b_Md_take 40 = .ok (.goto 4, 3) := by decide +kernel
theorem d_Md_take_43 : decode b_Md_take 43 = .ok (.iconst 0, 1) := by decide +kernel
theorem d_Md_take_44 : decode b_Md_take 44 = .ok (.iadd, 1) := by decide +kernel
theorem d_Md_take_45 : decode b_Md_take 45 = .ok (.istore_n 1, 1) := by decide +kernel
theorem d_Md_take_46 : decode b_Md_take 46 = .ok (.iload_n 1, 1) := by decide +kernel
theorem d_Md_take_47 : decode b_Md_take 47 = .ok (.iload_n 2, 1) := by decide +kernel
theorem d_Md_take_48 : decode b_Md_take 48 = .ok (.if_icmp .le 7, 3) := by decide +kernel
theorem d_Md_take_51 : decode b_Md_take 51 = .ok (.iload_n 1, 1) := by decide +kernel
theorem d_Md_take_52 : decode b_Md_take 52 = .ok (.goto 4, 3) := by decide +kernel
theorem d_Md_take_55 : decode b_Md_take 55 = .ok (.iload_n 2, 1) := by decide +kernel
theorem d_Md_take_56 : decode b_Md_take 56 = .ok (.istore_n 2, 1) := by decide +kernel
theorem d_Md_take_57 : decode b_Md_take 57 = .ok (.iinc 3 1, 3) := by decide +kernel
theorem d_Md_take_60 : decode b_Md_take 60 = .ok (.goto (-54), 3) := by decide +kernel
theorem d_Md_take_63 : decode b_Md_take 63 = .ok (.aload_n 0, 1) := by decide +kernel
theorem d_Md_take_64 : decode b_Md_take 64 = .ok (.aload_n 0, 1) := by decide +kernel
theorem d_Md_take_65 : decode b_Md_take 65 = .ok (.getfield 247, 3) := by decide +kernel
theorem d_Md_take_68 : decode b_Md_take 68 = .ok (.ifCond .eq 19, 3) := by decide +kernel
theorem d_Md_take_71 : decode b_Md_take 71 = .ok (.aload_n 0, 1) := by decide +kernel
theorem d_Md_take_72 : decode b_Md_take 72 = .ok (.getfield 234, 3) := by decide +kernel
theorem d_Md_take_75 : decode b_Md_take 75 = .ok (.sipush 200, 3) := by decide +kernel
theorem d_Md_take_78 : decode b_Md_take 78 = .ok (.if_icmp .gt 9, 3) := by decide +kernel
theorem d_Md_take_81 : decode b_Md_take 81 = .ok (.iload_n 2, 1) := by decide +kernel
theorem d_Md_take_82 : decode b_Md_take 82 = .ok (.bipush 40, 2) := by decide +kernel
theorem d_Md_take_84 : decode b_Md_take 84 = .ok (.if_icmp .le 7, 3) := by decide +kernel
theorem d_Md_take_87 : decode b_Md_take 87 = .ok (.iconst 1, 1) := by decide +kernel
theorem d_Md_take_88 : decode b_Md_take 88 = .ok (.goto 4, 3) := by decide +kernel
theorem d_Md_take_91 : decode b_Md_take 91 = .ok (.iconst 0, 1) := by decide +kernel
theorem d_Md_take_92 : decode b_Md_take 92 = .ok (.invokevirtual 124, 3) := by decide +kernel
theorem d_Md_take_95 : decode b_Md_take 95 = .ok (.ifCond .ne 5, 3) := by decide +kernel
theorem d_Md_take_98 : decode b_Md_take 98 = .ok (.iconst 0, 1) := by decide +kernel
theorem d_Md_take_99 : decode b_Md_take 99 = .ok (.ireturn, 1) := by decide +kernel
theorem d_Md_take_100 : decode b_Md_take 100 = .ok (.aload_n 0, 1) := by decide +kernel
theorem d_Md_take_101 : decode b_Md_take 101 = .ok (.iconst 0, 1) := by decide +kernel
theorem d_Md_take_102 : decode b_Md_take 102 = .ok (.putfield 140, 3) := by decide +kernel
theorem d_Md_take_105 : decode b_Md_take 105 = .ok (.aload_n 0, 1) := by decide +kernel
theorem d_Md_take_106 : decode b_Md_take 106 = .ok (.iconst 0, 1) := by decide +kernel
theorem d_Md_take_107 : decode b_Md_take 107 = .ok (.putfield 143, 3) := by decide +kernel
theorem d_Md_take_110 : decode b_Md_take 110 = .ok (.aload_n 0, 1) := by decide +kernel
theorem d_Md_take_111 : decode b_Md_take 111 = .ok (.iconst 0, 1) := by decide +kernel
theorem d_Md_take_112 : decode b_Md_take 112 = .ok (.putfield 146, 3) := by decide +kernel
theorem d_Md_take_115 : decode b_Md_take 115 = .ok (.iconst 0, 1) := by decide +kernel
theorem d_Md_take_116 : decode b_Md_take 116 = .ok (.istore_n 3, 1) := by decide +kernel
theorem d_Md_take_117 : decode b_Md_take 117 = .ok (.iload_n 3, 1) := by decide +kernel
theorem d_Md_take_118 : decode b_Md_take 118 = .ok (.aload_n 0, 1) := by decide +kernel
theorem d_Md_take_119 : decode b_Md_take 119 = .ok (.getfield 234, 3) := by decide +kernel
theorem d_Md_take_122 : decode b_Md_take 122 = .ok (.if_icmp .ge 33, 3) := by decide +kernel
theorem d_Md_take_125 : decode b_Md_take 125 = .ok (.aload_n 0, 1) := by decide +kernel
theorem d_Md_take_126 : decode b_Md_take 126 = .ok (.aload_n 0, 1) := by decide +kernel
theorem d_Md_take_127 : decode b_Md_take 127 = .ok (.getfield 88, 3) := by decide +kernel
theorem d_Md_take_130 : decode b_Md_take 130 = .ok (.iload_n 3, 1) := by decide +kernel
theorem d_Md_take_131 : decode b_Md_take 131 = .ok (.iaload, 1) := by decide +kernel
theorem d_Md_take_132 : decode b_Md_take 132 = .ok (.aload_n 0, 1) := by decide +kernel
theorem d_Md_take_133 : decode b_Md_take 133 = .ok (.getfield 91, 3) := by decide +kernel
theorem d_Md_take_136 : decode b_Md_take 136 = .ok (.iload_n 3, 1) := by decide +kernel
theorem d_Md_take_137 : decode b_Md_take 137 = .ok (.iaload, 1) := by decide +kernel
theorem d_Md_take_138 : decode b_Md_take 138 = .ok (.aload_n 0, 1) := by decide +kernel
theorem d_Md_take_139 : decode b_Md_take 139 = .ok (.getfield 97, 3) := by decide +kernel
theorem d_Md_take_142 : decode b_Md_take 142 = .ok (.iload_n 3, 1) := by decide +kernel
theorem d_Md_take_143 : decode b_Md_take 143 = .ok (.laload, 1) := by decide +kernel
theorem d_Md_take_144 : decode b_Md_take 144 = .ok (.invokevirtual 158, 3) := by decide +kernel
theorem d_Md_take_147 : decode b_Md_take 147 = .ok (.istore 4, 2) := by decide +kernel
theorem d_Md_take_149 : decode b_Md_take 149 = .ok (.iinc 3 1, 3) := by decide +kernel
theorem d_Md_take_152 : decode b_Md_take 152 = .ok (.goto (-35), 3) := by decide +kernel
theorem d_Md_take_155 : decode b_Md_take 155 = .ok (.aload_n 0, 1) := by decide +kernel
theorem d_Md_take_156 : decode b_Md_take 156 = .ok (.getfield 140, 3) := by decide +kernel
theorem d_Md_take_159 : decode b_Md_take 159 = .ok (.ireturn, 1) := by decide +kernel
theorem hg_Md_take : fx_mw fx_g "FixityTreesModel" y_Md_take b_Md_take 5 (some .int) := ⟨fx_in 1257 (by decide +kernel) (by decide +kernel), fx_in 1258 (by decide +kernel) (by decide +kernel), fx_in 9 (by decide +kernel) (by decide +kernel), fx_in 1259 (by decide +kernel) (by decide +kernel)⟩
abbrev b_Md_same : ByteArray := prog_10_method_48_code
abbrev y_Md_same : MethodName := ⟨"FixityTreesModel", "same", "(I)Z"⟩
theorem d_Md_same_0 : decode b_Md_same 0 = .ok (.aload_n 0, 1) := by decide +kernel
theorem d_Md_same_1 : decode b_Md_same 1 = .ok (.iload_n 1, 1) := by decide +kernel
theorem d_Md_same_2 : decode b_Md_same 2 = .ok (.invokevirtual 215, 3) := by decide +kernel
theorem d_Md_same_5 : decode b_Md_same 5 = .ok (.istore_n 2, 1) := by decide +kernel
theorem d_Md_same_6 : decode b_Md_same 6 = .ok (.aload_n 0, 1) := by decide +kernel
theorem d_Md_same_7 : decode b_Md_same 7 = .ok (.iload_n 2, 1) := by decide +kernel
theorem d_Md_same_8 : decode b_Md_same 8 = .ok (.ifCond .le 7, 3) := by decide +kernel
theorem d_Md_same_11 : decode b_Md_same 11 = .ok (.iload_n 2, 1) := by decide +kernel
theorem d_Md_same_12 : decode b_Md_same 12 = .ok (.goto 15, 3) := by decide +kernel
theorem d_Md_same_15 : decode b_Md_same 15 = .ok (.aload_n 0, 1) := by decide +kernel
theorem d_Md_same_16 : decode b_Md_same 16 = .ok (.getfield 222, 3) := by decide +kernel
theorem d_Md_same_19 : decode b_Md_same 19 = .ok (.ifCond .ne 7, 3) := by decide +kernel
theorem d_Md_same_22 : decode b_Md_same 22 = .ok (.iconst 2, 1) := by decide +kernel
theorem d_Md_same_23 : decode b_Md_same 23 = .ok (.goto 4, 3) := by decide +kernel
theorem d_Md_same_26 : decode b_Md_same 26 = .ok (.iconst 0, 1) := by decide +kernel
theorem d_Md_same_27 : decode b_Md_same 27 = .ok (.invokevirtual 124, 3) := by decide +kernel
theorem d_Md_same_30 : decode b_Md_same 30 = .ok (.ifCond .ne 5, 3) := by decide +kernel
theorem d_Md_same_33 : decode b_Md_same 33 = .ok (.iconst 0, 1) := by decide +kernel
theorem d_Md_same_34 : decode b_Md_same 34 = .ok (.ireturn, 1) := by decide +kernel
theorem d_Md_same_35 : decode b_Md_same 35 = .ok (.aload_n 0, 1) := by decide +kernel
theorem d_Md_same_36 : decode b_Md_same 36 = .ok (.iload_n 1, 1) := by decide +kernel
theorem d_Md_same_37 : decode b_Md_same 37 = .ok (.invokevirtual 219, 3) := by decide +kernel
theorem d_Md_same_40 : decode b_Md_same 40 = .ok (.ifCond .ne 5, 3) := by decide +kernel
theorem d_Md_same_43 : decode b_Md_same 43 = .ok (.iconst 0, 1) := by decide +kernel
theorem d_Md_same_44 : decode b_Md_same 44 = .ok (.ireturn, 1) := by decide +kernel
theorem d_Md_same_45 : decode b_Md_same 45 = .ok (.aload_n 0, 1) := by decide +kernel
theorem d_Md_same_46 : decode b_Md_same 46 = .ok (.aload_n 0, 1) := by decide +kernel
theorem d_Md_same_47 : decode b_Md_same 47 = .ok (.iload_n 1, 1) := by decide +kernel
theorem d_Md_same_48 : decode b_Md_same 48 = .ok (.sipush 200, 3) := by decide +kernel
theorem d_Md_same_51 : decode b_Md_same 51 = .ok (.invokevirtual 228, 3) := by decide +kernel
theorem d_Md_same_54 : decode b_Md_same 54 = .ok (.putfield 260, 3) := by decide +kernel
theorem d_Md_same_57 : decode b_Md_same 57 = .ok (.aload_n 0, 1) := by decide +kernel
theorem d_Md_same_58 : decode b_Md_same 58 = .ok (.getfield 260, 3) := by decide +kernel
theorem d_Md_same_61 : decode b_Md_same 61 = .ok (.aload_n 0, 1) := by decide +kernel
theorem d_Md_same_62 : decode b_Md_same 62 = .ok (.getfield 222, 3) := by decide +kernel
theorem d_Md_same_65 : decode b_Md_same 65 = .ok (.if_icmp .ne 7, 3) := by decide +kernel
theorem d_Md_same_68 : decode b_Md_same 68 = .ok (.iconst 1, 1) := by decide +kernel
theorem d_Md_same_69 : decode b_Md_same 69 = .ok (.goto 4, 3) := by decide +kernel
theorem d_Md_same_72 : decode b_Md_same 72 = .ok (.iconst 0, 1) := by decide +kernel
theorem d_Md_same_73 : decode b_Md_same 73 = .ok (.istore_n 3, 1) := by decide +kernel
theorem d_Md_same_74 : decode b_Md_same 74 = .ok (.iconst 0, 1) := by decide +kernel
theorem d_Md_same_75 : decode b_Md_same 75 = .ok (.istore 4, 2) := by decide +kernel
theorem d_Md_same_77 : decode b_Md_same 77 = .ok (.iload 4, 2) := by decide +kernel
theorem d_Md_same_79 : decode b_Md_same 79 = .ok (.aload_n 0, 1) := by decide +kernel
theorem d_Md_same_80 : decode b_Md_same 80 = .ok (.getfield 222, 3) := by decide +kernel
theorem d_Md_same_83 : decode b_Md_same 83 = .ok (.if_icmp .ge 133, 3) := by decide +kernel
theorem d_Md_same_86 : decode b_Md_same 86 = .ok (.iload_n 3, 1) := by decide +kernel
theorem d_Md_same_87 : decode b_Md_same 87 = .ok (.ifCond .eq 129, 3) := by decide +kernel
theorem d_Md_same_90 : decode b_Md_same 90 = .ok (.sipush 200, 3) := by decide +kernel
theorem d_Md_same_93 : decode b_Md_same 93 = .ok (.iload 4, 2) := by decide +kernel
theorem d_Md_same_95 : decode b_Md_same 95 = .ok (.iadd, 1) := by decide +kernel
theorem d_Md_same_96 : decode b_Md_same 96 = .ok (.istore 5, 2) := by decide +kernel
theorem d_Md_same_98 : decode b_Md_same 98 = .ok (.aload_n 0, 1) := by decide +kernel
theorem d_Md_same_99 : decode b_Md_same 99 = .ok (.getfield 32, 3) := by decide +kernel
theorem d_Md_same_102 : decode b_Md_same 102 = .ok (.iload 4, 2) := by decide +kernel
theorem d_Md_same_104 : decode b_Md_same 104 = .ok (.iaload, 1) := by decide +kernel
theorem d_Md_same_105 : decode b_Md_same 105 = .ok (.aload_n 0, 1) := by decide +kernel
theorem d_Md_same_106 : decode b_Md_same 106 = .ok (.getfield 32, 3) := by decide +kernel
theorem d_Md_same_109 : decode b_Md_same 109 = .ok (.iload 5, 2) := by decide +kernel
theorem d_Md_same_111 : decode b_Md_same 111 = .ok (.iaload, 1) := by decide +kernel
theorem d_Md_same_112 : decode b_Md_same 112 = .ok (.if_icmp .ne 58, 3) := by decide +kernel
theorem d_Md_same_115 : decode b_Md_same 115 = .ok (.aload_n 0, 1) := by decide +kernel
theorem d_Md_same_116 : decode b_Md_same 116 = .ok (.getfield 35, 3) := by decide +kernel
theorem d_Md_same_119 : decode b_Md_same 119 = .ok (.iload 4, 2) := by decide +kernel
theorem d_Md_same_121 : decode b_Md_same 121 = .ok (.iaload, 1) := by decide +kernel
theorem d_Md_same_122 : decode b_Md_same 122 = .ok (.aload_n 0, 1) := by decide +kernel
theorem d_Md_same_123 : decode b_Md_same 123 = .ok (.getfield 35, 3) := by decide +kernel
theorem d_Md_same_126 : decode b_Md_same 126 = .ok (.iload 5, 2) := by decide +kernel
theorem d_Md_same_128 : decode b_Md_same 128 = .ok (.iaload, 1) := by decide +kernel
theorem d_Md_same_129 : decode b_Md_same 129 = .ok (.if_icmp .ne 41, 3) := by decide +kernel
theorem d_Md_same_132 : decode b_Md_same 132 = .ok (.aload_n 0, 1) := by decide +kernel
theorem d_Md_same_133 : decode b_Md_same 133 = .ok (.getfield 38, 3) := by decide +kernel
theorem d_Md_same_136 : decode b_Md_same 136 = .ok (.iload 4, 2) := by decide +kernel
theorem d_Md_same_138 : decode b_Md_same 138 = .ok (.iaload, 1) := by decide +kernel
theorem d_Md_same_139 : decode b_Md_same 139 = .ok (.aload_n 0, 1) := by decide +kernel
theorem d_Md_same_140 : decode b_Md_same 140 = .ok (.getfield 38, 3) := by decide +kernel
theorem d_Md_same_143 : decode b_Md_same 143 = .ok (.iload 5, 2) := by decide +kernel
theorem d_Md_same_145 : decode b_Md_same 145 = .ok (.iaload, 1) := by decide +kernel
theorem d_Md_same_146 : decode b_Md_same 146 = .ok (.if_icmp .ne 24, 3) := by decide +kernel
theorem d_Md_same_149 : decode b_Md_same 149 = .ok (.aload_n 0, 1) := by decide +kernel
theorem d_Md_same_150 : decode b_Md_same 150 = .ok (.getfield 41, 3) := by decide +kernel
theorem d_Md_same_153 : decode b_Md_same 153 = .ok (.iload 4, 2) := by decide +kernel
theorem d_Md_same_155 : decode b_Md_same 155 = .ok (.iaload, 1) := by decide +kernel
theorem d_Md_same_156 : decode b_Md_same 156 = .ok (.aload_n 0, 1) := by decide +kernel
theorem d_Md_same_157 : decode b_Md_same 157 = .ok (.getfield 41, 3) := by decide +kernel
theorem d_Md_same_160 : decode b_Md_same 160 = .ok (.iload 5, 2) := by decide +kernel
theorem d_Md_same_162 : decode b_Md_same 162 = .ok (.iaload, 1) := by decide +kernel
theorem d_Md_same_163 : decode b_Md_same 163 = .ok (.if_icmp .ne 7, 3) := by decide +kernel
theorem d_Md_same_166 : decode b_Md_same 166 = .ok (.iconst 1, 1) := by decide +kernel
theorem d_Md_same_167 : decode b_Md_same 167 = .ok (.goto 4, 3) := by decide +kernel
theorem d_Md_same_170 : decode b_Md_same 170 = .ok (.iconst 0, 1) := by decide +kernel
theorem d_Md_same_171 : decode b_Md_same 171 = .ok (.istore_n 3, 1) := by decide +kernel
theorem d_Md_same_172 : decode b_Md_same 172 = .ok (.iload_n 3, 1) := by decide +kernel
theorem d_Md_same_173 : decode b_Md_same 173 = .ok (.ifCond .eq 35, 3) := by decide +kernel
theorem d_Md_same_176 : decode b_Md_same 176 = .ok (.aload_n 0, 1) := by decide +kernel
theorem d_Md_same_177 : decode b_Md_same 177 = .ok (.getfield 32, 3) := by decide +kernel
theorem d_Md_same_180 : decode b_Md_same 180 = .ok (.iload 4, 2) := by decide +kernel
theorem d_Md_same_182 : decode b_Md_same 182 = .ok (.iaload, 1) := by decide +kernel
theorem d_Md_same_183 : decode b_Md_same 183 = .ok (.ifCond .ne 21, 3) := by decide +kernel
theorem d_Md_same_186 : decode b_Md_same 186 = .ok (.aload_n 0, 1) := by decide +kernel
theorem d_Md_same_187 : decode b_Md_same 187 = .ok (.getfield 50, 3) := by decide +kernel
theorem d_Md_same_190 : decode b_Md_same 190 = .ok (.iload 4, 2) := by decide +kernel
theorem d_Md_same_192 : decode b_Md_same 192 = .ok (.laload, 1) := by decide +kernel
theorem d_Md_same_193 : decode b_Md_same 193 = .ok (.aload_n 0, 1) := by decide +kernel
theorem d_Md_same_194 : decode b_Md_same 194 = .ok (.getfield 50, 3) := by decide +kernel
theorem d_Md_same_197 : decode b_Md_same 197 = .ok (.iload 5, 2) := by decide +kernel
theorem d_Md_same_199 : decode b_Md_same 199 = .ok (.laload, 1) := by decide +kernel
theorem d_Md_same_200 : decode b_Md_same 200 = .ok (.lcmp, 1) := by decide +kernel
theorem d_Md_same_201 : decode b_Md_same 201 = .ok (.ifCond .ne 7, 3) := by decide +kernel
theorem d_Md_same_204 : decode b_Md_same 204 = .ok (.iconst 1, 1) := by decide +kernel
theorem d_Md_same_205 : decode b_Md_same 205 = .ok (.goto 4, 3) := by decide +kernel
theorem d_Md_same_208 : decode b_Md_same 208 = .ok (.iconst 0, 1) := by decide +kernel
theorem d_Md_same_209 : decode b_Md_same 209 = .ok (.istore_n 3, 1) := by decide +kernel
theorem d_Md_same_210 : decode b_Md_same 210 = .ok (.iinc 4 1, 3) := by decide +kernel
theorem d_Md_same_213 : decode b_Md_same 213 = .ok (.goto (-136), 3) := by decide +kernel
theorem d_Md_same_216 : decode b_Md_same 216 = .ok (.iload_n 3, 1) := by decide +kernel
theorem d_Md_same_217 : decode b_Md_same 217 = .ok (.ireturn, 1) := by decide +kernel
theorem hg_Md_same : fx_mw fx_g "FixityTreesModel" y_Md_same b_Md_same 6 (some .boolean) := ⟨fx_in 1261 (by decide +kernel) (by decide +kernel), fx_in 1262 (by decide +kernel) (by decide +kernel), fx_in 9 (by decide +kernel) (by decide +kernel), fx_in 1263 (by decide +kernel) (by decide +kernel)⟩
abbrev b_Md_told : ByteArray := prog_10_method_49_code
abbrev y_Md_told : MethodName := ⟨"FixityTreesModel", "told", "(I)I"⟩
theorem d_Md_told_0 : decode b_Md_told 0 = .ok (.aload_n 0, 1) := by decide +kernel
theorem d_Md_told_1 : decode b_Md_told 1 = .ok (.iload_n 1, 1) := by decide +kernel
theorem d_Md_told_2 : decode b_Md_told 2 = .ok (.iconst 0, 1) := by decide +kernel
theorem d_Md_told_3 : decode b_Md_told 3 = .ok (.bipush 6, 2) := by decide +kernel
theorem d_Md_told_5 : decode b_Md_told 5 = .ok (.invokestatic 116, 3) := by decide +kernel
theorem d_Md_told_8 : decode b_Md_told 8 = .ok (.ifCond .eq 7, 3) := by decide +kernel
theorem d_Md_told_11 : decode b_Md_told 11 = .ok (.iconst 0, 1) := by decide +kernel
theorem d_Md_told_12 : decode b_Md_told 12 = .ok (.goto 4, 3) := by decide +kernel
theorem d_Md_told_15 : decode b_Md_told 15 = .ok (.iconst 1, 1) := by decide +kernel
theorem d_Md_told_16 : decode b_Md_told 16 = .ok (.invokevirtual 124, 3) := by decide +kernel
theorem d_Md_told_19 : decode b_Md_told 19 = .ok (.ifCond .ne 5, 3) := by decide +kernel
theorem d_Md_told_22 : decode b_Md_told 22 = .ok (.iconst 0, 1) := by decide +kernel
theorem d_Md_told_23 : decode b_Md_told 23 = .ok (.ireturn, 1) := by decide +kernel
theorem d_Md_told_24 : decode b_Md_told 24 = .ok (.iload_n 1, 1) := by decide +kernel
theorem d_Md_told_25 : decode b_Md_told 25 = .ok (.tableswitch 77 0 5 #[39, 44, 49, 62, 67, 72], 39) := by decide +kernel
theorem d_Md_told_64 : decode b_Md_told 64 = .ok (.aload_n 0, 1) := by decide +kernel
theorem d_Md_told_65 : decode b_Md_told 65 = .ok (.getfield 140, 3) := by decide +kernel
theorem d_Md_told_68 : decode b_Md_told 68 = .ok (.ireturn, 1) := by decide +kernel
theorem d_Md_told_69 : decode b_Md_told 69 = .ok (.aload_n 0, 1) := by decide +kernel
theorem d_Md_told_70 : decode b_Md_told 70 = .ok (.getfield 143, 3) := by decide +kernel
theorem d_Md_told_73 : decode b_Md_told 73 = .ok (.ireturn, 1) := by decide +kernel
theorem d_Md_told_74 : decode b_Md_told 74 = .ok (.aload_n 0, 1) := by decide +kernel
theorem d_Md_told_75 : decode b_Md_told 75 = .ok (.invokevirtual 154, 3) := by decide +kernel
theorem d_Md_told_78 : decode b_Md_told 78 = .ok (.ifCond .eq 7, 3) := by decide +kernel
theorem d_Md_told_81 : decode b_Md_told 81 = .ok (.iconst 1, 1) := by decide +kernel
theorem d_Md_told_82 : decode b_Md_told 82 = .ok (.goto 4, 3) := by decide +kernel
theorem d_Md_told_85 : decode b_Md_told 85 = .ok (.iconst 0, 1) := by decide +kernel
theorem d_Md_told_86 : decode b_Md_told 86 = .ok (.ireturn, 1) := by decide +kernel
theorem d_Md_told_87 : decode b_Md_told 87 = .ok (.aload_n 0, 1) := by decide +kernel
theorem d_Md_told_88 : decode b_Md_told 88 = .ok (.getfield 106, 3) := by decide +kernel
theorem d_Md_told_91 : decode b_Md_told 91 = .ok (.ireturn, 1) := by decide +kernel
theorem d_Md_told_92 : decode b_Md_told 92 = .ok (.aload_n 0, 1) := by decide +kernel
theorem d_Md_told_93 : decode b_Md_told 93 = .ok (.getfield 222, 3) := by decide +kernel
theorem d_Md_told_96 : decode b_Md_told 96 = .ok (.ireturn, 1) := by decide +kernel
theorem d_Md_told_97 : decode b_Md_told 97 = .ok (.aload_n 0, 1) := by decide +kernel
theorem d_Md_told_98 : decode b_Md_told 98 = .ok (.getfield 225, 3) := by decide +kernel
theorem d_Md_told_101 : decode b_Md_told 101 = .ok (.ireturn, 1) := by decide +kernel
theorem d_Md_told_102 : decode b_Md_told 102 = .ok (.aload_n 0, 1) := by decide +kernel
theorem d_Md_told_103 : decode b_Md_told 103 = .ok (.getfield 222, 3) := by decide +kernel
theorem d_Md_told_106 : decode b_Md_told 106 = .ok (.ifCond .ne 7, 3) := by decide +kernel
theorem d_Md_told_109 : decode b_Md_told 109 = .ok (.iconst 0, 1) := by decide +kernel
theorem d_Md_told_110 : decode b_Md_told 110 = .ok (.goto 7, 3) := by decide +kernel
theorem d_Md_told_113 : decode b_Md_told 113 = .ok (.aload_n 0, 1) := by decide +kernel
theorem d_Md_told_114 : decode b_Md_told 114 = .ok (.getfield 231, 3) := by decide +kernel
theorem d_Md_told_117 : decode b_Md_told 117 = .ok (.ireturn, 1) := by decide +kernel
theorem hg_Md_told : fx_mw fx_g "FixityTreesModel" y_Md_told b_Md_told 2 (some .int) := ⟨fx_in 1265 (by decide +kernel) (by decide +kernel), fx_in 1266 (by decide +kernel) (by decide +kernel), fx_in 9 (by decide +kernel) (by decide +kernel), fx_in 1267 (by decide +kernel) (by decide +kernel)⟩
