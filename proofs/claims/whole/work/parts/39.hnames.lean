abbrev b_Lw_scope : ByteArray := method_3_code
abbrev y_Lw_scope : MethodName := ⟨"FixityTreesLaw", "scope", "(LFixityTrees;I[J)I"⟩
theorem d_Lw_scope_0 : decode b_Lw_scope 0 = .ok (.aload_n 2, 1) := by decide +kernel
theorem d_Lw_scope_1 : decode b_Lw_scope 1 = .ok (.iconst 0, 1) := by decide +kernel
theorem d_Lw_scope_2 : decode b_Lw_scope 2 = .ok (.aload_n 0, 1) := by decide +kernel
theorem d_Lw_scope_3 : decode b_Lw_scope 3 = .ok (.iload_n 1, 1) := by decide +kernel
theorem d_Lw_scope_4 : decode b_Lw_scope 4 = .ok (.invokevirtual 7, 3) := by decide +kernel
theorem d_Lw_scope_7 : decode b_Lw_scope 7 = .ok (.i2l, 1) := by decide +kernel
theorem d_Lw_scope_8 : decode b_Lw_scope 8 = .ok (.lastore, 1) := by decide +kernel
theorem d_Lw_scope_9 : decode b_Lw_scope 9 = .ok (.goto 9, 3) := by decide +kernel
theorem d_Lw_scope_12 : decode b_Lw_scope 12 = .ok (.astore_n 3, 1) := by decide +kernel
theorem d_Lw_scope_13 : decode b_Lw_scope 13 = .ok (.iconst 1, 1) := by decide +kernel
theorem d_Lw_scope_14 : decode b_Lw_scope 14 = .ok (.ireturn, 1) := by decide +kernel
theorem d_Lw_scope_15 : decode b_Lw_scope 15 = .ok (.astore_n 3, 1) := by decide +kernel
theorem d_Lw_scope_16 : decode b_Lw_scope 16 = .ok (.iconst 2, 1) := by decide +kernel
theorem d_Lw_scope_17 : decode b_Lw_scope 17 = .ok (.ireturn, 1) := by decide +kernel
theorem d_Lw_scope_18 : decode b_Lw_scope 18 = .ok (.iconst 0, 1) := by decide +kernel
theorem d_Lw_scope_19 : decode b_Lw_scope 19 = .ok (.ireturn, 1) := by decide +kernel
theorem hg_Lw_scope : Cond.static y_Lw_scope ∈ fx_g ∧ Cond.initialized "FixityTreesLaw" ∈ fx_g ∧ Cond.codeWith y_Lw_scope b_Lw_scope 4 (some .int) [(0, 9, 12, 13), (0, 9, 15, 15)] ∈ fx_g := ⟨fx_in 264 (by decide +kernel) (by decide +kernel), fx_in 0 (by decide +kernel) (by decide +kernel), fx_in 265 (by decide +kernel) (by decide +kernel)⟩
theorem ll_7 : Cond.methodLink "FixityTreesLaw" 7 ⟨"FixityTrees", "scope", "(I)I"⟩ ∈ fx_g := fx_in 268 (by decide +kernel) (by decide +kernel)
abbrev b_Lw_fixity : ByteArray := method_4_code
abbrev y_Lw_fixity : MethodName := ⟨"FixityTreesLaw", "fixity", "(LFixityTrees;IIII)I"⟩
theorem d_Lw_fixity_0 : decode b_Lw_fixity 0 = .ok (.aload_n 0, 1) := by decide +kernel
theorem d_Lw_fixity_1 : decode b_Lw_fixity 1 = .ok (.iload_n 1, 1) := by decide +kernel
theorem d_Lw_fixity_2 : decode b_Lw_fixity 2 = .ok (.iload_n 2, 1) := by decide +kernel
theorem d_Lw_fixity_3 : decode b_Lw_fixity 3 = .ok (.iload_n 3, 1) := by decide +kernel
theorem d_Lw_fixity_4 : decode b_Lw_fixity 4 = .ok (.iload 4, 2) := by decide +kernel
theorem d_Lw_fixity_6 : decode b_Lw_fixity 6 = .ok (.invokevirtual 17, 3) := by decide +kernel
theorem d_Lw_fixity_9 : decode b_Lw_fixity 9 = .ok (.goto 15, 3) := by decide +kernel
theorem d_Lw_fixity_12 : decode b_Lw_fixity 12 = .ok (.astore 5, 2) := by decide +kernel
theorem d_Lw_fixity_14 : decode b_Lw_fixity 14 = .ok (.iconst 1, 1) := by decide +kernel
theorem d_Lw_fixity_15 : decode b_Lw_fixity 15 = .ok (.ireturn, 1) := by decide +kernel
theorem d_Lw_fixity_16 : decode b_Lw_fixity 16 = .ok (.astore 5, 2) := by decide +kernel
theorem d_Lw_fixity_18 : decode b_Lw_fixity 18 = .ok (.iconst 2, 1) := by decide +kernel
theorem d_Lw_fixity_19 : decode b_Lw_fixity 19 = .ok (.ireturn, 1) := by decide +kernel
theorem d_Lw_fixity_20 : decode b_Lw_fixity 20 = .ok (.astore 5, 2) := by decide +kernel
theorem d_Lw_fixity_22 : decode b_Lw_fixity 22 = .ok (.iconst 3, 1) := by decide +kernel
theorem d_Lw_fixity_23 : decode b_Lw_fixity 23 = .ok (.ireturn, 1) := by decide +kernel
theorem d_Lw_fixity_24 : decode b_Lw_fixity 24 = .ok (.iconst 0, 1) := by decide +kernel
theorem d_Lw_fixity_25 : decode b_Lw_fixity 25 = .ok (.ireturn, 1) := by decide +kernel
theorem hg_Lw_fixity : Cond.static y_Lw_fixity ∈ fx_g ∧ Cond.initialized "FixityTreesLaw" ∈ fx_g ∧ Cond.codeWith y_Lw_fixity b_Lw_fixity 6 (some .int) [(0, 9, 12, 13), (0, 9, 16, 15), (0, 9, 20, 21)] ∈ fx_g := ⟨fx_in 374 (by decide +kernel) (by decide +kernel), fx_in 0 (by decide +kernel) (by decide +kernel), fx_in 375 (by decide +kernel) (by decide +kernel)⟩
theorem ll_17 : Cond.methodLink "FixityTreesLaw" 17 ⟨"FixityTrees", "fixity", "(IIII)V"⟩ ∈ fx_g := fx_in 377 (by decide +kernel) (by decide +kernel)
abbrev b_Lw_looked : ByteArray := method_5_code
abbrev y_Lw_looked : MethodName := ⟨"FixityTreesLaw", "looked", "(LFixityTrees;III[J)I"⟩
theorem d_Lw_looked_0 : decode b_Lw_looked 0 = .ok (.aload 4, 2) := by decide +kernel
theorem d_Lw_looked_2 : decode b_Lw_looked 2 = .ok (.iconst 0, 1) := by decide +kernel
theorem d_Lw_looked_3 : decode b_Lw_looked 3 = .ok (.aload_n 0, 1) := by decide +kernel
theorem d_Lw_looked_4 : decode b_Lw_looked 4 = .ok (.iload_n 1, 1) := by decide +kernel
theorem d_Lw_looked_5 : decode b_Lw_looked 5 = .ok (.iload_n 2, 1) := by decide +kernel
theorem d_Lw_looked_6 : decode b_Lw_looked 6 = .ok (.iload_n 3, 1) := by decide +kernel
theorem d_Lw_looked_7 : decode b_Lw_looked 7 = .ok (.invokevirtual 23, 3) := by decide +kernel
theorem d_Lw_looked_10 : decode b_Lw_looked 10 = .ok (.i2l, 1) := by decide +kernel
theorem d_Lw_looked_11 : decode b_Lw_looked 11 = .ok (.lastore, 1) := by decide +kernel
theorem d_Lw_looked_12 : decode b_Lw_looked 12 = .ok (.goto 11, 3) := by decide +kernel
theorem d_Lw_looked_15 : decode b_Lw_looked 15 = .ok (.astore 5, 2) := by decide +kernel
theorem d_Lw_looked_17 : decode b_Lw_looked 17 = .ok (.iconst 1, 1) := by decide +kernel
theorem d_Lw_looked_18 : decode b_Lw_looked 18 = .ok (.ireturn, 1) := by decide +kernel
theorem d_Lw_looked_19 : decode b_Lw_looked 19 = .ok (.astore 5, 2) := by decide +kernel
theorem d_Lw_looked_21 : decode b_Lw_looked 21 = .ok (.iconst 2, 1) := by decide +kernel
theorem d_Lw_looked_22 : decode b_Lw_looked 22 = .ok (.ireturn, 1) := by decide +kernel
theorem d_Lw_looked_23 : decode b_Lw_looked 23 = .ok (.iconst 0, 1) := by decide +kernel
theorem d_Lw_looked_24 : decode b_Lw_looked 24 = .ok (.ireturn, 1) := by decide +kernel
theorem hg_Lw_looked : Cond.static y_Lw_looked ∈ fx_g ∧ Cond.initialized "FixityTreesLaw" ∈ fx_g ∧ Cond.codeWith y_Lw_looked b_Lw_looked 6 (some .int) [(0, 12, 15, 13), (0, 12, 19, 21)] ∈ fx_g := ⟨fx_in 423 (by decide +kernel) (by decide +kernel), fx_in 0 (by decide +kernel) (by decide +kernel), fx_in 424 (by decide +kernel) (by decide +kernel)⟩
theorem ll_23 : Cond.methodLink "FixityTreesLaw" 23 ⟨"FixityTrees", "looked", "(III)I"⟩ ∈ fx_g := fx_in 425 (by decide +kernel) (by decide +kernel)
abbrev b_Lw_operand : ByteArray := method_6_code
abbrev y_Lw_operand : MethodName := ⟨"FixityTreesLaw", "operand", "(LFixityTrees;J[J)I"⟩
theorem d_Lw_operand_0 : decode b_Lw_operand 0 = .ok (.aload_n 3, 1) := by decide +kernel
theorem d_Lw_operand_1 : decode b_Lw_operand 1 = .ok (.iconst 0, 1) := by decide +kernel
theorem d_Lw_operand_2 : decode b_Lw_operand 2 = .ok (.aload_n 0, 1) := by decide +kernel
theorem d_Lw_operand_3 : decode b_Lw_operand 3 = .ok (.lload_n 1, 1) := by decide +kernel
theorem d_Lw_operand_4 : decode b_Lw_operand 4 = .ok (.invokevirtual 27, 3) := by decide +kernel
theorem d_Lw_operand_7 : decode b_Lw_operand 7 = .ok (.i2l, 1) := by decide +kernel
theorem d_Lw_operand_8 : decode b_Lw_operand 8 = .ok (.lastore, 1) := by decide +kernel
theorem d_Lw_operand_9 : decode b_Lw_operand 9 = .ok (.goto 7, 3) := by decide +kernel
theorem d_Lw_operand_12 : decode b_Lw_operand 12 = .ok (.astore 4, 2) := by decide +kernel
theorem d_Lw_operand_14 : decode b_Lw_operand 14 = .ok (.iconst 1, 1) := by decide +kernel
theorem d_Lw_operand_15 : decode b_Lw_operand 15 = .ok (.ireturn, 1) := by decide +kernel
theorem d_Lw_operand_16 : decode b_Lw_operand 16 = .ok (.iconst 0, 1) := by decide +kernel
theorem d_Lw_operand_17 : decode b_Lw_operand 17 = .ok (.ireturn, 1) := by decide +kernel
theorem hg_Lw_operand : Cond.static y_Lw_operand ∈ fx_g ∧ Cond.initialized "FixityTreesLaw" ∈ fx_g ∧ Cond.codeWith y_Lw_operand b_Lw_operand 5 (some .int) [(0, 9, 12, 15)] ∈ fx_g := ⟨fx_in 444 (by decide +kernel) (by decide +kernel), fx_in 0 (by decide +kernel) (by decide +kernel), fx_in 445 (by decide +kernel) (by decide +kernel)⟩
theorem ll_27 : Cond.methodLink "FixityTreesLaw" 27 ⟨"FixityTrees", "operand", "(J)I"⟩ ∈ fx_g := fx_in 446 (by decide +kernel) (by decide +kernel)
abbrev b_Lw_operator : ByteArray := method_7_code
abbrev y_Lw_operator : MethodName := ⟨"FixityTreesLaw", "operator", "(LFixityTrees;I[J)I"⟩
theorem d_Lw_operator_0 : decode b_Lw_operator 0 = .ok (.aload_n 2, 1) := by decide +kernel
theorem d_Lw_operator_1 : decode b_Lw_operator 1 = .ok (.iconst 0, 1) := by decide +kernel
theorem d_Lw_operator_2 : decode b_Lw_operator 2 = .ok (.aload_n 0, 1) := by decide +kernel
theorem d_Lw_operator_3 : decode b_Lw_operator 3 = .ok (.iload_n 1, 1) := by decide +kernel
theorem d_Lw_operator_4 : decode b_Lw_operator 4 = .ok (.invokevirtual 31, 3) := by decide +kernel
theorem d_Lw_operator_7 : decode b_Lw_operator 7 = .ok (.i2l, 1) := by decide +kernel
theorem d_Lw_operator_8 : decode b_Lw_operator 8 = .ok (.lastore, 1) := by decide +kernel
theorem d_Lw_operator_9 : decode b_Lw_operator 9 = .ok (.goto 9, 3) := by decide +kernel
theorem d_Lw_operator_12 : decode b_Lw_operator 12 = .ok (.astore_n 3, 1) := by decide +kernel
theorem d_Lw_operator_13 : decode b_Lw_operator 13 = .ok (.iconst 1, 1) := by decide +kernel
theorem d_Lw_operator_14 : decode b_Lw_operator 14 = .ok (.ireturn, 1) := by decide +kernel
theorem d_Lw_operator_15 : decode b_Lw_operator 15 = .ok (.astore_n 3, 1) := by decide +kernel
theorem d_Lw_operator_16 : decode b_Lw_operator 16 = .ok (.iconst 2, 1) := by decide +kernel
theorem d_Lw_operator_17 : decode b_Lw_operator 17 = .ok (.ireturn, 1) := by decide +kernel
theorem d_Lw_operator_18 : decode b_Lw_operator 18 = .ok (.iconst 0, 1) := by decide +kernel
theorem d_Lw_operator_19 : decode b_Lw_operator 19 = .ok (.ireturn, 1) := by decide +kernel
theorem hg_Lw_operator : Cond.static y_Lw_operator ∈ fx_g ∧ Cond.initialized "FixityTreesLaw" ∈ fx_g ∧ Cond.codeWith y_Lw_operator b_Lw_operator 4 (some .int) [(0, 9, 12, 13), (0, 9, 15, 15)] ∈ fx_g := ⟨fx_in 496 (by decide +kernel) (by decide +kernel), fx_in 0 (by decide +kernel) (by decide +kernel), fx_in 497 (by decide +kernel) (by decide +kernel)⟩
theorem ll_31 : Cond.methodLink "FixityTreesLaw" 31 ⟨"FixityTrees", "operator", "(I)I"⟩ ∈ fx_g := fx_in 498 (by decide +kernel) (by decide +kernel)
abbrev b_Lw_open : ByteArray := method_8_code
abbrev y_Lw_open : MethodName := ⟨"FixityTreesLaw", "open", "(LFixityTrees;[J)I"⟩
theorem d_Lw_open_0 : decode b_Lw_open 0 = .ok (.aload_n 1, 1) := by decide +kernel
theorem d_Lw_open_1 : decode b_Lw_open 1 = .ok (.iconst 0, 1) := by decide +kernel
theorem d_Lw_open_2 : decode b_Lw_open 2 = .ok (.aload_n 0, 1) := by decide +kernel
theorem d_Lw_open_3 : decode b_Lw_open 3 = .ok (.invokevirtual 34, 3) := by decide +kernel
theorem d_Lw_open_6 : decode b_Lw_open 6 = .ok (.i2l, 1) := by decide +kernel
theorem d_Lw_open_7 : decode b_Lw_open 7 = .ok (.lastore, 1) := by decide +kernel
theorem d_Lw_open_8 : decode b_Lw_open 8 = .ok (.goto 6, 3) := by decide +kernel
theorem d_Lw_open_11 : decode b_Lw_open 11 = .ok (.astore_n 2, 1) := by decide +kernel
theorem d_Lw_open_12 : decode b_Lw_open 12 = .ok (.iconst 1, 1) := by decide +kernel
theorem d_Lw_open_13 : decode b_Lw_open 13 = .ok (.ireturn, 1) := by decide +kernel
theorem d_Lw_open_14 : decode b_Lw_open 14 = .ok (.iconst 0, 1) := by decide +kernel
theorem d_Lw_open_15 : decode b_Lw_open 15 = .ok (.ireturn, 1) := by decide +kernel
theorem hg_Lw_open : Cond.static y_Lw_open ∈ fx_g ∧ Cond.initialized "FixityTreesLaw" ∈ fx_g ∧ Cond.codeWith y_Lw_open b_Lw_open 3 (some .int) [(0, 8, 11, 15)] ∈ fx_g := ⟨fx_in 512 (by decide +kernel) (by decide +kernel), fx_in 0 (by decide +kernel) (by decide +kernel), fx_in 513 (by decide +kernel) (by decide +kernel)⟩
theorem ll_34 : Cond.methodLink "FixityTreesLaw" 34 ⟨"FixityTrees", "open", "()I"⟩ ∈ fx_g := fx_in 514 (by decide +kernel) (by decide +kernel)
abbrev b_Lw_close : ByteArray := method_9_code
abbrev y_Lw_close : MethodName := ⟨"FixityTreesLaw", "close", "(LFixityTrees;[J)I"⟩
theorem d_Lw_close_0 : decode b_Lw_close 0 = .ok (.aload_n 1, 1) := by decide +kernel
theorem d_Lw_close_1 : decode b_Lw_close 1 = .ok (.iconst 0, 1) := by decide +kernel
theorem d_Lw_close_2 : decode b_Lw_close 2 = .ok (.aload_n 0, 1) := by decide +kernel
theorem d_Lw_close_3 : decode b_Lw_close 3 = .ok (.invokevirtual 38, 3) := by decide +kernel
theorem d_Lw_close_6 : decode b_Lw_close 6 = .ok (.i2l, 1) := by decide +kernel
theorem d_Lw_close_7 : decode b_Lw_close 7 = .ok (.lastore, 1) := by decide +kernel
theorem d_Lw_close_8 : decode b_Lw_close 8 = .ok (.goto 6, 3) := by decide +kernel
theorem d_Lw_close_11 : decode b_Lw_close 11 = .ok (.astore_n 2, 1) := by decide +kernel
theorem d_Lw_close_12 : decode b_Lw_close 12 = .ok (.iconst 1, 1) := by decide +kernel
theorem d_Lw_close_13 : decode b_Lw_close 13 = .ok (.ireturn, 1) := by decide +kernel
theorem d_Lw_close_14 : decode b_Lw_close 14 = .ok (.iconst 0, 1) := by decide +kernel
theorem d_Lw_close_15 : decode b_Lw_close 15 = .ok (.ireturn, 1) := by decide +kernel
theorem hg_Lw_close : Cond.static y_Lw_close ∈ fx_g ∧ Cond.initialized "FixityTreesLaw" ∈ fx_g ∧ Cond.codeWith y_Lw_close b_Lw_close 3 (some .int) [(0, 8, 11, 15)] ∈ fx_g := ⟨fx_in 524 (by decide +kernel) (by decide +kernel), fx_in 0 (by decide +kernel) (by decide +kernel), fx_in 525 (by decide +kernel) (by decide +kernel)⟩
theorem ll_38 : Cond.methodLink "FixityTreesLaw" 38 ⟨"FixityTrees", "close", "()I"⟩ ∈ fx_g := fx_in 526 (by decide +kernel) (by decide +kernel)
abbrev b_Lw_resolve : ByteArray := method_10_code
abbrev y_Lw_resolve : MethodName := ⟨"FixityTreesLaw", "resolve", "(LFixityTrees;I[J)I"⟩
theorem d_Lw_resolve_0 : decode b_Lw_resolve 0 = .ok (.aload_n 2, 1) := by decide +kernel
theorem d_Lw_resolve_1 : decode b_Lw_resolve 1 = .ok (.iconst 0, 1) := by decide +kernel
theorem d_Lw_resolve_2 : decode b_Lw_resolve 2 = .ok (.aload_n 0, 1) := by decide +kernel
theorem d_Lw_resolve_3 : decode b_Lw_resolve 3 = .ok (.iload_n 1, 1) := by decide +kernel
theorem d_Lw_resolve_4 : decode b_Lw_resolve 4 = .ok (.invokevirtual 41, 3) := by decide +kernel
theorem d_Lw_resolve_7 : decode b_Lw_resolve 7 = .ok (.i2l, 1) := by decide +kernel
theorem d_Lw_resolve_8 : decode b_Lw_resolve 8 = .ok (.lastore, 1) := by decide +kernel
theorem d_Lw_resolve_9 : decode b_Lw_resolve 9 = .ok (.goto 9, 3) := by decide +kernel
theorem d_Lw_resolve_12 : decode b_Lw_resolve 12 = .ok (.astore_n 3, 1) := by decide +kernel
theorem d_Lw_resolve_13 : decode b_Lw_resolve 13 = .ok (.iconst 1, 1) := by decide +kernel
theorem d_Lw_resolve_14 : decode b_Lw_resolve 14 = .ok (.ireturn, 1) := by decide +kernel
theorem d_Lw_resolve_15 : decode b_Lw_resolve 15 = .ok (.astore_n 3, 1) := by decide +kernel
theorem d_Lw_resolve_16 : decode b_Lw_resolve 16 = .ok (.iconst 2, 1) := by decide +kernel
theorem d_Lw_resolve_17 : decode b_Lw_resolve 17 = .ok (.ireturn, 1) := by decide +kernel
theorem d_Lw_resolve_18 : decode b_Lw_resolve 18 = .ok (.iconst 0, 1) := by decide +kernel
theorem d_Lw_resolve_19 : decode b_Lw_resolve 19 = .ok (.ireturn, 1) := by decide +kernel
theorem hg_Lw_resolve : Cond.static y_Lw_resolve ∈ fx_g ∧ Cond.initialized "FixityTreesLaw" ∈ fx_g ∧ Cond.codeWith y_Lw_resolve b_Lw_resolve 4 (some .int) [(0, 9, 12, 13), (0, 9, 15, 15)] ∈ fx_g := ⟨fx_in 540 (by decide +kernel) (by decide +kernel), fx_in 0 (by decide +kernel) (by decide +kernel), fx_in 541 (by decide +kernel) (by decide +kernel)⟩
theorem ll_41 : Cond.methodLink "FixityTreesLaw" 41 ⟨"FixityTrees", "resolve", "(I)I"⟩ ∈ fx_g := fx_in 542 (by decide +kernel) (by decide +kernel)
abbrev b_Lw_clash : ByteArray := method_11_code
abbrev y_Lw_clash : MethodName := ⟨"FixityTreesLaw", "clash", "(LFixityTrees;I[J)I"⟩
theorem d_Lw_clash_0 : decode b_Lw_clash 0 = .ok (.aload_n 2, 1) := by decide +kernel
theorem d_Lw_clash_1 : decode b_Lw_clash 1 = .ok (.iconst 0, 1) := by decide +kernel
theorem d_Lw_clash_2 : decode b_Lw_clash 2 = .ok (.aload_n 0, 1) := by decide +kernel
theorem d_Lw_clash_3 : decode b_Lw_clash 3 = .ok (.iload_n 1, 1) := by decide +kernel
theorem d_Lw_clash_4 : decode b_Lw_clash 4 = .ok (.invokevirtual 44, 3) := by decide +kernel
theorem d_Lw_clash_7 : decode b_Lw_clash 7 = .ok (.i2l, 1) := by decide +kernel
theorem d_Lw_clash_8 : decode b_Lw_clash 8 = .ok (.lastore, 1) := by decide +kernel
theorem d_Lw_clash_9 : decode b_Lw_clash 9 = .ok (.goto 6, 3) := by decide +kernel
theorem d_Lw_clash_12 : decode b_Lw_clash 12 = .ok (.astore_n 3, 1) := by decide +kernel
theorem d_Lw_clash_13 : decode b_Lw_clash 13 = .ok (.iconst 1, 1) := by decide +kernel
theorem d_Lw_clash_14 : decode b_Lw_clash 14 = .ok (.ireturn, 1) := by decide +kernel
theorem d_Lw_clash_15 : decode b_Lw_clash 15 = .ok (.iconst 0, 1) := by decide +kernel
theorem d_Lw_clash_16 : decode b_Lw_clash 16 = .ok (.ireturn, 1) := by decide +kernel
theorem hg_Lw_clash : Cond.static y_Lw_clash ∈ fx_g ∧ Cond.initialized "FixityTreesLaw" ∈ fx_g ∧ Cond.codeWith y_Lw_clash b_Lw_clash 4 (some .int) [(0, 9, 12, 21)] ∈ fx_g := ⟨fx_in 729 (by decide +kernel) (by decide +kernel), fx_in 0 (by decide +kernel) (by decide +kernel), fx_in 730 (by decide +kernel) (by decide +kernel)⟩
theorem ll_44 : Cond.methodLink "FixityTreesLaw" 44 ⟨"FixityTrees", "clash", "(I)I"⟩ ∈ fx_g := fx_in 731 (by decide +kernel) (by decide +kernel)
abbrev b_Lw_node : ByteArray := method_12_code
abbrev y_Lw_node : MethodName := ⟨"FixityTreesLaw", "node", "(LFixityTrees;II[J)I"⟩
theorem d_Lw_node_0 : decode b_Lw_node 0 = .ok (.aload_n 3, 1) := by decide +kernel
theorem d_Lw_node_1 : decode b_Lw_node 1 = .ok (.iconst 0, 1) := by decide +kernel
theorem d_Lw_node_2 : decode b_Lw_node 2 = .ok (.aload_n 0, 1) := by decide +kernel
theorem d_Lw_node_3 : decode b_Lw_node 3 = .ok (.iload_n 1, 1) := by decide +kernel
theorem d_Lw_node_4 : decode b_Lw_node 4 = .ok (.iload_n 2, 1) := by decide +kernel
theorem d_Lw_node_5 : decode b_Lw_node 5 = .ok (.invokevirtual 47, 3) := by decide +kernel
theorem d_Lw_node_8 : decode b_Lw_node 8 = .ok (.i2l, 1) := by decide +kernel
theorem d_Lw_node_9 : decode b_Lw_node 9 = .ok (.lastore, 1) := by decide +kernel
theorem d_Lw_node_10 : decode b_Lw_node 10 = .ok (.goto 11, 3) := by decide +kernel
theorem d_Lw_node_13 : decode b_Lw_node 13 = .ok (.astore 4, 2) := by decide +kernel
theorem d_Lw_node_15 : decode b_Lw_node 15 = .ok (.iconst 1, 1) := by decide +kernel
theorem d_Lw_node_16 : decode b_Lw_node 16 = .ok (.ireturn, 1) := by decide +kernel
theorem d_Lw_node_17 : decode b_Lw_node 17 = .ok (.astore 4, 2) := by decide +kernel
theorem d_Lw_node_19 : decode b_Lw_node 19 = .ok (.iconst 2, 1) := by decide +kernel
theorem d_Lw_node_20 : decode b_Lw_node 20 = .ok (.ireturn, 1) := by decide +kernel
theorem d_Lw_node_21 : decode b_Lw_node 21 = .ok (.iconst 0, 1) := by decide +kernel
theorem d_Lw_node_22 : decode b_Lw_node 22 = .ok (.ireturn, 1) := by decide +kernel
theorem hg_Lw_node : Cond.static y_Lw_node ∈ fx_g ∧ Cond.initialized "FixityTreesLaw" ∈ fx_g ∧ Cond.codeWith y_Lw_node b_Lw_node 5 (some .int) [(0, 10, 13, 13), (0, 10, 17, 21)] ∈ fx_g := ⟨fx_in 736 (by decide +kernel) (by decide +kernel), fx_in 0 (by decide +kernel) (by decide +kernel), fx_in 737 (by decide +kernel) (by decide +kernel)⟩
theorem ll_47 : Cond.methodLink "FixityTreesLaw" 47 ⟨"FixityTrees", "node", "(II)I"⟩ ∈ fx_g := fx_in 738 (by decide +kernel) (by decide +kernel)
abbrev b_Lw_number : ByteArray := method_13_code
abbrev y_Lw_number : MethodName := ⟨"FixityTreesLaw", "number", "(LFixityTrees;I[J)I"⟩
theorem d_Lw_number_0 : decode b_Lw_number 0 = .ok (.aload_n 2, 1) := by decide +kernel
theorem d_Lw_number_1 : decode b_Lw_number 1 = .ok (.iconst 0, 1) := by decide +kernel
theorem d_Lw_number_2 : decode b_Lw_number 2 = .ok (.aload_n 0, 1) := by decide +kernel
theorem d_Lw_number_3 : decode b_Lw_number 3 = .ok (.iload_n 1, 1) := by decide +kernel
theorem d_Lw_number_4 : decode b_Lw_number 4 = .ok (.invokevirtual 51, 3) := by decide +kernel
theorem d_Lw_number_7 : decode b_Lw_number 7 = .ok (.lastore, 1) := by decide +kernel
theorem d_Lw_number_8 : decode b_Lw_number 8 = .ok (.goto 6, 3) := by decide +kernel
theorem d_Lw_number_11 : decode b_Lw_number 11 = .ok (.astore_n 3, 1) := by decide +kernel
theorem d_Lw_number_12 : decode b_Lw_number 12 = .ok (.iconst 1, 1) := by decide +kernel
theorem d_Lw_number_13 : decode b_Lw_number 13 = .ok (.ireturn, 1) := by decide +kernel
theorem d_Lw_number_14 : decode b_Lw_number 14 = .ok (.iconst 0, 1) := by decide +kernel
theorem d_Lw_number_15 : decode b_Lw_number 15 = .ok (.ireturn, 1) := by decide +kernel
theorem hg_Lw_number : Cond.static y_Lw_number ∈ fx_g ∧ Cond.initialized "FixityTreesLaw" ∈ fx_g ∧ Cond.codeWith y_Lw_number b_Lw_number 4 (some .int) [(0, 8, 11, 13)] ∈ fx_g := ⟨fx_in 766 (by decide +kernel) (by decide +kernel), fx_in 0 (by decide +kernel) (by decide +kernel), fx_in 767 (by decide +kernel) (by decide +kernel)⟩
theorem ll_51 : Cond.methodLink "FixityTreesLaw" 51 ⟨"FixityTrees", "number", "(I)J"⟩ ∈ fx_g := fx_in 768 (by decide +kernel) (by decide +kernel)
abbrev b_Lw_write : ByteArray := method_14_code
abbrev y_Lw_write : MethodName := ⟨"FixityTreesLaw", "write", "(LFixityTrees;I[J)I"⟩
theorem d_Lw_write_0 : decode b_Lw_write 0 = .ok (.aload_n 2, 1) := by decide +kernel
theorem d_Lw_write_1 : decode b_Lw_write 1 = .ok (.iconst 0, 1) := by decide +kernel
theorem d_Lw_write_2 : decode b_Lw_write 2 = .ok (.aload_n 0, 1) := by decide +kernel
theorem d_Lw_write_3 : decode b_Lw_write 3 = .ok (.iload_n 1, 1) := by decide +kernel
theorem d_Lw_write_4 : decode b_Lw_write 4 = .ok (.invokevirtual 55, 3) := by decide +kernel
theorem d_Lw_write_7 : decode b_Lw_write 7 = .ok (.i2l, 1) := by decide +kernel
theorem d_Lw_write_8 : decode b_Lw_write 8 = .ok (.lastore, 1) := by decide +kernel
theorem d_Lw_write_9 : decode b_Lw_write 9 = .ok (.goto 9, 3) := by decide +kernel
theorem d_Lw_write_12 : decode b_Lw_write 12 = .ok (.astore_n 3, 1) := by decide +kernel
theorem d_Lw_write_13 : decode b_Lw_write 13 = .ok (.iconst 1, 1) := by decide +kernel
theorem d_Lw_write_14 : decode b_Lw_write 14 = .ok (.ireturn, 1) := by decide +kernel
theorem d_Lw_write_15 : decode b_Lw_write 15 = .ok (.astore_n 3, 1) := by decide +kernel
theorem d_Lw_write_16 : decode b_Lw_write 16 = .ok (.iconst 2, 1) := by decide +kernel
theorem d_Lw_write_17 : decode b_Lw_write 17 = .ok (.ireturn, 1) := by decide +kernel
theorem d_Lw_write_18 : decode b_Lw_write 18 = .ok (.iconst 0, 1) := by decide +kernel
theorem d_Lw_write_19 : decode b_Lw_write 19 = .ok (.ireturn, 1) := by decide +kernel
theorem hg_Lw_write : Cond.static y_Lw_write ∈ fx_g ∧ Cond.initialized "FixityTreesLaw" ∈ fx_g ∧ Cond.codeWith y_Lw_write b_Lw_write 4 (some .int) [(0, 9, 12, 13), (0, 9, 15, 15)] ∈ fx_g := ⟨fx_in 778 (by decide +kernel) (by decide +kernel), fx_in 0 (by decide +kernel) (by decide +kernel), fx_in 779 (by decide +kernel) (by decide +kernel)⟩
theorem ll_55 : Cond.methodLink "FixityTreesLaw" 55 ⟨"FixityTrees", "write", "(I)I"⟩ ∈ fx_g := fx_in 780 (by decide +kernel) (by decide +kernel)
abbrev b_Lw_written : ByteArray := method_15_code
abbrev y_Lw_written : MethodName := ⟨"FixityTreesLaw", "written", "(LFixityTrees;II[J)I"⟩
theorem d_Lw_written_0 : decode b_Lw_written 0 = .ok (.aload_n 3, 1) := by decide +kernel
theorem d_Lw_written_1 : decode b_Lw_written 1 = .ok (.iconst 0, 1) := by decide +kernel
theorem d_Lw_written_2 : decode b_Lw_written 2 = .ok (.aload_n 0, 1) := by decide +kernel
theorem d_Lw_written_3 : decode b_Lw_written 3 = .ok (.iload_n 1, 1) := by decide +kernel
theorem d_Lw_written_4 : decode b_Lw_written 4 = .ok (.iload_n 2, 1) := by decide +kernel
theorem d_Lw_written_5 : decode b_Lw_written 5 = .ok (.invokevirtual 58, 3) := by decide +kernel
theorem d_Lw_written_8 : decode b_Lw_written 8 = .ok (.i2l, 1) := by decide +kernel
theorem d_Lw_written_9 : decode b_Lw_written 9 = .ok (.lastore, 1) := by decide +kernel
theorem d_Lw_written_10 : decode b_Lw_written 10 = .ok (.goto 11, 3) := by decide +kernel
theorem d_Lw_written_13 : decode b_Lw_written 13 = .ok (.astore 4, 2) := by decide +kernel
theorem d_Lw_written_15 : decode b_Lw_written 15 = .ok (.iconst 1, 1) := by decide +kernel
theorem d_Lw_written_16 : decode b_Lw_written 16 = .ok (.ireturn, 1) := by decide +kernel
theorem d_Lw_written_17 : decode b_Lw_written 17 = .ok (.astore 4, 2) := by decide +kernel
theorem d_Lw_written_19 : decode b_Lw_written 19 = .ok (.iconst 2, 1) := by decide +kernel
theorem d_Lw_written_20 : decode b_Lw_written 20 = .ok (.ireturn, 1) := by decide +kernel
theorem d_Lw_written_21 : decode b_Lw_written 21 = .ok (.iconst 0, 1) := by decide +kernel
theorem d_Lw_written_22 : decode b_Lw_written 22 = .ok (.ireturn, 1) := by decide +kernel
theorem hg_Lw_written : Cond.static y_Lw_written ∈ fx_g ∧ Cond.initialized "FixityTreesLaw" ∈ fx_g ∧ Cond.codeWith y_Lw_written b_Lw_written 5 (some .int) [(0, 10, 13, 13), (0, 10, 17, 21)] ∈ fx_g := ⟨fx_in 862 (by decide +kernel) (by decide +kernel), fx_in 0 (by decide +kernel) (by decide +kernel), fx_in 863 (by decide +kernel) (by decide +kernel)⟩
theorem ll_58 : Cond.methodLink "FixityTreesLaw" 58 ⟨"FixityTrees", "written", "(II)I"⟩ ∈ fx_g := fx_in 864 (by decide +kernel) (by decide +kernel)
abbrev b_Lw_take : ByteArray := method_16_code
abbrev y_Lw_take : MethodName := ⟨"FixityTreesLaw", "take", "(LFixityTrees;[J)I"⟩
theorem d_Lw_take_0 : decode b_Lw_take 0 = .ok (.aload_n 1, 1) := by decide +kernel
theorem d_Lw_take_1 : decode b_Lw_take 1 = .ok (.iconst 0, 1) := by decide +kernel
theorem d_Lw_take_2 : decode b_Lw_take 2 = .ok (.aload_n 0, 1) := by decide +kernel
theorem d_Lw_take_3 : decode b_Lw_take 3 = .ok (.invokevirtual 61, 3) := by decide +kernel
theorem d_Lw_take_6 : decode b_Lw_take 6 = .ok (.i2l, 1) := by decide +kernel
theorem d_Lw_take_7 : decode b_Lw_take 7 = .ok (.lastore, 1) := by decide +kernel
theorem d_Lw_take_8 : decode b_Lw_take 8 = .ok (.goto 6, 3) := by decide +kernel
theorem d_Lw_take_11 : decode b_Lw_take 11 = .ok (.astore_n 2, 1) := by decide +kernel
theorem d_Lw_take_12 : decode b_Lw_take 12 = .ok (.iconst 1, 1) := by decide +kernel
theorem d_Lw_take_13 : decode b_Lw_take 13 = .ok (.ireturn, 1) := by decide +kernel
theorem d_Lw_take_14 : decode b_Lw_take 14 = .ok (.iconst 0, 1) := by decide +kernel
theorem d_Lw_take_15 : decode b_Lw_take 15 = .ok (.ireturn, 1) := by decide +kernel
theorem hg_Lw_take : Cond.static y_Lw_take ∈ fx_g ∧ Cond.initialized "FixityTreesLaw" ∈ fx_g ∧ Cond.codeWith y_Lw_take b_Lw_take 3 (some .int) [(0, 8, 11, 15)] ∈ fx_g := ⟨fx_in 880 (by decide +kernel) (by decide +kernel), fx_in 0 (by decide +kernel) (by decide +kernel), fx_in 881 (by decide +kernel) (by decide +kernel)⟩
theorem ll_61 : Cond.methodLink "FixityTreesLaw" 61 ⟨"FixityTrees", "take", "()I"⟩ ∈ fx_g := fx_in 882 (by decide +kernel) (by decide +kernel)
abbrev b_Lw_same : ByteArray := method_17_code
abbrev y_Lw_same : MethodName := ⟨"FixityTreesLaw", "same", "(LFixityTrees;I[J)I"⟩
theorem d_Lw_same_0 : decode b_Lw_same 0 = .ok (.aload_n 2, 1) := by decide +kernel
theorem d_Lw_same_1 : decode b_Lw_same 1 = .ok (.iconst 0, 1) := by decide +kernel
theorem d_Lw_same_2 : decode b_Lw_same 2 = .ok (.aload_n 0, 1) := by decide +kernel
theorem d_Lw_same_3 : decode b_Lw_same 3 = .ok (.iload_n 1, 1) := by decide +kernel
theorem d_Lw_same_4 : decode b_Lw_same 4 = .ok (.invokevirtual 64, 3) := by decide +kernel
theorem d_Lw_same_7 : decode b_Lw_same 7 = .ok (.ifCond .eq 7, 3) := by decide +kernel
theorem d_Lw_same_10 : decode b_Lw_same 10 = .ok (.lconst 1, 1) := by decide +kernel
theorem d_Lw_same_11 : decode b_Lw_same 11 = .ok (.goto 4, 3) := by decide +kernel
theorem d_Lw_same_14 : decode b_Lw_same 14 = .ok (.lconst 0, 1) := by decide +kernel
theorem d_Lw_same_15 : decode b_Lw_same 15 = .ok (.lastore, 1) := by decide +kernel
theorem d_Lw_same_16 : decode b_Lw_same 16 = .ok (.goto 9, 3) := by decide +kernel
theorem d_Lw_same_19 : decode b_Lw_same 19 = .ok (.astore_n 3, 1) := by decide +kernel
theorem d_Lw_same_20 : decode b_Lw_same 20 = .ok (.iconst 1, 1) := by decide +kernel
theorem d_Lw_same_21 : decode b_Lw_same 21 = .ok (.ireturn, 1) := by decide +kernel
theorem d_Lw_same_22 : decode b_Lw_same 22 = .ok (.astore_n 3, 1) := by decide +kernel
theorem d_Lw_same_23 : decode b_Lw_same 23 = .ok (.iconst 2, 1) := by decide +kernel
theorem d_Lw_same_24 : decode b_Lw_same 24 = .ok (.ireturn, 1) := by decide +kernel
theorem d_Lw_same_25 : decode b_Lw_same 25 = .ok (.iconst 0, 1) := by decide +kernel
theorem d_Lw_same_26 : decode b_Lw_same 26 = .ok (.ireturn, 1) := by decide +kernel
theorem hg_Lw_same : Cond.static y_Lw_same ∈ fx_g ∧ Cond.initialized "FixityTreesLaw" ∈ fx_g ∧ Cond.codeWith y_Lw_same b_Lw_same 4 (some .int) [(0, 16, 19, 13), (0, 16, 22, 15)] ∈ fx_g := ⟨fx_in 897 (by decide +kernel) (by decide +kernel), fx_in 0 (by decide +kernel) (by decide +kernel), fx_in 898 (by decide +kernel) (by decide +kernel)⟩
theorem ll_64 : Cond.methodLink "FixityTreesLaw" 64 ⟨"FixityTrees", "same", "(I)Z"⟩ ∈ fx_g := fx_in 899 (by decide +kernel) (by decide +kernel)
abbrev b_Lw_told : ByteArray := method_18_code
abbrev y_Lw_told : MethodName := ⟨"FixityTreesLaw", "told", "(LFixityTrees;I[J)I"⟩
theorem d_Lw_told_0 : decode b_Lw_told 0 = .ok (.aload_n 2, 1) := by decide +kernel
theorem d_Lw_told_1 : decode b_Lw_told 1 = .ok (.iconst 0, 1) := by decide +kernel
theorem d_Lw_told_2 : decode b_Lw_told 2 = .ok (.aload_n 0, 1) := by decide +kernel
theorem d_Lw_told_3 : decode b_Lw_told 3 = .ok (.iload_n 1, 1) := by decide +kernel
theorem d_Lw_told_4 : decode b_Lw_told 4 = .ok (.invokevirtual 68, 3) := by decide +kernel
theorem d_Lw_told_7 : decode b_Lw_told 7 = .ok (.i2l, 1) := by decide +kernel
theorem d_Lw_told_8 : decode b_Lw_told 8 = .ok (.lastore, 1) := by decide +kernel
theorem d_Lw_told_9 : decode b_Lw_told 9 = .ok (.goto 6, 3) := by decide +kernel
theorem d_Lw_told_12 : decode b_Lw_told 12 = .ok (.astore_n 3, 1) := by decide +kernel
theorem d_Lw_told_13 : decode b_Lw_told 13 = .ok (.iconst 1, 1) := by decide +kernel
theorem d_Lw_told_14 : decode b_Lw_told 14 = .ok (.ireturn, 1) := by decide +kernel
theorem d_Lw_told_15 : decode b_Lw_told 15 = .ok (.iconst 0, 1) := by decide +kernel
theorem d_Lw_told_16 : decode b_Lw_told 16 = .ok (.ireturn, 1) := by decide +kernel
theorem hg_Lw_told : Cond.static y_Lw_told ∈ fx_g ∧ Cond.initialized "FixityTreesLaw" ∈ fx_g ∧ Cond.codeWith y_Lw_told b_Lw_told 4 (some .int) [(0, 9, 12, 21)] ∈ fx_g := ⟨fx_in 912 (by decide +kernel) (by decide +kernel), fx_in 0 (by decide +kernel) (by decide +kernel), fx_in 913 (by decide +kernel) (by decide +kernel)⟩
theorem ll_68 : Cond.methodLink "FixityTreesLaw" 68 ⟨"FixityTrees", "told", "(I)I"⟩ ∈ fx_g := fx_in 914 (by decide +kernel) (by decide +kernel)
