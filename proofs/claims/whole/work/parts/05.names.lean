abbrev b_Scopes_has : ByteArray := prog_6_method_4_code
abbrev y_Scopes_has : MethodName := ⟨"FixityTrees$Scopes", "has", "(I)Z"⟩
theorem d_Scopes_has_0 : decode b_Scopes_has 0 = .ok (.iload_n 1, 1) := by decide +kernel
theorem d_Scopes_has_1 : decode b_Scopes_has 1 = .ok (.ifCond .lt 21, 3) := by decide +kernel
theorem d_Scopes_has_4 : decode b_Scopes_has 4 = .ok (.iload_n 1, 1) := by decide +kernel
theorem d_Scopes_has_5 : decode b_Scopes_has 5 = .ok (.aload_n 0, 1) := by decide +kernel
theorem d_Scopes_has_6 : decode b_Scopes_has 6 = .ok (.getfield 18, 3) := by decide +kernel
theorem d_Scopes_has_9 : decode b_Scopes_has 9 = .ok (.if_icmp .ge 13, 3) := by decide +kernel
theorem d_Scopes_has_12 : decode b_Scopes_has 12 = .ok (.iload_n 1, 1) := by decide +kernel
theorem d_Scopes_has_13 : decode b_Scopes_has 13 = .ok (.bipush 30, 2) := by decide +kernel
theorem d_Scopes_has_15 : decode b_Scopes_has 15 = .ok (.if_icmp .ge 7, 3) := by decide +kernel
theorem d_Scopes_has_18 : decode b_Scopes_has 18 = .ok (.iconst 1, 1) := by decide +kernel
theorem d_Scopes_has_19 : decode b_Scopes_has 19 = .ok (.goto 4, 3) := by decide +kernel
theorem d_Scopes_has_22 : decode b_Scopes_has 22 = .ok (.iconst 0, 1) := by decide +kernel
theorem d_Scopes_has_23 : decode b_Scopes_has 23 = .ok (.ireturn, 1) := by decide +kernel
theorem hg_Scopes_has : fx_mw fx_g "FixityTrees$Scopes" y_Scopes_has b_Scopes_has 2 (some .boolean) := ⟨fx_in 277 (by decide +kernel) (by decide +kernel), fx_in 278 (by decide +kernel) (by decide +kernel), fx_in 2 (by decide +kernel) (by decide +kernel), fx_in 279 (by decide +kernel) (by decide +kernel)⟩
abbrev b_FixityTrees_requireScope : ByteArray := prog_1_method_19_code
abbrev y_FixityTrees_requireScope : MethodName := ⟨"FixityTrees", "requireScope", "(I)V"⟩
theorem d_FixityTrees_requireScope_0 : decode b_FixityTrees_requireScope 0 = .ok (.aload_n 0, 1) := by decide +kernel
theorem d_FixityTrees_requireScope_1 : decode b_FixityTrees_requireScope 1 = .ok (.getfield 12, 3) := by decide +kernel
theorem d_FixityTrees_requireScope_4 : decode b_FixityTrees_requireScope 4 = .ok (.iload_n 1, 1) := by decide +kernel
theorem d_FixityTrees_requireScope_5 : decode b_FixityTrees_requireScope 5 = .ok (.invokevirtual 251, 3) := by decide +kernel
theorem d_FixityTrees_requireScope_8 : decode b_FixityTrees_requireScope 8 = .ok (.ifCond .ne 13, 3) := by decide +kernel
theorem d_FixityTrees_requireScope_11 : decode b_FixityTrees_requireScope 11 = .ok (.new 184, 3) := by decide +kernel
theorem d_FixityTrees_requireScope_14 : decode b_FixityTrees_requireScope 14 = .ok (.dup, 1) := by decide +kernel
theorem d_FixityTrees_requireScope_15 : decode b_FixityTrees_requireScope 15 = .ok (.ldc 252, 2) := by decide +kernel
theorem d_FixityTrees_requireScope_17 : decode b_FixityTrees_requireScope 17 = .ok (.invokespecial 188, 3) := by decide +kernel
theorem d_FixityTrees_requireScope_20 : decode b_FixityTrees_requireScope 20 = .ok (.athrow, 1) := by decide +kernel
theorem d_FixityTrees_requireScope_21 : decode b_FixityTrees_requireScope 21 = .ok (.return_, 1) := by decide +kernel
theorem hg_FixityTrees_requireScope : fx_mw fx_g "FixityTrees" y_FixityTrees_requireScope b_FixityTrees_requireScope 2 none := ⟨fx_in 274 (by decide +kernel) (by decide +kernel), fx_inp 0 (by decide +kernel) (by decide +kernel), fx_in 1 (by decide +kernel) (by decide +kernel), fx_in 275 (by decide +kernel) (by decide +kernel)⟩
abbrev b_Scopes_isFull : ByteArray := prog_6_method_3_code
abbrev y_Scopes_isFull : MethodName := ⟨"FixityTrees$Scopes", "isFull", "()Z"⟩
theorem d_Scopes_isFull_0 : decode b_Scopes_isFull 0 = .ok (.aload_n 0, 1) := by decide +kernel
theorem d_Scopes_isFull_1 : decode b_Scopes_isFull 1 = .ok (.getfield 18, 3) := by decide +kernel
theorem d_Scopes_isFull_4 : decode b_Scopes_isFull 4 = .ok (.bipush 30, 2) := by decide +kernel
theorem d_Scopes_isFull_6 : decode b_Scopes_isFull 6 = .ok (.if_icmp .lt 7, 3) := by decide +kernel
theorem d_Scopes_isFull_9 : decode b_Scopes_isFull 9 = .ok (.iconst 1, 1) := by decide +kernel
theorem d_Scopes_isFull_10 : decode b_Scopes_isFull 10 = .ok (.goto 4, 3) := by decide +kernel
theorem d_Scopes_isFull_13 : decode b_Scopes_isFull 13 = .ok (.iconst 0, 1) := by decide +kernel
theorem d_Scopes_isFull_14 : decode b_Scopes_isFull 14 = .ok (.ireturn, 1) := by decide +kernel
theorem hg_Scopes_isFull : fx_mw fx_g "FixityTrees$Scopes" y_Scopes_isFull b_Scopes_isFull 1 (some .boolean) := ⟨fx_in 349 (by decide +kernel) (by decide +kernel), fx_in 350 (by decide +kernel) (by decide +kernel), fx_in 2 (by decide +kernel) (by decide +kernel), fx_in 351 (by decide +kernel) (by decide +kernel)⟩
abbrev b_Scopes_add : ByteArray := prog_6_method_5_code
abbrev y_Scopes_add : MethodName := ⟨"FixityTrees$Scopes", "add", "(I)I"⟩
theorem d_Scopes_add_0 : decode b_Scopes_add 0 = .ok (.aload_n 0, 1) := by decide +kernel
theorem d_Scopes_add_1 : decode b_Scopes_add 1 = .ok (.invokevirtual 22, 3) := by decide +kernel
theorem d_Scopes_add_4 : decode b_Scopes_add 4 = .ok (.ifCond .eq 5, 3) := by decide +kernel
theorem d_Scopes_add_7 : decode b_Scopes_add 7 = .ok (.iconst (-1), 1) := by decide +kernel
theorem d_Scopes_add_8 : decode b_Scopes_add 8 = .ok (.ireturn, 1) := by decide +kernel
theorem d_Scopes_add_9 : decode b_Scopes_add 9 = .ok (.aload_n 0, 1) := by decide +kernel
theorem d_Scopes_add_10 : decode b_Scopes_add 10 = .ok (.getfield 18, 3) := by decide +kernel
theorem d_Scopes_add_13 : decode b_Scopes_add 13 = .ok (.istore_n 2, 1) := by decide +kernel
theorem d_Scopes_add_14 : decode b_Scopes_add 14 = .ok (.aload_n 0, 1) := by decide +kernel
theorem d_Scopes_add_15 : decode b_Scopes_add 15 = .ok (.getfield 9, 3) := by decide +kernel
theorem d_Scopes_add_18 : decode b_Scopes_add 18 = .ok (.iload_n 2, 1) := by decide +kernel
theorem d_Scopes_add_19 : decode b_Scopes_add 19 = .ok (.iload_n 1, 1) := by decide +kernel
theorem d_Scopes_add_20 : decode b_Scopes_add 20 = .ok (.iastore, 1) := by decide +kernel
theorem d_Scopes_add_21 : decode b_Scopes_add 21 = .ok (.aload_n 0, 1) := by decide +kernel
theorem d_Scopes_add_22 : decode b_Scopes_add 22 = .ok (.dup, 1) := by decide +kernel
theorem d_Scopes_add_23 : decode b_Scopes_add 23 = .ok (.getfield 18, 3) := by decide +kernel
theorem d_Scopes_add_26 : decode b_Scopes_add 26 = .ok (.iconst 1, 1) := by decide +kernel
theorem d_Scopes_add_27 : decode b_Scopes_add 27 = .ok (.iadd, 1) := by decide +kernel
theorem d_Scopes_add_28 : decode b_Scopes_add 28 = .ok (.putfield 18, 3) := by decide +kernel
theorem d_Scopes_add_31 : decode b_Scopes_add 31 = .ok (.iload_n 2, 1) := by decide +kernel
theorem d_Scopes_add_32 : decode b_Scopes_add 32 = .ok (.ireturn, 1) := by decide +kernel
theorem hg_Scopes_add : fx_mw fx_g "FixityTrees$Scopes" y_Scopes_add b_Scopes_add 3 (some .int) := ⟨fx_in 369 (by decide +kernel) (by decide +kernel), fx_in 370 (by decide +kernel) (by decide +kernel), fx_in 2 (by decide +kernel) (by decide +kernel), fx_in 371 (by decide +kernel) (by decide +kernel)⟩
abbrev b_FixityTrees_scope : ByteArray := prog_1_method_2_code
abbrev y_FixityTrees_scope : MethodName := ⟨"FixityTrees", "scope", "(I)I"⟩
theorem d_FixityTrees_scope_0 : decode b_FixityTrees_scope 0 = .ok (.aload_n 0, 1) := by decide +kernel
theorem d_FixityTrees_scope_1 : decode b_FixityTrees_scope 1 = .ok (.iload_n 1, 1) := by decide +kernel
theorem d_FixityTrees_scope_2 : decode b_FixityTrees_scope 2 = .ok (.invokevirtual 68, 3) := by decide +kernel
theorem d_FixityTrees_scope_5 : decode b_FixityTrees_scope 5 = .ok (.aload_n 0, 1) := by decide +kernel
theorem d_FixityTrees_scope_6 : decode b_FixityTrees_scope 6 = .ok (.getfield 12, 3) := by decide +kernel
theorem d_FixityTrees_scope_9 : decode b_FixityTrees_scope 9 = .ok (.invokevirtual 72, 3) := by decide +kernel
theorem d_FixityTrees_scope_12 : decode b_FixityTrees_scope 12 = .ok (.ifCond .eq 13, 3) := by decide +kernel
theorem d_FixityTrees_scope_15 : decode b_FixityTrees_scope 15 = .ok (.new 76, 3) := by decide +kernel
theorem d_FixityTrees_scope_18 : decode b_FixityTrees_scope 18 = .ok (.dup, 1) := by decide +kernel
theorem d_FixityTrees_scope_19 : decode b_FixityTrees_scope 19 = .ok (.ldc 78, 2) := by decide +kernel
theorem d_FixityTrees_scope_21 : decode b_FixityTrees_scope 21 = .ok (.invokespecial 80, 3) := by decide +kernel
theorem d_FixityTrees_scope_24 : decode b_FixityTrees_scope 24 = .ok (.athrow, 1) := by decide +kernel
theorem d_FixityTrees_scope_25 : decode b_FixityTrees_scope 25 = .ok (.aload_n 0, 1) := by decide +kernel
theorem d_FixityTrees_scope_26 : decode b_FixityTrees_scope 26 = .ok (.getfield 12, 3) := by decide +kernel
theorem d_FixityTrees_scope_29 : decode b_FixityTrees_scope 29 = .ok (.iload_n 1, 1) := by decide +kernel
theorem d_FixityTrees_scope_30 : decode b_FixityTrees_scope 30 = .ok (.invokevirtual 83, 3) := by decide +kernel
theorem d_FixityTrees_scope_33 : decode b_FixityTrees_scope 33 = .ok (.ireturn, 1) := by decide +kernel
theorem hg_FixityTrees_scope : fx_mw fx_g "FixityTrees" y_FixityTrees_scope b_FixityTrees_scope 2 (some .int) := ⟨fx_in 269 (by decide +kernel) (by decide +kernel), fx_in 270 (by decide +kernel) (by decide +kernel), fx_in 1 (by decide +kernel) (by decide +kernel), fx_in 271 (by decide +kernel) (by decide +kernel)⟩
abbrev b_FixityTrees_isOperator : ByteArray := prog_1_method_23_code
abbrev y_FixityTrees_isOperator : MethodName := ⟨"FixityTrees", "isOperator", "(I)Z"⟩
theorem d_FixityTrees_isOperator_0 : decode b_FixityTrees_isOperator 0 = .ok (.iload_n 0, 1) := by decide +kernel
theorem d_FixityTrees_isOperator_1 : decode b_FixityTrees_isOperator 1 = .ok (.ifCond .lt 13, 3) := by decide +kernel
theorem d_FixityTrees_isOperator_4 : decode b_FixityTrees_isOperator 4 = .ok (.iload_n 0, 1) := by decide +kernel
theorem d_FixityTrees_isOperator_5 : decode b_FixityTrees_isOperator 5 = .ok (.bipush 41, 2) := by decide +kernel
theorem d_FixityTrees_isOperator_7 : decode b_FixityTrees_isOperator 7 = .ok (.if_icmp .ge 7, 3) := by decide +kernel
theorem d_FixityTrees_isOperator_10 : decode b_FixityTrees_isOperator 10 = .ok (.iconst 1, 1) := by decide +kernel
theorem d_FixityTrees_isOperator_11 : decode b_FixityTrees_isOperator 11 = .ok (.goto 4, 3) := by decide +kernel
theorem d_FixityTrees_isOperator_14 : decode b_FixityTrees_isOperator 14 = .ok (.iconst 0, 1) := by decide +kernel
theorem d_FixityTrees_isOperator_15 : decode b_FixityTrees_isOperator 15 = .ok (.ireturn, 1) := by decide +kernel
theorem hg_FixityTrees_isOperator : fx_sw fx_g y_FixityTrees_isOperator b_FixityTrees_isOperator 1 (some .boolean) := ⟨fx_in 386 (by decide +kernel) (by decide +kernel), fx_in 1 (by decide +kernel) (by decide +kernel), fx_in 387 (by decide +kernel) (by decide +kernel)⟩
abbrev b_FixityTrees_requireOperator : ByteArray := prog_1_method_20_code
abbrev y_FixityTrees_requireOperator : MethodName := ⟨"FixityTrees", "requireOperator", "(I)V"⟩
theorem d_FixityTrees_requireOperator_0 : decode b_FixityTrees_requireOperator 0 = .ok (.iload_n 1, 1) := by decide +kernel
theorem d_FixityTrees_requireOperator_1 : decode b_FixityTrees_requireOperator 1 = .ok (.invokestatic 254, 3) := by decide +kernel
theorem d_FixityTrees_requireOperator_4 : decode b_FixityTrees_requireOperator 4 = .ok (.ifCond .ne 14, 3) := by decide +kernel
theorem d_FixityTrees_requireOperator_7 : decode b_FixityTrees_requireOperator 7 = .ok (.new 184, 3) := by decide +kernel
theorem d_FixityTrees_requireOperator_10 : decode b_FixityTrees_requireOperator 10 = .ok (.dup, 1) := by decide +kernel
theorem d_FixityTrees_requireOperator_11 : decode b_FixityTrees_requireOperator 11 = .ok (.ldc_w 257, 3) := by decide +kernel
theorem d_FixityTrees_requireOperator_14 : decode b_FixityTrees_requireOperator 14 = .ok (.invokespecial 188, 3) := by decide +kernel
theorem d_FixityTrees_requireOperator_17 : decode b_FixityTrees_requireOperator 17 = .ok (.athrow, 1) := by decide +kernel
theorem d_FixityTrees_requireOperator_18 : decode b_FixityTrees_requireOperator 18 = .ok (.return_, 1) := by decide +kernel
theorem hg_FixityTrees_requireOperator : fx_mw fx_g "FixityTrees" y_FixityTrees_requireOperator b_FixityTrees_requireOperator 2 none := ⟨fx_in 383 (by decide +kernel) (by decide +kernel), fx_inp 2 (by decide +kernel) (by decide +kernel), fx_in 1 (by decide +kernel) (by decide +kernel), fx_in 384 (by decide +kernel) (by decide +kernel)⟩
abbrev b_Scopes_codeAt : ByteArray := prog_6_method_11_code
abbrev y_Scopes_codeAt : MethodName := ⟨"FixityTrees$Scopes", "codeAt", "(II)I"⟩
theorem d_Scopes_codeAt_0 : decode b_Scopes_codeAt 0 = .ok (.aload_n 0, 1) := by decide +kernel
theorem d_Scopes_codeAt_1 : decode b_Scopes_codeAt 1 = .ok (.iload_n 1, 1) := by decide +kernel
theorem d_Scopes_codeAt_2 : decode b_Scopes_codeAt 2 = .ok (.invokevirtual 26, 3) := by decide +kernel
theorem d_Scopes_codeAt_5 : decode b_Scopes_codeAt 5 = .ok (.ifCond .eq 24, 3) := by decide +kernel
theorem d_Scopes_codeAt_8 : decode b_Scopes_codeAt 8 = .ok (.iload_n 2, 1) := by decide +kernel
theorem d_Scopes_codeAt_9 : decode b_Scopes_codeAt 9 = .ok (.invokestatic 30, 3) := by decide +kernel
theorem d_Scopes_codeAt_12 : decode b_Scopes_codeAt 12 = .ok (.ifCond .eq 17, 3) := by decide +kernel
theorem d_Scopes_codeAt_15 : decode b_Scopes_codeAt 15 = .ok (.aload_n 0, 1) := by decide +kernel
theorem d_Scopes_codeAt_16 : decode b_Scopes_codeAt 16 = .ok (.getfield 15, 3) := by decide +kernel
theorem d_Scopes_codeAt_19 : decode b_Scopes_codeAt 19 = .ok (.iload_n 1, 1) := by decide +kernel
theorem d_Scopes_codeAt_20 : decode b_Scopes_codeAt 20 = .ok (.bipush 41, 2) := by decide +kernel
theorem d_Scopes_codeAt_22 : decode b_Scopes_codeAt 22 = .ok (.imul, 1) := by decide +kernel
theorem d_Scopes_codeAt_23 : decode b_Scopes_codeAt 23 = .ok (.iload_n 2, 1) := by decide +kernel
theorem d_Scopes_codeAt_24 : decode b_Scopes_codeAt 24 = .ok (.iadd, 1) := by decide +kernel
theorem d_Scopes_codeAt_25 : decode b_Scopes_codeAt 25 = .ok (.iaload, 1) := by decide +kernel
theorem d_Scopes_codeAt_26 : decode b_Scopes_codeAt 26 = .ok (.goto 4, 3) := by decide +kernel
theorem d_Scopes_codeAt_29 : decode b_Scopes_codeAt 29 = .ok (.iconst 0, 1) := by decide +kernel
theorem d_Scopes_codeAt_30 : decode b_Scopes_codeAt 30 = .ok (.ireturn, 1) := by decide +kernel
theorem hg_Scopes_codeAt : fx_mw fx_g "FixityTrees$Scopes" y_Scopes_codeAt b_Scopes_codeAt 3 (some .int) := ⟨fx_in 396 (by decide +kernel) (by decide +kernel), fx_inp 3 (by decide +kernel) (by decide +kernel), fx_in 2 (by decide +kernel) (by decide +kernel), fx_in 397 (by decide +kernel) (by decide +kernel)⟩
abbrev b_Scopes_tells : ByteArray := prog_6_method_7_code
abbrev y_Scopes_tells : MethodName := ⟨"FixityTrees$Scopes", "tells", "(II)Z"⟩
theorem d_Scopes_tells_0 : decode b_Scopes_tells 0 = .ok (.aload_n 0, 1) := by decide +kernel
theorem d_Scopes_tells_1 : decode b_Scopes_tells 1 = .ok (.iload_n 1, 1) := by decide +kernel
theorem d_Scopes_tells_2 : decode b_Scopes_tells 2 = .ok (.iload_n 2, 1) := by decide +kernel
theorem d_Scopes_tells_3 : decode b_Scopes_tells 3 = .ok (.invokevirtual 33, 3) := by decide +kernel
theorem d_Scopes_tells_6 : decode b_Scopes_tells 6 = .ok (.ifCond .eq 7, 3) := by decide +kernel
theorem d_Scopes_tells_9 : decode b_Scopes_tells 9 = .ok (.iconst 1, 1) := by decide +kernel
theorem d_Scopes_tells_10 : decode b_Scopes_tells 10 = .ok (.goto 4, 3) := by decide +kernel
theorem d_Scopes_tells_13 : decode b_Scopes_tells 13 = .ok (.iconst 0, 1) := by decide +kernel
theorem d_Scopes_tells_14 : decode b_Scopes_tells 14 = .ok (.ireturn, 1) := by decide +kernel
theorem hg_Scopes_tells : fx_mw fx_g "FixityTrees$Scopes" y_Scopes_tells b_Scopes_tells 3 (some .boolean) := ⟨fx_in 391 (by decide +kernel) (by decide +kernel), fx_in 392 (by decide +kernel) (by decide +kernel), fx_in 2 (by decide +kernel) (by decide +kernel), fx_in 393 (by decide +kernel) (by decide +kernel)⟩
abbrev b_Scopes_tell : ByteArray := prog_6_method_6_code
abbrev y_Scopes_tell : MethodName := ⟨"FixityTrees$Scopes", "tell", "(IIII)V"⟩
theorem d_Scopes_tell_0 : decode b_Scopes_tell 0 = .ok (.aload_n 0, 1) := by decide +kernel
theorem d_Scopes_tell_1 : decode b_Scopes_tell 1 = .ok (.iload_n 1, 1) := by decide +kernel
theorem d_Scopes_tell_2 : decode b_Scopes_tell 2 = .ok (.invokevirtual 26, 3) := by decide +kernel
theorem d_Scopes_tell_5 : decode b_Scopes_tell 5 = .ok (.ifCond .eq 30, 3) := by decide +kernel
theorem d_Scopes_tell_8 : decode b_Scopes_tell 8 = .ok (.iload_n 2, 1) := by decide +kernel
theorem d_Scopes_tell_9 : decode b_Scopes_tell 9 = .ok (.invokestatic 30, 3) := by decide +kernel
theorem d_Scopes_tell_12 : decode b_Scopes_tell 12 = .ok (.ifCond .eq 23, 3) := by decide +kernel
theorem d_Scopes_tell_15 : decode b_Scopes_tell 15 = .ok (.aload_n 0, 1) := by decide +kernel
theorem d_Scopes_tell_16 : decode b_Scopes_tell 16 = .ok (.getfield 15, 3) := by decide +kernel
theorem d_Scopes_tell_19 : decode b_Scopes_tell 19 = .ok (.iload_n 1, 1) := by decide +kernel
theorem d_Scopes_tell_20 : decode b_Scopes_tell 20 = .ok (.bipush 41, 2) := by decide +kernel
theorem d_Scopes_tell_22 : decode b_Scopes_tell 22 = .ok (.imul, 1) := by decide +kernel
theorem d_Scopes_tell_23 : decode b_Scopes_tell 23 = .ok (.iload_n 2, 1) := by decide +kernel
theorem d_Scopes_tell_24 : decode b_Scopes_tell 24 = .ok (.iadd, 1) := by decide +kernel
theorem d_Scopes_tell_25 : decode b_Scopes_tell 25 = .ok (.iload_n 3, 1) := by decide +kernel
theorem d_Scopes_tell_26 : decode b_Scopes_tell 26 = .ok (.bipush 10, 2) := by decide +kernel
theorem d_Scopes_tell_28 : decode b_Scopes_tell 28 = .ok (.imul, 1) := by decide +kernel
theorem d_Scopes_tell_29 : decode b_Scopes_tell 29 = .ok (.iload 4, 2) := by decide +kernel
theorem d_Scopes_tell_31 : decode b_Scopes_tell 31 = .ok (.iadd, 1) := by decide +kernel
theorem d_Scopes_tell_32 : decode b_Scopes_tell 32 = .ok (.iconst 1, 1) := by decide +kernel
theorem d_Scopes_tell_33 : decode b_Scopes_tell 33 = .ok (.iadd, 1) := by decide +kernel
theorem d_Scopes_tell_34 : decode b_Scopes_tell 34 = .ok (.iastore, 1) := by decide +kernel
theorem d_Scopes_tell_35 : decode b_Scopes_tell 35 = .ok (.return_, 1) := by decide +kernel
theorem hg_Scopes_tell : fx_mw fx_g "FixityTrees$Scopes" y_Scopes_tell b_Scopes_tell 5 none := ⟨fx_in 419 (by decide +kernel) (by decide +kernel), fx_in 420 (by decide +kernel) (by decide +kernel), fx_in 2 (by decide +kernel) (by decide +kernel), fx_in 421 (by decide +kernel) (by decide +kernel)⟩
abbrev b_FixityTrees_fixity : ByteArray := prog_1_method_3_code
abbrev y_FixityTrees_fixity : MethodName := ⟨"FixityTrees", "fixity", "(IIII)V"⟩
theorem d_FixityTrees_fixity_0 : decode b_FixityTrees_fixity 0 = .ok (.aload_n 0, 1) := by decide +kernel
theorem d_FixityTrees_fixity_1 : decode b_FixityTrees_fixity 1 = .ok (.iload_n 1, 1) := by decide +kernel
theorem d_FixityTrees_fixity_2 : decode b_FixityTrees_fixity 2 = .ok (.invokevirtual 68, 3) := by decide +kernel
theorem d_FixityTrees_fixity_5 : decode b_FixityTrees_fixity 5 = .ok (.aload_n 0, 1) := by decide +kernel
theorem d_FixityTrees_fixity_6 : decode b_FixityTrees_fixity 6 = .ok (.iload_n 2, 1) := by decide +kernel
theorem d_FixityTrees_fixity_7 : decode b_FixityTrees_fixity 7 = .ok (.invokevirtual 87, 3) := by decide +kernel
theorem d_FixityTrees_fixity_10 : decode b_FixityTrees_fixity 10 = .ok (.iload_n 2, 1) := by decide +kernel
theorem d_FixityTrees_fixity_11 : decode b_FixityTrees_fixity 11 = .ok (.ifCond .ne 13, 3) := by decide +kernel
theorem d_FixityTrees_fixity_14 : decode b_FixityTrees_fixity 14 = .ok (.new 76, 3) := by decide +kernel
theorem d_FixityTrees_fixity_17 : decode b_FixityTrees_fixity 17 = .ok (.dup, 1) := by decide +kernel
theorem d_FixityTrees_fixity_18 : decode b_FixityTrees_fixity 18 = .ok (.ldc 90, 2) := by decide +kernel
theorem d_FixityTrees_fixity_20 : decode b_FixityTrees_fixity 20 = .ok (.invokespecial 80, 3) := by decide +kernel
theorem d_FixityTrees_fixity_23 : decode b_FixityTrees_fixity 23 = .ok (.athrow, 1) := by decide +kernel
theorem d_FixityTrees_fixity_24 : decode b_FixityTrees_fixity 24 = .ok (.aload_n 0, 1) := by decide +kernel
theorem d_FixityTrees_fixity_25 : decode b_FixityTrees_fixity 25 = .ok (.getfield 12, 3) := by decide +kernel
theorem d_FixityTrees_fixity_28 : decode b_FixityTrees_fixity 28 = .ok (.iload_n 1, 1) := by decide +kernel
theorem d_FixityTrees_fixity_29 : decode b_FixityTrees_fixity 29 = .ok (.iload_n 2, 1) := by decide +kernel
theorem d_FixityTrees_fixity_30 : decode b_FixityTrees_fixity 30 = .ok (.invokevirtual 92, 3) := by decide +kernel
theorem d_FixityTrees_fixity_33 : decode b_FixityTrees_fixity 33 = .ok (.ifCond .eq 13, 3) := by decide +kernel
theorem d_FixityTrees_fixity_36 : decode b_FixityTrees_fixity 36 = .ok (.new 76, 3) := by decide +kernel
theorem d_FixityTrees_fixity_39 : decode b_FixityTrees_fixity 39 = .ok (.dup, 1) := by decide +kernel
theorem d_FixityTrees_fixity_40 : decode b_FixityTrees_fixity 40 = .ok (.ldc 96, 2) := by decide +kernel
theorem d_FixityTrees_fixity_42 : decode b_FixityTrees_fixity 42 = .ok (.invokespecial 80, 3) := by decide +kernel
theorem d_FixityTrees_fixity_45 : decode b_FixityTrees_fixity 45 = .ok (.athrow, 1) := by decide +kernel
theorem d_FixityTrees_fixity_46 : decode b_FixityTrees_fixity 46 = .ok (.iload_n 3, 1) := by decide +kernel
theorem d_FixityTrees_fixity_47 : decode b_FixityTrees_fixity 47 = .ok (.ifCond .lt 8, 3) := by decide +kernel
theorem d_FixityTrees_fixity_50 : decode b_FixityTrees_fixity 50 = .ok (.iload_n 3, 1) := by decide +kernel
theorem d_FixityTrees_fixity_51 : decode b_FixityTrees_fixity 51 = .ok (.iconst 3, 1) := by decide +kernel
theorem d_FixityTrees_fixity_52 : decode b_FixityTrees_fixity 52 = .ok (.if_icmp .lt 13, 3) := by decide +kernel
theorem d_FixityTrees_fixity_55 : decode b_FixityTrees_fixity 55 = .ok (.new 98, 3) := by decide +kernel
theorem d_FixityTrees_fixity_58 : decode b_FixityTrees_fixity 58 = .ok (.dup, 1) := by decide +kernel
theorem d_FixityTrees_fixity_59 : decode b_FixityTrees_fixity 59 = .ok (.ldc 100, 2) := by decide +kernel
theorem d_FixityTrees_fixity_61 : decode b_FixityTrees_fixity 61 = .ok (.invokespecial 102, 3) := by decide +kernel
theorem d_FixityTrees_fixity_64 : decode b_FixityTrees_fixity 64 = .ok (.athrow, 1) := by decide +kernel
theorem d_FixityTrees_fixity_65 : decode b_FixityTrees_fixity 65 = .ok (.iload 4, 2) := by decide +kernel
theorem d_FixityTrees_fixity_67 : decode b_FixityTrees_fixity 67 = .ok (.ifCond .lt 10, 3) := by decide +kernel
theorem d_FixityTrees_fixity_70 : decode b_FixityTrees_fixity 70 = .ok (.iload 4, 2) := by decide +kernel
theorem d_FixityTrees_fixity_72 : decode b_FixityTrees_fixity 72 = .ok (.bipush 10, 2) := by decide +kernel
theorem d_FixityTrees_fixity_74 : decode b_FixityTrees_fixity 74 = .ok (.if_icmp .lt 13, 3) := by decide +kernel
theorem d_FixityTrees_fixity_77 : decode b_FixityTrees_fixity 77 = .ok (.new 98, 3) := by decide +kernel
theorem d_FixityTrees_fixity_80 : decode b_FixityTrees_fixity 80 = .ok (.dup, 1) := by decide +kernel
theorem d_FixityTrees_fixity_81 : decode b_FixityTrees_fixity 81 = .ok (.ldc 103, 2) := by decide +kernel
theorem d_FixityTrees_fixity_83 : decode b_FixityTrees_fixity 83 = .ok (.invokespecial 102, 3) := by decide +kernel
theorem d_FixityTrees_fixity_86 : decode b_FixityTrees_fixity 86 = .ok (.athrow, 1) := by decide +kernel
theorem d_FixityTrees_fixity_87 : decode b_FixityTrees_fixity 87 = .ok (.aload_n 0, 1) := by decide +kernel
theorem d_FixityTrees_fixity_88 : decode b_FixityTrees_fixity 88 = .ok (.getfield 12, 3) := by decide +kernel
theorem d_FixityTrees_fixity_91 : decode b_FixityTrees_fixity 91 = .ok (.iload_n 1, 1) := by decide +kernel
theorem d_FixityTrees_fixity_92 : decode b_FixityTrees_fixity 92 = .ok (.iload_n 2, 1) := by decide +kernel
theorem d_FixityTrees_fixity_93 : decode b_FixityTrees_fixity 93 = .ok (.iload_n 3, 1) := by decide +kernel
theorem d_FixityTrees_fixity_94 : decode b_FixityTrees_fixity 94 = .ok (.iload 4, 2) := by decide +kernel
theorem d_FixityTrees_fixity_96 : decode b_FixityTrees_fixity 96 = .ok (.invokevirtual 105, 3) := by decide +kernel
theorem d_FixityTrees_fixity_99 : decode b_FixityTrees_fixity 99 = .ok (.return_, 1) := by decide +kernel
theorem hg_FixityTrees_fixity : fx_mw fx_g "FixityTrees" y_FixityTrees_fixity b_FixityTrees_fixity 5 none := ⟨fx_in 378 (by decide +kernel) (by decide +kernel), fx_in 379 (by decide +kernel) (by decide +kernel), fx_in 1 (by decide +kernel) (by decide +kernel), fx_in 380 (by decide +kernel) (by decide +kernel)⟩
abbrev b_Scopes_tellerOf : ByteArray := prog_6_method_8_code
abbrev y_Scopes_tellerOf : MethodName := ⟨"FixityTrees$Scopes", "tellerOf", "(II)I"⟩
theorem d_Scopes_tellerOf_0 : decode b_Scopes_tellerOf 0 = .ok (.iload_n 1, 1) := by decide +kernel
theorem d_Scopes_tellerOf_1 : decode b_Scopes_tellerOf 1 = .ok (.istore_n 3, 1) := by decide +kernel
theorem d_Scopes_tellerOf_2 : decode b_Scopes_tellerOf 2 = .ok (.iconst 0, 1) := by decide +kernel
theorem d_Scopes_tellerOf_3 : decode b_Scopes_tellerOf 3 = .ok (.istore 4, 2) := by decide +kernel
theorem d_Scopes_tellerOf_5 : decode b_Scopes_tellerOf 5 = .ok (.iload 4, 2) := by decide +kernel
theorem d_Scopes_tellerOf_7 : decode b_Scopes_tellerOf 7 = .ok (.bipush 30, 2) := by decide +kernel
theorem d_Scopes_tellerOf_9 : decode b_Scopes_tellerOf 9 = .ok (.if_icmp .ge 35, 3) := by decide +kernel
theorem d_Scopes_tellerOf_12 : decode b_Scopes_tellerOf 12 = .ok (.aload_n 0, 1) := by decide +kernel
theorem d_Scopes_tellerOf_13 : decode b_Scopes_tellerOf 13 = .ok (.iload_n 3, 1) := by decide +kernel
theorem d_Scopes_tellerOf_14 : decode b_Scopes_tellerOf 14 = .ok (.invokevirtual 26, 3) := by decide +kernel
theorem d_Scopes_tellerOf_17 : decode b_Scopes_tellerOf 17 = .ok (.ifCond .eq 27, 3) := by decide +kernel
theorem d_Scopes_tellerOf_20 : decode b_Scopes_tellerOf 20 = .ok (.aload_n 0, 1) := by decide +kernel
theorem d_Scopes_tellerOf_21 : decode b_Scopes_tellerOf 21 = .ok (.iload_n 3, 1) := by decide +kernel
theorem d_Scopes_tellerOf_22 : decode b_Scopes_tellerOf 22 = .ok (.iload_n 2, 1) := by decide +kernel
theorem d_Scopes_tellerOf_23 : decode b_Scopes_tellerOf 23 = .ok (.invokevirtual 33, 3) := by decide +kernel
theorem d_Scopes_tellerOf_26 : decode b_Scopes_tellerOf 26 = .ok (.ifCond .eq 5, 3) := by decide +kernel
theorem d_Scopes_tellerOf_29 : decode b_Scopes_tellerOf 29 = .ok (.iload_n 3, 1) := by decide +kernel
theorem d_Scopes_tellerOf_30 : decode b_Scopes_tellerOf 30 = .ok (.ireturn, 1) := by decide +kernel
theorem d_Scopes_tellerOf_31 : decode b_Scopes_tellerOf 31 = .ok (.aload_n 0, 1) := by decide +kernel
theorem d_Scopes_tellerOf_32 : decode b_Scopes_tellerOf 32 = .ok (.getfield 9, 3) := by decide +kernel
theorem d_Scopes_tellerOf_35 : decode b_Scopes_tellerOf 35 = .ok (.iload_n 3, 1) := by decide +kernel
theorem d_Scopes_tellerOf_36 : decode b_Scopes_tellerOf 36 = .ok (.iaload, 1) := by decide +kernel
theorem d_Scopes_tellerOf_37 : decode b_Scopes_tellerOf 37 = .ok (.istore_n 3, 1) := by decide +kernel
theorem d_Scopes_tellerOf_38 : decode b_Scopes_tellerOf 38 = .ok (.iinc 4 1, 3) := by decide +kernel
theorem d_Scopes_tellerOf_41 : decode b_Scopes_tellerOf 41 = .ok (.goto (-36), 3) := by decide +kernel
theorem d_Scopes_tellerOf_44 : decode b_Scopes_tellerOf 44 = .ok (.iconst (-1), 1) := by decide +kernel
theorem d_Scopes_tellerOf_45 : decode b_Scopes_tellerOf 45 = .ok (.ireturn, 1) := by decide +kernel
theorem hg_Scopes_tellerOf : fx_mw fx_g "FixityTrees$Scopes" y_Scopes_tellerOf b_Scopes_tellerOf 5 (some .int) := ⟨fx_in 434 (by decide +kernel) (by decide +kernel), fx_in 435 (by decide +kernel) (by decide +kernel), fx_in 2 (by decide +kernel) (by decide +kernel), fx_in 436 (by decide +kernel) (by decide +kernel)⟩
abbrev b_Scopes_sideOf : ByteArray := prog_6_method_9_code
abbrev y_Scopes_sideOf : MethodName := ⟨"FixityTrees$Scopes", "sideOf", "(II)I"⟩
theorem d_Scopes_sideOf_0 : decode b_Scopes_sideOf 0 = .ok (.aload_n 0, 1) := by decide +kernel
theorem d_Scopes_sideOf_1 : decode b_Scopes_sideOf 1 = .ok (.aload_n 0, 1) := by decide +kernel
theorem d_Scopes_sideOf_2 : decode b_Scopes_sideOf 2 = .ok (.iload_n 1, 1) := by decide +kernel
theorem d_Scopes_sideOf_3 : decode b_Scopes_sideOf 3 = .ok (.iload_n 2, 1) := by decide +kernel
theorem d_Scopes_sideOf_4 : decode b_Scopes_sideOf 4 = .ok (.invokevirtual 37, 3) := by decide +kernel
theorem d_Scopes_sideOf_7 : decode b_Scopes_sideOf 7 = .ok (.iload_n 2, 1) := by decide +kernel
theorem d_Scopes_sideOf_8 : decode b_Scopes_sideOf 8 = .ok (.invokevirtual 33, 3) := by decide +kernel
theorem d_Scopes_sideOf_11 : decode b_Scopes_sideOf 11 = .ok (.istore_n 3, 1) := by decide +kernel
theorem d_Scopes_sideOf_12 : decode b_Scopes_sideOf 12 = .ok (.iload_n 3, 1) := by decide +kernel
theorem d_Scopes_sideOf_13 : decode b_Scopes_sideOf 13 = .ok (.ifCond .ne 7, 3) := by decide +kernel
theorem d_Scopes_sideOf_16 : decode b_Scopes_sideOf 16 = .ok (.iconst 0, 1) := by decide +kernel
theorem d_Scopes_sideOf_17 : decode b_Scopes_sideOf 17 = .ok (.goto 9, 3) := by decide +kernel
theorem d_Scopes_sideOf_20 : decode b_Scopes_sideOf 20 = .ok (.iload_n 3, 1) := by decide +kernel
theorem d_Scopes_sideOf_21 : decode b_Scopes_sideOf 21 = .ok (.iconst 1, 1) := by decide +kernel
theorem d_Scopes_sideOf_22 : decode b_Scopes_sideOf 22 = .ok (.isub, 1) := by decide +kernel
theorem d_Scopes_sideOf_23 : decode b_Scopes_sideOf 23 = .ok (.bipush 10, 2) := by decide +kernel
theorem d_Scopes_sideOf_25 : decode b_Scopes_sideOf 25 = .ok (.idiv, 1) := by decide +kernel
theorem d_Scopes_sideOf_26 : decode b_Scopes_sideOf 26 = .ok (.ireturn, 1) := by decide +kernel
theorem hg_Scopes_sideOf : fx_mw fx_g "FixityTrees$Scopes" y_Scopes_sideOf b_Scopes_sideOf 4 (some .int) := ⟨fx_in 430 (by decide +kernel) (by decide +kernel), fx_in 431 (by decide +kernel) (by decide +kernel), fx_in 2 (by decide +kernel) (by decide +kernel), fx_in 432 (by decide +kernel) (by decide +kernel)⟩
abbrev b_Scopes_rankOf : ByteArray := prog_6_method_10_code
abbrev y_Scopes_rankOf : MethodName := ⟨"FixityTrees$Scopes", "rankOf", "(II)I"⟩
theorem d_Scopes_rankOf_0 : decode b_Scopes_rankOf 0 = .ok (.iload_n 2, 1) := by decide +kernel
theorem d_Scopes_rankOf_1 : decode b_Scopes_rankOf 1 = .ok (.ifCond .ne 6, 3) := by decide +kernel
theorem d_Scopes_rankOf_4 : decode b_Scopes_rankOf 4 = .ok (.bipush 6, 2) := by decide +kernel
theorem d_Scopes_rankOf_6 : decode b_Scopes_rankOf 6 = .ok (.ireturn, 1) := by decide +kernel
theorem d_Scopes_rankOf_7 : decode b_Scopes_rankOf 7 = .ok (.aload_n 0, 1) := by decide +kernel
theorem d_Scopes_rankOf_8 : decode b_Scopes_rankOf 8 = .ok (.aload_n 0, 1) := by decide +kernel
theorem d_Scopes_rankOf_9 : decode b_Scopes_rankOf 9 = .ok (.iload_n 1, 1) := by decide +kernel
theorem d_Scopes_rankOf_10 : decode b_Scopes_rankOf 10 = .ok (.iload_n 2, 1) := by decide +kernel
theorem d_Scopes_rankOf_11 : decode b_Scopes_rankOf 11 = .ok (.invokevirtual 37, 3) := by decide +kernel
theorem d_Scopes_rankOf_14 : decode b_Scopes_rankOf 14 = .ok (.iload_n 2, 1) := by decide +kernel
theorem d_Scopes_rankOf_15 : decode b_Scopes_rankOf 15 = .ok (.invokevirtual 33, 3) := by decide +kernel
theorem d_Scopes_rankOf_18 : decode b_Scopes_rankOf 18 = .ok (.istore_n 3, 1) := by decide +kernel
theorem d_Scopes_rankOf_19 : decode b_Scopes_rankOf 19 = .ok (.iload_n 3, 1) := by decide +kernel
theorem d_Scopes_rankOf_20 : decode b_Scopes_rankOf 20 = .ok (.ifCond .ne 8, 3) := by decide +kernel
theorem d_Scopes_rankOf_23 : decode b_Scopes_rankOf 23 = .ok (.bipush 9, 2) := by decide +kernel
theorem d_Scopes_rankOf_25 : decode b_Scopes_rankOf 25 = .ok (.goto 9, 3) := by decide +kernel
theorem d_Scopes_rankOf_28 : decode b_Scopes_rankOf 28 = .ok (.iload_n 3, 1) := by decide +kernel
theorem d_Scopes_rankOf_29 : decode b_Scopes_rankOf 29 = .ok (.iconst 1, 1) := by decide +kernel
theorem d_Scopes_rankOf_30 : decode b_Scopes_rankOf 30 = .ok (.isub, 1) := by decide +kernel
theorem d_Scopes_rankOf_31 : decode b_Scopes_rankOf 31 = .ok (.bipush 10, 2) := by decide +kernel
theorem d_Scopes_rankOf_33 : decode b_Scopes_rankOf 33 = .ok (.irem, 1) := by decide +kernel
theorem d_Scopes_rankOf_34 : decode b_Scopes_rankOf 34 = .ok (.ireturn, 1) := by decide +kernel
theorem hg_Scopes_rankOf : fx_mw fx_g "FixityTrees$Scopes" y_Scopes_rankOf b_Scopes_rankOf 4 (some .int) := ⟨fx_in 438 (by decide +kernel) (by decide +kernel), fx_in 439 (by decide +kernel) (by decide +kernel), fx_in 2 (by decide +kernel) (by decide +kernel), fx_in 440 (by decide +kernel) (by decide +kernel)⟩
abbrev b_FixityTrees_looked : ByteArray := prog_1_method_4_code
abbrev y_FixityTrees_looked : MethodName := ⟨"FixityTrees", "looked", "(III)I"⟩
theorem d_FixityTrees_looked_0 : decode b_FixityTrees_looked 0 = .ok (.aload_n 0, 1) := by decide +kernel
theorem d_FixityTrees_looked_1 : decode b_FixityTrees_looked 1 = .ok (.iload_n 1, 1) := by decide +kernel
theorem d_FixityTrees_looked_2 : decode b_FixityTrees_looked 2 = .ok (.invokevirtual 68, 3) := by decide +kernel
theorem d_FixityTrees_looked_5 : decode b_FixityTrees_looked 5 = .ok (.aload_n 0, 1) := by decide +kernel
theorem d_FixityTrees_looked_6 : decode b_FixityTrees_looked 6 = .ok (.iload_n 2, 1) := by decide +kernel
theorem d_FixityTrees_looked_7 : decode b_FixityTrees_looked 7 = .ok (.invokevirtual 87, 3) := by decide +kernel
theorem d_FixityTrees_looked_10 : decode b_FixityTrees_looked 10 = .ok (.iload_n 3, 1) := by decide +kernel
theorem d_FixityTrees_looked_11 : decode b_FixityTrees_looked 11 = .ok (.tableswitch 55 0 2 #[25, 35, 45], 25) := by decide +kernel
theorem d_FixityTrees_looked_36 : decode b_FixityTrees_looked 36 = .ok (.aload_n 0, 1) := by decide +kernel
theorem d_FixityTrees_looked_37 : decode b_FixityTrees_looked 37 = .ok (.getfield 12, 3) := by decide +kernel
theorem d_FixityTrees_looked_40 : decode b_FixityTrees_looked 40 = .ok (.iload_n 1, 1) := by decide +kernel
theorem d_FixityTrees_looked_41 : decode b_FixityTrees_looked 41 = .ok (.iload_n 2, 1) := by decide +kernel
theorem d_FixityTrees_looked_42 : decode b_FixityTrees_looked 42 = .ok (.invokevirtual 109, 3) := by decide +kernel
theorem d_FixityTrees_looked_45 : decode b_FixityTrees_looked 45 = .ok (.ireturn, 1) := by decide +kernel
theorem d_FixityTrees_looked_46 : decode b_FixityTrees_looked 46 = .ok (.aload_n 0, 1) := by decide +kernel
theorem d_FixityTrees_looked_47 : decode b_FixityTrees_looked 47 = .ok (.getfield 12, 3) := by decide +kernel
theorem d_FixityTrees_looked_50 : decode b_FixityTrees_looked 50 = .ok (.iload_n 1, 1) := by decide +kernel
theorem d_FixityTrees_looked_51 : decode b_FixityTrees_looked 51 = .ok (.iload_n 2, 1) := by decide +kernel
theorem d_FixityTrees_looked_52 : decode b_FixityTrees_looked 52 = .ok (.invokevirtual 113, 3) := by decide +kernel
theorem d_FixityTrees_looked_55 : decode b_FixityTrees_looked 55 = .ok (.ireturn, 1) := by decide +kernel
theorem d_FixityTrees_looked_56 : decode b_FixityTrees_looked 56 = .ok (.aload_n 0, 1) := by decide +kernel
theorem d_FixityTrees_looked_57 : decode b_FixityTrees_looked 57 = .ok (.getfield 12, 3) := by decide +kernel
theorem d_FixityTrees_looked_60 : decode b_FixityTrees_looked 60 = .ok (.iload_n 1, 1) := by decide +kernel
theorem d_FixityTrees_looked_61 : decode b_FixityTrees_looked 61 = .ok (.iload_n 2, 1) := by decide +kernel
theorem d_FixityTrees_looked_62 : decode b_FixityTrees_looked 62 = .ok (.invokevirtual 116, 3) := by decide +kernel
theorem d_FixityTrees_looked_65 : decode b_FixityTrees_looked 65 = .ok (.ireturn, 1) := by decide +kernel
theorem d_FixityTrees_looked_66 : decode b_FixityTrees_looked 66 = .ok (.new 98, 3) := by decide +kernel
theorem d_FixityTrees_looked_69 : decode b_FixityTrees_looked 69 = .ok (.dup, 1) := by decide +kernel
theorem d_FixityTrees_looked_70 : decode b_FixityTrees_looked 70 = .ok (.ldc 119, 2) := by decide +kernel
theorem d_FixityTrees_looked_72 : decode b_FixityTrees_looked 72 = .ok (.invokespecial 102, 3) := by decide +kernel
theorem d_FixityTrees_looked_75 : decode b_FixityTrees_looked 75 = .ok (.athrow, 1) := by decide +kernel
theorem hg_FixityTrees_looked : fx_mw fx_g "FixityTrees" y_FixityTrees_looked b_FixityTrees_looked 4 (some .int) := ⟨fx_in 426 (by decide +kernel) (by decide +kernel), fx_in 427 (by decide +kernel) (by decide +kernel), fx_in 1 (by decide +kernel) (by decide +kernel), fx_in 428 (by decide +kernel) (by decide +kernel)⟩
abbrev b_Row_clear : ByteArray := prog_5_method_2_code
abbrev y_Row_clear : MethodName := ⟨"FixityTrees$Row", "clear", "(Z)V"⟩
theorem d_Row_clear_0 : decode b_Row_clear 0 = .ok (.aload_n 0, 1) := by decide +kernel
theorem d_Row_clear_1 : decode b_Row_clear 1 = .ok (.iconst 0, 1) := by decide +kernel
theorem d_Row_clear_2 : decode b_Row_clear 2 = .ok (.putfield 29, 3) := by decide +kernel
theorem d_Row_clear_5 : decode b_Row_clear 5 = .ok (.aload_n 0, 1) := by decide +kernel
theorem d_Row_clear_6 : decode b_Row_clear 6 = .ok (.iconst 0, 1) := by decide +kernel
theorem d_Row_clear_7 : decode b_Row_clear 7 = .ok (.putfield 33, 3) := by decide +kernel
theorem d_Row_clear_10 : decode b_Row_clear 10 = .ok (.aload_n 0, 1) := by decide +kernel
theorem d_Row_clear_11 : decode b_Row_clear 11 = .ok (.iload_n 1, 1) := by decide +kernel
theorem d_Row_clear_12 : decode b_Row_clear 12 = .ok (.putfield 36, 3) := by decide +kernel
theorem d_Row_clear_15 : decode b_Row_clear 15 = .ok (.return_, 1) := by decide +kernel
theorem hg_Row_clear : fx_mw fx_g "FixityTrees$Row" y_Row_clear b_Row_clear 2 none := ⟨fx_in 260 (by decide +kernel) (by decide +kernel), fx_in 261 (by decide +kernel) (by decide +kernel), fx_in 4 (by decide +kernel) (by decide +kernel), fx_in 262 (by decide +kernel) (by decide +kernel)⟩
abbrev b_FixityTrees_begin : ByteArray := prog_1_method_5_code
abbrev y_FixityTrees_begin : MethodName := ⟨"FixityTrees", "begin", "(Z)V"⟩
theorem d_FixityTrees_begin_0 : decode b_FixityTrees_begin 0 = .ok (.aload_n 0, 1) := by decide +kernel
theorem d_FixityTrees_begin_1 : decode b_FixityTrees_begin 1 = .ok (.getfield 26, 3) := by decide +kernel
theorem d_FixityTrees_begin_4 : decode b_FixityTrees_begin 4 = .ok (.iload_n 1, 1) := by decide +kernel
theorem d_FixityTrees_begin_5 : decode b_FixityTrees_begin 5 = .ok (.invokevirtual 121, 3) := by decide +kernel
theorem d_FixityTrees_begin_8 : decode b_FixityTrees_begin 8 = .ok (.return_, 1) := by decide +kernel
theorem hg_FixityTrees_begin : fx_mw fx_g "FixityTrees" y_FixityTrees_begin b_FixityTrees_begin 2 none := ⟨fx_in 256 (by decide +kernel) (by decide +kernel), fx_in 257 (by decide +kernel) (by decide +kernel), fx_in 1 (by decide +kernel) (by decide +kernel), fx_in 258 (by decide +kernel) (by decide +kernel)⟩
abbrev b_Row_isFull : ByteArray := prog_5_method_22_code
abbrev y_Row_isFull : MethodName := ⟨"FixityTrees$Row", "isFull", "()Z"⟩
theorem d_Row_isFull_0 : decode b_Row_isFull 0 = .ok (.aload_n 0, 1) := by decide +kernel
theorem d_Row_isFull_1 : decode b_Row_isFull 1 = .ok (.getfield 29, 3) := by decide +kernel
theorem d_Row_isFull_4 : decode b_Row_isFull 4 = .ok (.sipush 200, 3) := by decide +kernel
theorem d_Row_isFull_7 : decode b_Row_isFull 7 = .ok (.if_icmp .lt 7, 3) := by decide +kernel
theorem d_Row_isFull_10 : decode b_Row_isFull 10 = .ok (.iconst 1, 1) := by decide +kernel
theorem d_Row_isFull_11 : decode b_Row_isFull 11 = .ok (.goto 4, 3) := by decide +kernel
theorem d_Row_isFull_14 : decode b_Row_isFull 14 = .ok (.iconst 0, 1) := by decide +kernel
theorem d_Row_isFull_15 : decode b_Row_isFull 15 = .ok (.ireturn, 1) := by decide +kernel
theorem hg_Row_isFull : fx_mw fx_g "FixityTrees$Row" y_Row_isFull b_Row_isFull 1 (some .boolean) := ⟨fx_in 456 (by decide +kernel) (by decide +kernel), fx_inp 4 (by decide +kernel) (by decide +kernel), fx_in 4 (by decide +kernel) (by decide +kernel), fx_in 457 (by decide +kernel) (by decide +kernel)⟩
abbrev b_Row_has : ByteArray := prog_5_method_23_code
abbrev y_Row_has : MethodName := ⟨"FixityTrees$Row", "has", "(I)Z"⟩
theorem d_Row_has_0 : decode b_Row_has 0 = .ok (.iload_n 1, 1) := by decide +kernel
theorem d_Row_has_1 : decode b_Row_has 1 = .ok (.ifCond .lt 22, 3) := by decide +kernel
theorem d_Row_has_4 : decode b_Row_has 4 = .ok (.iload_n 1, 1) := by decide +kernel
theorem d_Row_has_5 : decode b_Row_has 5 = .ok (.aload_n 0, 1) := by decide +kernel
theorem d_Row_has_6 : decode b_Row_has 6 = .ok (.getfield 29, 3) := by decide +kernel
theorem d_Row_has_9 : decode b_Row_has 9 = .ok (.if_icmp .ge 14, 3) := by decide +kernel
theorem d_Row_has_12 : decode b_Row_has 12 = .ok (.iload_n 1, 1) := by decide +kernel
theorem d_Row_has_13 : decode b_Row_has 13 = .ok (.sipush 200, 3) := by decide +kernel
theorem d_Row_has_16 : decode b_Row_has 16 = .ok (.if_icmp .ge 7, 3) := by decide +kernel
theorem d_Row_has_19 : decode b_Row_has 19 = .ok (.iconst 1, 1) := by decide +kernel
theorem d_Row_has_20 : decode b_Row_has 20 = .ok (.goto 4, 3) := by decide +kernel
theorem d_Row_has_23 : decode b_Row_has 23 = .ok (.iconst 0, 1) := by decide +kernel
theorem d_Row_has_24 : decode b_Row_has 24 = .ok (.ireturn, 1) := by decide +kernel
theorem hg_Row_has : fx_mw fx_g "FixityTrees$Row" y_Row_has b_Row_has 2 (some .boolean) := ⟨fx_in 472 (by decide +kernel) (by decide +kernel), fx_inp 6 (by decide +kernel) (by decide +kernel), fx_in 4 (by decide +kernel) (by decide +kernel), fx_in 473 (by decide +kernel) (by decide +kernel)⟩
abbrev b_Row_kindAt : ByteArray := prog_5_method_6_code
abbrev y_Row_kindAt : MethodName := ⟨"FixityTrees$Row", "kindAt", "(I)I"⟩
theorem d_Row_kindAt_0 : decode b_Row_kindAt 0 = .ok (.aload_n 0, 1) := by decide +kernel
theorem d_Row_kindAt_1 : decode b_Row_kindAt 1 = .ok (.iload_n 1, 1) := by decide +kernel
theorem d_Row_kindAt_2 : decode b_Row_kindAt 2 = .ok (.invokevirtual 40, 3) := by decide +kernel
theorem d_Row_kindAt_5 : decode b_Row_kindAt 5 = .ok (.ifCond .eq 12, 3) := by decide +kernel
theorem d_Row_kindAt_8 : decode b_Row_kindAt 8 = .ok (.aload_n 0, 1) := by decide +kernel
theorem d_Row_kindAt_9 : decode b_Row_kindAt 9 = .ok (.getfield 9, 3) := by decide +kernel
theorem d_Row_kindAt_12 : decode b_Row_kindAt 12 = .ok (.iload_n 1, 1) := by decide +kernel
theorem d_Row_kindAt_13 : decode b_Row_kindAt 13 = .ok (.iaload, 1) := by decide +kernel
theorem d_Row_kindAt_14 : decode b_Row_kindAt 14 = .ok (.goto 4, 3) := by decide +kernel
theorem d_Row_kindAt_17 : decode b_Row_kindAt 17 = .ok (.iconst (-1), 1) := by decide +kernel
theorem d_Row_kindAt_18 : decode b_Row_kindAt 18 = .ok (.ireturn, 1) := by decide +kernel
theorem hg_Row_kindAt : fx_mw fx_g "FixityTrees$Row" y_Row_kindAt b_Row_kindAt 2 (some .int) := ⟨fx_in 467 (by decide +kernel) (by decide +kernel), fx_in 468 (by decide +kernel) (by decide +kernel), fx_in 4 (by decide +kernel) (by decide +kernel), fx_in 469 (by decide +kernel) (by decide +kernel)⟩
abbrev b_Row_lastKind : ByteArray := prog_5_method_21_code
abbrev y_Row_lastKind : MethodName := ⟨"FixityTrees$Row", "lastKind", "()I"⟩
theorem d_Row_lastKind_0 : decode b_Row_lastKind 0 = .ok (.aload_n 0, 1) := by decide +kernel
theorem d_Row_lastKind_1 : decode b_Row_lastKind 1 = .ok (.aload_n 0, 1) := by decide +kernel
theorem d_Row_lastKind_2 : decode b_Row_lastKind 2 = .ok (.getfield 29, 3) := by decide +kernel
theorem d_Row_lastKind_5 : decode b_Row_lastKind 5 = .ok (.iconst 1, 1) := by decide +kernel
theorem d_Row_lastKind_6 : decode b_Row_lastKind 6 = .ok (.isub, 1) := by decide +kernel
theorem d_Row_lastKind_7 : decode b_Row_lastKind 7 = .ok (.invokevirtual 70, 3) := by decide +kernel
theorem d_Row_lastKind_10 : decode b_Row_lastKind 10 = .ok (.ireturn, 1) := by decide +kernel
theorem hg_Row_lastKind : fx_mw fx_g "FixityTrees$Row" y_Row_lastKind b_Row_lastKind 1 (some .int) := ⟨fx_in 464 (by decide +kernel) (by decide +kernel), fx_inp 5 (by decide +kernel) (by decide +kernel), fx_in 4 (by decide +kernel) (by decide +kernel), fx_in 465 (by decide +kernel) (by decide +kernel)⟩
abbrev b_Row_operandIsDue : ByteArray := prog_5_method_10_code
abbrev y_Row_operandIsDue : MethodName := ⟨"FixityTrees$Row", "operandIsDue", "()Z"⟩
theorem d_Row_operandIsDue_0 : decode b_Row_operandIsDue 0 = .ok (.aload_n 0, 1) := by decide +kernel
theorem d_Row_operandIsDue_1 : decode b_Row_operandIsDue 1 = .ok (.invokevirtual 44, 3) := by decide +kernel
theorem d_Row_operandIsDue_4 : decode b_Row_operandIsDue 4 = .ok (.istore_n 1, 1) := by decide +kernel
theorem d_Row_operandIsDue_5 : decode b_Row_operandIsDue 5 = .ok (.iload_n 1, 1) := by decide +kernel
theorem d_Row_operandIsDue_6 : decode b_Row_operandIsDue 6 = .ok (.ifCond .eq 12, 3) := by decide +kernel
theorem d_Row_operandIsDue_9 : decode b_Row_operandIsDue 9 = .ok (.iload_n 1, 1) := by decide +kernel
theorem d_Row_operandIsDue_10 : decode b_Row_operandIsDue 10 = .ok (.iconst 4, 1) := by decide +kernel
theorem d_Row_operandIsDue_11 : decode b_Row_operandIsDue 11 = .ok (.if_icmp .eq 7, 3) := by decide +kernel
theorem d_Row_operandIsDue_14 : decode b_Row_operandIsDue 14 = .ok (.iconst 1, 1) := by decide +kernel
theorem d_Row_operandIsDue_15 : decode b_Row_operandIsDue 15 = .ok (.goto 4, 3) := by decide +kernel
theorem d_Row_operandIsDue_18 : decode b_Row_operandIsDue 18 = .ok (.iconst 0, 1) := by decide +kernel
theorem d_Row_operandIsDue_19 : decode b_Row_operandIsDue 19 = .ok (.ireturn, 1) := by decide +kernel
theorem hg_Row_operandIsDue : fx_mw fx_g "FixityTrees$Row" y_Row_operandIsDue b_Row_operandIsDue 2 (some .boolean) := ⟨fx_in 459 (by decide +kernel) (by decide +kernel), fx_in 460 (by decide +kernel) (by decide +kernel), fx_in 4 (by decide +kernel) (by decide +kernel), fx_in 461 (by decide +kernel) (by decide +kernel)⟩
abbrev b_Row_takesOperand : ByteArray := prog_5_method_11_code
abbrev y_Row_takesOperand : MethodName := ⟨"FixityTrees$Row", "takesOperand", "()Z"⟩
theorem d_Row_takesOperand_0 : decode b_Row_takesOperand 0 = .ok (.aload_n 0, 1) := by decide +kernel
theorem d_Row_takesOperand_1 : decode b_Row_takesOperand 1 = .ok (.invokevirtual 48, 3) := by decide +kernel
theorem d_Row_takesOperand_4 : decode b_Row_takesOperand 4 = .ok (.ifCond .ne 14, 3) := by decide +kernel
theorem d_Row_takesOperand_7 : decode b_Row_takesOperand 7 = .ok (.aload_n 0, 1) := by decide +kernel
theorem d_Row_takesOperand_8 : decode b_Row_takesOperand 8 = .ok (.invokevirtual 52, 3) := by decide +kernel
theorem d_Row_takesOperand_11 : decode b_Row_takesOperand 11 = .ok (.ifCond .eq 7, 3) := by decide +kernel
theorem d_Row_takesOperand_14 : decode b_Row_takesOperand 14 = .ok (.iconst 1, 1) := by decide +kernel
theorem d_Row_takesOperand_15 : decode b_Row_takesOperand 15 = .ok (.goto 4, 3) := by decide +kernel
theorem d_Row_takesOperand_18 : decode b_Row_takesOperand 18 = .ok (.iconst 0, 1) := by decide +kernel
theorem d_Row_takesOperand_19 : decode b_Row_takesOperand 19 = .ok (.ireturn, 1) := by decide +kernel
theorem hg_Row_takesOperand : fx_mw fx_g "FixityTrees$Row" y_Row_takesOperand b_Row_takesOperand 1 (some .boolean) := ⟨fx_in 451 (by decide +kernel) (by decide +kernel), fx_in 452 (by decide +kernel) (by decide +kernel), fx_in 4 (by decide +kernel) (by decide +kernel), fx_in 453 (by decide +kernel) (by decide +kernel)⟩
abbrev b_Row_beginRightSection : ByteArray := prog_5_method_18_code
abbrev y_Row_beginRightSection : MethodName := ⟨"FixityTrees$Row", "beginRightSection", "()V"⟩
theorem d_Row_beginRightSection_0 : decode b_Row_beginRightSection 0 = .ok (.aload_n 0, 1) := by decide +kernel
theorem d_Row_beginRightSection_1 : decode b_Row_beginRightSection 1 = .ok (.getfield 15, 3) := by decide +kernel
theorem d_Row_beginRightSection_4 : decode b_Row_beginRightSection 4 = .ok (.aload_n 0, 1) := by decide +kernel
theorem d_Row_beginRightSection_5 : decode b_Row_beginRightSection 5 = .ok (.getfield 29, 3) := by decide +kernel
theorem d_Row_beginRightSection_8 : decode b_Row_beginRightSection 8 = .ok (.iconst 4, 1) := by decide +kernel
theorem d_Row_beginRightSection_9 : decode b_Row_beginRightSection 9 = .ok (.iastore, 1) := by decide +kernel
theorem d_Row_beginRightSection_10 : decode b_Row_beginRightSection 10 = .ok (.aload_n 0, 1) := by decide +kernel
theorem d_Row_beginRightSection_11 : decode b_Row_beginRightSection 11 = .ok (.getfield 33, 3) := by decide +kernel
theorem d_Row_beginRightSection_14 : decode b_Row_beginRightSection 14 = .ok (.ifCond .le 15, 3) := by decide +kernel
theorem d_Row_beginRightSection_17 : decode b_Row_beginRightSection 17 = .ok (.aload_n 0, 1) := by decide +kernel
theorem d_Row_beginRightSection_18 : decode b_Row_beginRightSection 18 = .ok (.getfield 25, 3) := by decide +kernel
theorem d_Row_beginRightSection_21 : decode b_Row_beginRightSection 21 = .ok (.aload_n 0, 1) := by decide +kernel
theorem d_Row_beginRightSection_22 : decode b_Row_beginRightSection 22 = .ok (.getfield 33, 3) := by decide +kernel
theorem d_Row_beginRightSection_25 : decode b_Row_beginRightSection 25 = .ok (.iconst 1, 1) := by decide +kernel
theorem d_Row_beginRightSection_26 : decode b_Row_beginRightSection 26 = .ok (.isub, 1) := by decide +kernel
theorem d_Row_beginRightSection_27 : decode b_Row_beginRightSection 27 = .ok (.iconst 1, 1) := by decide +kernel
theorem d_Row_beginRightSection_28 : decode b_Row_beginRightSection 28 = .ok (.bastore, 1) := by decide +kernel
theorem d_Row_beginRightSection_29 : decode b_Row_beginRightSection 29 = .ok (.return_, 1) := by decide +kernel
theorem hg_Row_beginRightSection : fx_mw fx_g "FixityTrees$Row" y_Row_beginRightSection b_Row_beginRightSection 1 none := ⟨fx_in 489 (by decide +kernel) (by decide +kernel), fx_inp 9 (by decide +kernel) (by decide +kernel), fx_in 4 (by decide +kernel) (by decide +kernel), fx_in 490 (by decide +kernel) (by decide +kernel)⟩
abbrev b_Row_closeGroup : ByteArray := prog_5_method_17_code
abbrev y_Row_closeGroup : MethodName := ⟨"FixityTrees$Row", "closeGroup", "()V"⟩
theorem d_Row_closeGroup_0 : decode b_Row_closeGroup 0 = .ok (.aload_n 0, 1) := by decide +kernel
theorem d_Row_closeGroup_1 : decode b_Row_closeGroup 1 = .ok (.getfield 33, 3) := by decide +kernel
theorem d_Row_closeGroup_4 : decode b_Row_closeGroup 4 = .ok (.ifCond .le 13, 3) := by decide +kernel
theorem d_Row_closeGroup_7 : decode b_Row_closeGroup 7 = .ok (.aload_n 0, 1) := by decide +kernel
theorem d_Row_closeGroup_8 : decode b_Row_closeGroup 8 = .ok (.dup, 1) := by decide +kernel
theorem d_Row_closeGroup_9 : decode b_Row_closeGroup 9 = .ok (.getfield 33, 3) := by decide +kernel
theorem d_Row_closeGroup_12 : decode b_Row_closeGroup 12 = .ok (.iconst 1, 1) := by decide +kernel
theorem d_Row_closeGroup_13 : decode b_Row_closeGroup 13 = .ok (.isub, 1) := by decide +kernel
theorem d_Row_closeGroup_14 : decode b_Row_closeGroup 14 = .ok (.putfield 33, 3) := by decide +kernel
theorem d_Row_closeGroup_17 : decode b_Row_closeGroup 17 = .ok (.aload_n 0, 1) := by decide +kernel
theorem d_Row_closeGroup_18 : decode b_Row_closeGroup 18 = .ok (.invokevirtual 44, 3) := by decide +kernel
theorem d_Row_closeGroup_21 : decode b_Row_closeGroup 21 = .ok (.iconst 1, 1) := by decide +kernel
theorem d_Row_closeGroup_22 : decode b_Row_closeGroup 22 = .ok (.if_icmp .ne 22, 3) := by decide +kernel
theorem d_Row_closeGroup_25 : decode b_Row_closeGroup 25 = .ok (.aload_n 0, 1) := by decide +kernel
theorem d_Row_closeGroup_26 : decode b_Row_closeGroup 26 = .ok (.getfield 29, 3) := by decide +kernel
theorem d_Row_closeGroup_29 : decode b_Row_closeGroup 29 = .ok (.ifCond .le 15, 3) := by decide +kernel
theorem d_Row_closeGroup_32 : decode b_Row_closeGroup 32 = .ok (.aload_n 0, 1) := by decide +kernel
theorem d_Row_closeGroup_33 : decode b_Row_closeGroup 33 = .ok (.getfield 15, 3) := by decide +kernel
theorem d_Row_closeGroup_36 : decode b_Row_closeGroup 36 = .ok (.aload_n 0, 1) := by decide +kernel
theorem d_Row_closeGroup_37 : decode b_Row_closeGroup 37 = .ok (.getfield 29, 3) := by decide +kernel
theorem d_Row_closeGroup_40 : decode b_Row_closeGroup 40 = .ok (.iconst 1, 1) := by decide +kernel
theorem d_Row_closeGroup_41 : decode b_Row_closeGroup 41 = .ok (.isub, 1) := by decide +kernel
theorem d_Row_closeGroup_42 : decode b_Row_closeGroup 42 = .ok (.iconst 3, 1) := by decide +kernel
theorem d_Row_closeGroup_43 : decode b_Row_closeGroup 43 = .ok (.iastore, 1) := by decide +kernel
theorem d_Row_closeGroup_44 : decode b_Row_closeGroup 44 = .ok (.return_, 1) := by decide +kernel
theorem hg_Row_closeGroup : fx_mw fx_g "FixityTrees$Row" y_Row_closeGroup b_Row_closeGroup 1 none := ⟨fx_in 485 (by decide +kernel) (by decide +kernel), fx_inp 8 (by decide +kernel) (by decide +kernel), fx_in 4 (by decide +kernel) (by decide +kernel), fx_in 486 (by decide +kernel) (by decide +kernel)⟩
abbrev b_Row_openGroup : ByteArray := prog_5_method_16_code
abbrev y_Row_openGroup : MethodName := ⟨"FixityTrees$Row", "openGroup", "()V"⟩
theorem d_Row_openGroup_0 : decode b_Row_openGroup 0 = .ok (.aload_n 0, 1) := by decide +kernel
theorem d_Row_openGroup_1 : decode b_Row_openGroup 1 = .ok (.getfield 33, 3) := by decide +kernel
theorem d_Row_openGroup_4 : decode b_Row_openGroup 4 = .ok (.bipush 40, 2) := by decide +kernel
theorem d_Row_openGroup_6 : decode b_Row_openGroup 6 = .ok (.if_icmp .ge 23, 3) := by decide +kernel
theorem d_Row_openGroup_9 : decode b_Row_openGroup 9 = .ok (.aload_n 0, 1) := by decide +kernel
theorem d_Row_openGroup_10 : decode b_Row_openGroup 10 = .ok (.getfield 25, 3) := by decide +kernel
theorem d_Row_openGroup_13 : decode b_Row_openGroup 13 = .ok (.aload_n 0, 1) := by decide +kernel
theorem d_Row_openGroup_14 : decode b_Row_openGroup 14 = .ok (.getfield 33, 3) := by decide +kernel
theorem d_Row_openGroup_17 : decode b_Row_openGroup 17 = .ok (.iconst 0, 1) := by decide +kernel
theorem d_Row_openGroup_18 : decode b_Row_openGroup 18 = .ok (.bastore, 1) := by decide +kernel
theorem d_Row_openGroup_19 : decode b_Row_openGroup 19 = .ok (.aload_n 0, 1) := by decide +kernel
theorem d_Row_openGroup_20 : decode b_Row_openGroup 20 = .ok (.dup, 1) := by decide +kernel
theorem d_Row_openGroup_21 : decode b_Row_openGroup 21 = .ok (.getfield 33, 3) := by decide +kernel
theorem d_Row_openGroup_24 : decode b_Row_openGroup 24 = .ok (.iconst 1, 1) := by decide +kernel
theorem d_Row_openGroup_25 : decode b_Row_openGroup 25 = .ok (.iadd, 1) := by decide +kernel
theorem d_Row_openGroup_26 : decode b_Row_openGroup 26 = .ok (.putfield 33, 3) := by decide +kernel
theorem d_Row_openGroup_29 : decode b_Row_openGroup 29 = .ok (.return_, 1) := by decide +kernel
theorem hg_Row_openGroup : fx_mw fx_g "FixityTrees$Row" y_Row_openGroup b_Row_openGroup 1 none := ⟨fx_in 481 (by decide +kernel) (by decide +kernel), fx_inp 7 (by decide +kernel) (by decide +kernel), fx_in 4 (by decide +kernel) (by decide +kernel), fx_in 482 (by decide +kernel) (by decide +kernel)⟩
abbrev b_Row_add : ByteArray := prog_5_method_15_code
abbrev y_Row_add : MethodName := ⟨"FixityTrees$Row", "add", "(IIJ)V"⟩
theorem d_Row_add_0 : decode b_Row_add 0 = .ok (.aload_n 0, 1) := by decide +kernel
theorem d_Row_add_1 : decode b_Row_add 1 = .ok (.invokevirtual 48, 3) := by decide +kernel
theorem d_Row_add_4 : decode b_Row_add 4 = .ok (.ifCond .eq 4, 3) := by decide +kernel
theorem d_Row_add_7 : decode b_Row_add 7 = .ok (.return_, 1) := by decide +kernel
theorem d_Row_add_8 : decode b_Row_add 8 = .ok (.aload_n 0, 1) := by decide +kernel
theorem d_Row_add_9 : decode b_Row_add 9 = .ok (.getfield 9, 3) := by decide +kernel
theorem d_Row_add_12 : decode b_Row_add 12 = .ok (.aload_n 0, 1) := by decide +kernel
theorem d_Row_add_13 : decode b_Row_add 13 = .ok (.getfield 29, 3) := by decide +kernel
theorem d_Row_add_16 : decode b_Row_add 16 = .ok (.iload_n 1, 1) := by decide +kernel
theorem d_Row_add_17 : decode b_Row_add 17 = .ok (.iastore, 1) := by decide +kernel
theorem d_Row_add_18 : decode b_Row_add 18 = .ok (.aload_n 0, 1) := by decide +kernel
theorem d_Row_add_19 : decode b_Row_add 19 = .ok (.getfield 18, 3) := by decide +kernel
theorem d_Row_add_22 : decode b_Row_add 22 = .ok (.aload_n 0, 1) := by decide +kernel
theorem d_Row_add_23 : decode b_Row_add 23 = .ok (.getfield 29, 3) := by decide +kernel
theorem d_Row_add_26 : decode b_Row_add 26 = .ok (.iload_n 2, 1) := by decide +kernel
theorem d_Row_add_27 : decode b_Row_add 27 = .ok (.iastore, 1) := by decide +kernel
theorem d_Row_add_28 : decode b_Row_add 28 = .ok (.aload_n 0, 1) := by decide +kernel
theorem d_Row_add_29 : decode b_Row_add 29 = .ok (.getfield 21, 3) := by decide +kernel
theorem d_Row_add_32 : decode b_Row_add 32 = .ok (.aload_n 0, 1) := by decide +kernel
theorem d_Row_add_33 : decode b_Row_add 33 = .ok (.getfield 29, 3) := by decide +kernel
theorem d_Row_add_36 : decode b_Row_add 36 = .ok (.lload_n 3, 1) := by decide +kernel
theorem d_Row_add_37 : decode b_Row_add 37 = .ok (.lastore, 1) := by decide +kernel
theorem d_Row_add_38 : decode b_Row_add 38 = .ok (.aload_n 0, 1) := by decide +kernel
theorem d_Row_add_39 : decode b_Row_add 39 = .ok (.getfield 15, 3) := by decide +kernel
theorem d_Row_add_42 : decode b_Row_add 42 = .ok (.aload_n 0, 1) := by decide +kernel
theorem d_Row_add_43 : decode b_Row_add 43 = .ok (.getfield 29, 3) := by decide +kernel
theorem d_Row_add_46 : decode b_Row_add 46 = .ok (.iload_n 1, 1) := by decide +kernel
theorem d_Row_add_47 : decode b_Row_add 47 = .ok (.iconst 3, 1) := by decide +kernel
theorem d_Row_add_48 : decode b_Row_add 48 = .ok (.if_icmp .eq 8, 3) := by decide +kernel
theorem d_Row_add_51 : decode b_Row_add 51 = .ok (.iload_n 1, 1) := by decide +kernel
theorem d_Row_add_52 : decode b_Row_add 52 = .ok (.iconst 4, 1) := by decide +kernel
theorem d_Row_add_53 : decode b_Row_add 53 = .ok (.if_icmp .ne 7, 3) := by decide +kernel
theorem d_Row_add_56 : decode b_Row_add 56 = .ok (.iconst (-1), 1) := by decide +kernel
theorem d_Row_add_57 : decode b_Row_add 57 = .ok (.goto 4, 3) := by decide +kernel
theorem d_Row_add_60 : decode b_Row_add 60 = .ok (.iload_n 1, 1) := by decide +kernel
theorem d_Row_add_61 : decode b_Row_add 61 = .ok (.iastore, 1) := by decide +kernel
theorem d_Row_add_62 : decode b_Row_add 62 = .ok (.iload_n 1, 1) := by decide +kernel
theorem d_Row_add_63 : decode b_Row_add 63 = .ok (.iconst 3, 1) := by decide +kernel
theorem d_Row_add_64 : decode b_Row_add 64 = .ok (.if_icmp .ne 10, 3) := by decide +kernel
theorem d_Row_add_67 : decode b_Row_add 67 = .ok (.aload_n 0, 1) := by decide +kernel
theorem d_Row_add_68 : decode b_Row_add 68 = .ok (.invokevirtual 61, 3) := by decide +kernel
theorem d_Row_add_71 : decode b_Row_add 71 = .ok (.goto 32, 3) := by decide +kernel
theorem d_Row_add_74 : decode b_Row_add 74 = .ok (.iload_n 1, 1) := by decide +kernel
theorem d_Row_add_75 : decode b_Row_add 75 = .ok (.iconst 4, 1) := by decide +kernel
theorem d_Row_add_76 : decode b_Row_add 76 = .ok (.if_icmp .ne 10, 3) := by decide +kernel
theorem d_Row_add_79 : decode b_Row_add 79 = .ok (.aload_n 0, 1) := by decide +kernel
theorem d_Row_add_80 : decode b_Row_add 80 = .ok (.invokevirtual 64, 3) := by decide +kernel
theorem d_Row_add_83 : decode b_Row_add 83 = .ok (.goto 20, 3) := by decide +kernel
theorem d_Row_add_86 : decode b_Row_add 86 = .ok (.iload_n 1, 1) := by decide +kernel
theorem d_Row_add_87 : decode b_Row_add 87 = .ok (.iconst 1, 1) := by decide +kernel
theorem d_Row_add_88 : decode b_Row_add 88 = .ok (.if_icmp .ne 15, 3) := by decide +kernel
theorem d_Row_add_91 : decode b_Row_add 91 = .ok (.aload_n 0, 1) := by decide +kernel
theorem d_Row_add_92 : decode b_Row_add 92 = .ok (.invokevirtual 44, 3) := by decide +kernel
theorem d_Row_add_95 : decode b_Row_add 95 = .ok (.iconst 3, 1) := by decide +kernel
theorem d_Row_add_96 : decode b_Row_add 96 = .ok (.if_icmp .ne 7, 3) := by decide +kernel
theorem d_Row_add_99 : decode b_Row_add 99 = .ok (.aload_n 0, 1) := by decide +kernel
theorem d_Row_add_100 : decode b_Row_add 100 = .ok (.invokevirtual 67, 3) := by decide +kernel
theorem d_Row_add_103 : decode b_Row_add 103 = .ok (.aload_n 0, 1) := by decide +kernel
theorem d_Row_add_104 : decode b_Row_add 104 = .ok (.dup, 1) := by decide +kernel
theorem d_Row_add_105 : decode b_Row_add 105 = .ok (.getfield 29, 3) := by decide +kernel
theorem d_Row_add_108 : decode b_Row_add 108 = .ok (.iconst 1, 1) := by decide +kernel
theorem d_Row_add_109 : decode b_Row_add 109 = .ok (.iadd, 1) := by decide +kernel
theorem d_Row_add_110 : decode b_Row_add 110 = .ok (.putfield 29, 3) := by decide +kernel
theorem d_Row_add_113 : decode b_Row_add 113 = .ok (.return_, 1) := by decide +kernel
theorem hg_Row_add : fx_mw fx_g "FixityTrees$Row" y_Row_add b_Row_add 5 none := ⟨fx_in 476 (by decide +kernel) (by decide +kernel), fx_in 477 (by decide +kernel) (by decide +kernel), fx_in 4 (by decide +kernel) (by decide +kernel), fx_in 478 (by decide +kernel) (by decide +kernel)⟩
abbrev b_Row_size : ByteArray := prog_5_method_3_code
abbrev y_Row_size : MethodName := ⟨"FixityTrees$Row", "size", "()I"⟩
theorem d_Row_size_0 : decode b_Row_size 0 = .ok (.aload_n 0, 1) := by decide +kernel
theorem d_Row_size_1 : decode b_Row_size 1 = .ok (.getfield 29, 3) := by decide +kernel
theorem d_Row_size_4 : decode b_Row_size 4 = .ok (.ireturn, 1) := by decide +kernel
theorem hg_Row_size : fx_mw fx_g "FixityTrees$Row" y_Row_size b_Row_size 1 (some .int) := ⟨fx_in 492 (by decide +kernel) (by decide +kernel), fx_in 493 (by decide +kernel) (by decide +kernel), fx_in 4 (by decide +kernel) (by decide +kernel), fx_in 494 (by decide +kernel) (by decide +kernel)⟩
abbrev b_FixityTrees_operand : ByteArray := prog_1_method_6_code
abbrev y_FixityTrees_operand : MethodName := ⟨"FixityTrees", "operand", "(J)I"⟩
theorem d_FixityTrees_operand_0 : decode b_FixityTrees_operand 0 = .ok (.aload_n 0, 1) := by decide +kernel
theorem d_FixityTrees_operand_1 : decode b_FixityTrees_operand 1 = .ok (.getfield 26, 3) := by decide +kernel
theorem d_FixityTrees_operand_4 : decode b_FixityTrees_operand 4 = .ok (.invokevirtual 125, 3) := by decide +kernel
theorem d_FixityTrees_operand_7 : decode b_FixityTrees_operand 7 = .ok (.ifCond .ne 13, 3) := by decide +kernel
theorem d_FixityTrees_operand_10 : decode b_FixityTrees_operand 10 = .ok (.new 76, 3) := by decide +kernel
theorem d_FixityTrees_operand_13 : decode b_FixityTrees_operand 13 = .ok (.dup, 1) := by decide +kernel
theorem d_FixityTrees_operand_14 : decode b_FixityTrees_operand 14 = .ok (.ldc 128, 2) := by decide +kernel
theorem d_FixityTrees_operand_16 : decode b_FixityTrees_operand 16 = .ok (.invokespecial 80, 3) := by decide +kernel
theorem d_FixityTrees_operand_19 : decode b_FixityTrees_operand 19 = .ok (.athrow, 1) := by decide +kernel
theorem d_FixityTrees_operand_20 : decode b_FixityTrees_operand 20 = .ok (.aload_n 0, 1) := by decide +kernel
theorem d_FixityTrees_operand_21 : decode b_FixityTrees_operand 21 = .ok (.getfield 26, 3) := by decide +kernel
theorem d_FixityTrees_operand_24 : decode b_FixityTrees_operand 24 = .ok (.iconst 0, 1) := by decide +kernel
theorem d_FixityTrees_operand_25 : decode b_FixityTrees_operand 25 = .ok (.iconst (-1), 1) := by decide +kernel
theorem d_FixityTrees_operand_26 : decode b_FixityTrees_operand 26 = .ok (.lload_n 1, 1) := by decide +kernel
theorem d_FixityTrees_operand_27 : decode b_FixityTrees_operand 27 = .ok (.invokevirtual 130, 3) := by decide +kernel
theorem d_FixityTrees_operand_30 : decode b_FixityTrees_operand 30 = .ok (.aload_n 0, 1) := by decide +kernel
theorem d_FixityTrees_operand_31 : decode b_FixityTrees_operand 31 = .ok (.getfield 26, 3) := by decide +kernel
theorem d_FixityTrees_operand_34 : decode b_FixityTrees_operand 34 = .ok (.invokevirtual 133, 3) := by decide +kernel
theorem d_FixityTrees_operand_37 : decode b_FixityTrees_operand 37 = .ok (.ireturn, 1) := by decide +kernel
theorem hg_FixityTrees_operand : fx_mw fx_g "FixityTrees" y_FixityTrees_operand b_FixityTrees_operand 3 (some .int) := ⟨fx_in 447 (by decide +kernel) (by decide +kernel), fx_in 448 (by decide +kernel) (by decide +kernel), fx_in 1 (by decide +kernel) (by decide +kernel), fx_in 449 (by decide +kernel) (by decide +kernel)⟩
abbrev b_Row_wantsBareOperand : ByteArray := prog_5_method_19_code
abbrev y_Row_wantsBareOperand : MethodName := ⟨"FixityTrees$Row", "wantsBareOperand", "()Z"⟩
theorem d_Row_wantsBareOperand_0 : decode b_Row_wantsBareOperand 0 = .ok (.aload_n 0, 1) := by decide +kernel
theorem d_Row_wantsBareOperand_1 : decode b_Row_wantsBareOperand 1 = .ok (.getfield 36, 3) := by decide +kernel
theorem d_Row_wantsBareOperand_4 : decode b_Row_wantsBareOperand 4 = .ok (.ifCond .eq 15, 3) := by decide +kernel
theorem d_Row_wantsBareOperand_7 : decode b_Row_wantsBareOperand 7 = .ok (.aload_n 0, 1) := by decide +kernel
theorem d_Row_wantsBareOperand_8 : decode b_Row_wantsBareOperand 8 = .ok (.invokevirtual 44, 3) := by decide +kernel
theorem d_Row_wantsBareOperand_11 : decode b_Row_wantsBareOperand 11 = .ok (.iconst 2, 1) := by decide +kernel
theorem d_Row_wantsBareOperand_12 : decode b_Row_wantsBareOperand 12 = .ok (.if_icmp .ne 7, 3) := by decide +kernel
theorem d_Row_wantsBareOperand_15 : decode b_Row_wantsBareOperand 15 = .ok (.iconst 1, 1) := by decide +kernel
theorem d_Row_wantsBareOperand_16 : decode b_Row_wantsBareOperand 16 = .ok (.goto 4, 3) := by decide +kernel
theorem d_Row_wantsBareOperand_19 : decode b_Row_wantsBareOperand 19 = .ok (.iconst 0, 1) := by decide +kernel
theorem d_Row_wantsBareOperand_20 : decode b_Row_wantsBareOperand 20 = .ok (.ireturn, 1) := by decide +kernel
theorem hg_Row_wantsBareOperand : fx_mw fx_g "FixityTrees$Row" y_Row_wantsBareOperand b_Row_wantsBareOperand 1 (some .boolean) := ⟨fx_in 508 (by decide +kernel) (by decide +kernel), fx_inp 10 (by decide +kernel) (by decide +kernel), fx_in 4 (by decide +kernel) (by decide +kernel), fx_in 509 (by decide +kernel) (by decide +kernel)⟩
abbrev b_Row_kindIfNext : ByteArray := prog_5_method_14_code
abbrev y_Row_kindIfNext : MethodName := ⟨"FixityTrees$Row", "kindIfNext", "(I)I"⟩
theorem d_Row_kindIfNext_0 : decode b_Row_kindIfNext 0 = .ok (.aload_n 0, 1) := by decide +kernel
theorem d_Row_kindIfNext_1 : decode b_Row_kindIfNext 1 = .ok (.invokevirtual 48, 3) := by decide +kernel
theorem d_Row_kindIfNext_4 : decode b_Row_kindIfNext 4 = .ok (.ifCond .eq 5, 3) := by decide +kernel
theorem d_Row_kindIfNext_7 : decode b_Row_kindIfNext 7 = .ok (.iconst (-1), 1) := by decide +kernel
theorem d_Row_kindIfNext_8 : decode b_Row_kindIfNext 8 = .ok (.ireturn, 1) := by decide +kernel
theorem d_Row_kindIfNext_9 : decode b_Row_kindIfNext 9 = .ok (.aload_n 0, 1) := by decide +kernel
theorem d_Row_kindIfNext_10 : decode b_Row_kindIfNext 10 = .ok (.invokevirtual 52, 3) := by decide +kernel
theorem d_Row_kindIfNext_13 : decode b_Row_kindIfNext 13 = .ok (.ifCond .ne 5, 3) := by decide +kernel
theorem d_Row_kindIfNext_16 : decode b_Row_kindIfNext 16 = .ok (.iconst 1, 1) := by decide +kernel
theorem d_Row_kindIfNext_17 : decode b_Row_kindIfNext 17 = .ok (.ireturn, 1) := by decide +kernel
theorem d_Row_kindIfNext_18 : decode b_Row_kindIfNext 18 = .ok (.iload_n 1, 1) := by decide +kernel
theorem d_Row_kindIfNext_19 : decode b_Row_kindIfNext 19 = .ok (.ifCond .ne 16, 3) := by decide +kernel
theorem d_Row_kindIfNext_22 : decode b_Row_kindIfNext 22 = .ok (.aload_n 0, 1) := by decide +kernel
theorem d_Row_kindIfNext_23 : decode b_Row_kindIfNext 23 = .ok (.invokevirtual 55, 3) := by decide +kernel
theorem d_Row_kindIfNext_26 : decode b_Row_kindIfNext 26 = .ok (.ifCond .eq 7, 3) := by decide +kernel
theorem d_Row_kindIfNext_29 : decode b_Row_kindIfNext 29 = .ok (.iconst (-1), 1) := by decide +kernel
theorem d_Row_kindIfNext_30 : decode b_Row_kindIfNext 30 = .ok (.goto 4, 3) := by decide +kernel
theorem d_Row_kindIfNext_33 : decode b_Row_kindIfNext 33 = .ok (.iconst 2, 1) := by decide +kernel
theorem d_Row_kindIfNext_34 : decode b_Row_kindIfNext 34 = .ok (.ireturn, 1) := by decide +kernel
theorem d_Row_kindIfNext_35 : decode b_Row_kindIfNext 35 = .ok (.aload_n 0, 1) := by decide +kernel
theorem d_Row_kindIfNext_36 : decode b_Row_kindIfNext 36 = .ok (.invokevirtual 44, 3) := by decide +kernel
theorem d_Row_kindIfNext_39 : decode b_Row_kindIfNext 39 = .ok (.iconst 3, 1) := by decide +kernel
theorem d_Row_kindIfNext_40 : decode b_Row_kindIfNext 40 = .ok (.if_icmp .ne 14, 3) := by decide +kernel
theorem d_Row_kindIfNext_43 : decode b_Row_kindIfNext 43 = .ok (.aload_n 0, 1) := by decide +kernel
theorem d_Row_kindIfNext_44 : decode b_Row_kindIfNext 44 = .ok (.getfield 36, 3) := by decide +kernel
theorem d_Row_kindIfNext_47 : decode b_Row_kindIfNext 47 = .ok (.ifCond .ne 7, 3) := by decide +kernel
theorem d_Row_kindIfNext_50 : decode b_Row_kindIfNext 50 = .ok (.iconst 1, 1) := by decide +kernel
theorem d_Row_kindIfNext_51 : decode b_Row_kindIfNext 51 = .ok (.goto 4, 3) := by decide +kernel
theorem d_Row_kindIfNext_54 : decode b_Row_kindIfNext 54 = .ok (.iconst (-1), 1) := by decide +kernel
theorem d_Row_kindIfNext_55 : decode b_Row_kindIfNext 55 = .ok (.ireturn, 1) := by decide +kernel
theorem hg_Row_kindIfNext : fx_mw fx_g "FixityTrees$Row" y_Row_kindIfNext b_Row_kindIfNext 2 (some .int) := ⟨fx_in 503 (by decide +kernel) (by decide +kernel), fx_in 504 (by decide +kernel) (by decide +kernel), fx_in 4 (by decide +kernel) (by decide +kernel), fx_in 505 (by decide +kernel) (by decide +kernel)⟩
abbrev b_FixityTrees_operator : ByteArray := prog_1_method_7_code
abbrev y_FixityTrees_operator : MethodName := ⟨"FixityTrees", "operator", "(I)I"⟩
theorem d_FixityTrees_operator_0 : decode b_FixityTrees_operator 0 = .ok (.aload_n 0, 1) := by decide +kernel
theorem d_FixityTrees_operator_1 : decode b_FixityTrees_operator 1 = .ok (.iload_n 1, 1) := by decide +kernel
theorem d_FixityTrees_operator_2 : decode b_FixityTrees_operator 2 = .ok (.invokevirtual 87, 3) := by decide +kernel
theorem d_FixityTrees_operator_5 : decode b_FixityTrees_operator 5 = .ok (.aload_n 0, 1) := by decide +kernel
theorem d_FixityTrees_operator_6 : decode b_FixityTrees_operator 6 = .ok (.getfield 26, 3) := by decide +kernel
theorem d_FixityTrees_operator_9 : decode b_FixityTrees_operator 9 = .ok (.iload_n 1, 1) := by decide +kernel
theorem d_FixityTrees_operator_10 : decode b_FixityTrees_operator 10 = .ok (.invokevirtual 137, 3) := by decide +kernel
theorem d_FixityTrees_operator_13 : decode b_FixityTrees_operator 13 = .ok (.istore_n 2, 1) := by decide +kernel
theorem d_FixityTrees_operator_14 : decode b_FixityTrees_operator 14 = .ok (.iload_n 2, 1) := by decide +kernel
theorem d_FixityTrees_operator_15 : decode b_FixityTrees_operator 15 = .ok (.iconst (-1), 1) := by decide +kernel
theorem d_FixityTrees_operator_16 : decode b_FixityTrees_operator 16 = .ok (.if_icmp .ne 13, 3) := by decide +kernel
theorem d_FixityTrees_operator_19 : decode b_FixityTrees_operator 19 = .ok (.new 76, 3) := by decide +kernel
theorem d_FixityTrees_operator_22 : decode b_FixityTrees_operator 22 = .ok (.dup, 1) := by decide +kernel
theorem d_FixityTrees_operator_23 : decode b_FixityTrees_operator 23 = .ok (.ldc 140, 2) := by decide +kernel
theorem d_FixityTrees_operator_25 : decode b_FixityTrees_operator 25 = .ok (.invokespecial 80, 3) := by decide +kernel
theorem d_FixityTrees_operator_28 : decode b_FixityTrees_operator 28 = .ok (.athrow, 1) := by decide +kernel
theorem d_FixityTrees_operator_29 : decode b_FixityTrees_operator 29 = .ok (.aload_n 0, 1) := by decide +kernel
theorem d_FixityTrees_operator_30 : decode b_FixityTrees_operator 30 = .ok (.getfield 26, 3) := by decide +kernel
theorem d_FixityTrees_operator_33 : decode b_FixityTrees_operator 33 = .ok (.iload_n 2, 1) := by decide +kernel
theorem d_FixityTrees_operator_34 : decode b_FixityTrees_operator 34 = .ok (.iload_n 1, 1) := by decide +kernel
theorem d_FixityTrees_operator_35 : decode b_FixityTrees_operator 35 = .ok (.lconst 0, 1) := by decide +kernel
theorem d_FixityTrees_operator_36 : decode b_FixityTrees_operator 36 = .ok (.invokevirtual 130, 3) := by decide +kernel
theorem d_FixityTrees_operator_39 : decode b_FixityTrees_operator 39 = .ok (.aload_n 0, 1) := by decide +kernel
theorem d_FixityTrees_operator_40 : decode b_FixityTrees_operator 40 = .ok (.getfield 26, 3) := by decide +kernel
theorem d_FixityTrees_operator_43 : decode b_FixityTrees_operator 43 = .ok (.invokevirtual 133, 3) := by decide +kernel
theorem d_FixityTrees_operator_46 : decode b_FixityTrees_operator 46 = .ok (.ireturn, 1) := by decide +kernel
theorem hg_FixityTrees_operator : fx_mw fx_g "FixityTrees" y_FixityTrees_operator b_FixityTrees_operator 3 (some .int) := ⟨fx_in 499 (by decide +kernel) (by decide +kernel), fx_in 500 (by decide +kernel) (by decide +kernel), fx_in 1 (by decide +kernel) (by decide +kernel), fx_in 501 (by decide +kernel) (by decide +kernel)⟩
abbrev b_Row_takesOpen : ByteArray := prog_5_method_12_code
abbrev y_Row_takesOpen : MethodName := ⟨"FixityTrees$Row", "takesOpen", "()Z"⟩
theorem d_Row_takesOpen_0 : decode b_Row_takesOpen 0 = .ok (.aload_n 0, 1) := by decide +kernel
theorem d_Row_takesOpen_1 : decode b_Row_takesOpen 1 = .ok (.invokevirtual 48, 3) := by decide +kernel
theorem d_Row_takesOpen_4 : decode b_Row_takesOpen 4 = .ok (.ifCond .ne 30, 3) := by decide +kernel
theorem d_Row_takesOpen_7 : decode b_Row_takesOpen 7 = .ok (.aload_n 0, 1) := by decide +kernel
theorem d_Row_takesOpen_8 : decode b_Row_takesOpen 8 = .ok (.invokevirtual 52, 3) := by decide +kernel
theorem d_Row_takesOpen_11 : decode b_Row_takesOpen 11 = .ok (.ifCond .eq 23, 3) := by decide +kernel
theorem d_Row_takesOpen_14 : decode b_Row_takesOpen 14 = .ok (.aload_n 0, 1) := by decide +kernel
theorem d_Row_takesOpen_15 : decode b_Row_takesOpen 15 = .ok (.getfield 33, 3) := by decide +kernel
theorem d_Row_takesOpen_18 : decode b_Row_takesOpen 18 = .ok (.bipush 40, 2) := by decide +kernel
theorem d_Row_takesOpen_20 : decode b_Row_takesOpen 20 = .ok (.if_icmp .ge 14, 3) := by decide +kernel
theorem d_Row_takesOpen_23 : decode b_Row_takesOpen 23 = .ok (.aload_n 0, 1) := by decide +kernel
theorem d_Row_takesOpen_24 : decode b_Row_takesOpen 24 = .ok (.invokevirtual 55, 3) := by decide +kernel
theorem d_Row_takesOpen_27 : decode b_Row_takesOpen 27 = .ok (.ifCond .ne 7, 3) := by decide +kernel
theorem d_Row_takesOpen_30 : decode b_Row_takesOpen 30 = .ok (.iconst 1, 1) := by decide +kernel
theorem d_Row_takesOpen_31 : decode b_Row_takesOpen 31 = .ok (.goto 4, 3) := by decide +kernel
theorem d_Row_takesOpen_34 : decode b_Row_takesOpen 34 = .ok (.iconst 0, 1) := by decide +kernel
theorem d_Row_takesOpen_35 : decode b_Row_takesOpen 35 = .ok (.ireturn, 1) := by decide +kernel
theorem hg_Row_takesOpen : fx_mw fx_g "FixityTrees$Row" y_Row_takesOpen b_Row_takesOpen 1 (some .boolean) := ⟨fx_in 519 (by decide +kernel) (by decide +kernel), fx_in 520 (by decide +kernel) (by decide +kernel), fx_in 4 (by decide +kernel) (by decide +kernel), fx_in 521 (by decide +kernel) (by decide +kernel)⟩
abbrev b_FixityTrees_open : ByteArray := prog_1_method_8_code
abbrev y_FixityTrees_open : MethodName := ⟨"FixityTrees", "open", "()I"⟩
theorem d_FixityTrees_open_0 : decode b_FixityTrees_open 0 = .ok (.aload_n 0, 1) := by decide +kernel
theorem d_FixityTrees_open_1 : decode b_FixityTrees_open 1 = .ok (.getfield 26, 3) := by decide +kernel
theorem d_FixityTrees_open_4 : decode b_FixityTrees_open 4 = .ok (.invokevirtual 142, 3) := by decide +kernel
theorem d_FixityTrees_open_7 : decode b_FixityTrees_open 7 = .ok (.ifCond .ne 13, 3) := by decide +kernel
theorem d_FixityTrees_open_10 : decode b_FixityTrees_open 10 = .ok (.new 76, 3) := by decide +kernel
theorem d_FixityTrees_open_13 : decode b_FixityTrees_open 13 = .ok (.dup, 1) := by decide +kernel
theorem d_FixityTrees_open_14 : decode b_FixityTrees_open 14 = .ok (.ldc 145, 2) := by decide +kernel
theorem d_FixityTrees_open_16 : decode b_FixityTrees_open 16 = .ok (.invokespecial 80, 3) := by decide +kernel
theorem d_FixityTrees_open_19 : decode b_FixityTrees_open 19 = .ok (.athrow, 1) := by decide +kernel
theorem d_FixityTrees_open_20 : decode b_FixityTrees_open 20 = .ok (.aload_n 0, 1) := by decide +kernel
theorem d_FixityTrees_open_21 : decode b_FixityTrees_open 21 = .ok (.getfield 26, 3) := by decide +kernel
theorem d_FixityTrees_open_24 : decode b_FixityTrees_open 24 = .ok (.iconst 3, 1) := by decide +kernel
theorem d_FixityTrees_open_25 : decode b_FixityTrees_open 25 = .ok (.iconst (-1), 1) := by decide +kernel
theorem d_FixityTrees_open_26 : decode b_FixityTrees_open 26 = .ok (.lconst 0, 1) := by decide +kernel
theorem d_FixityTrees_open_27 : decode b_FixityTrees_open 27 = .ok (.invokevirtual 130, 3) := by decide +kernel
theorem d_FixityTrees_open_30 : decode b_FixityTrees_open 30 = .ok (.aload_n 0, 1) := by decide +kernel
theorem d_FixityTrees_open_31 : decode b_FixityTrees_open 31 = .ok (.getfield 26, 3) := by decide +kernel
theorem d_FixityTrees_open_34 : decode b_FixityTrees_open 34 = .ok (.invokevirtual 133, 3) := by decide +kernel
theorem d_FixityTrees_open_37 : decode b_FixityTrees_open 37 = .ok (.ireturn, 1) := by decide +kernel
theorem hg_FixityTrees_open : fx_mw fx_g "FixityTrees" y_FixityTrees_open b_FixityTrees_open 1 (some .int) := ⟨fx_in 515 (by decide +kernel) (by decide +kernel), fx_in 516 (by decide +kernel) (by decide +kernel), fx_in 1 (by decide +kernel) (by decide +kernel), fx_in 517 (by decide +kernel) (by decide +kernel)⟩
abbrev b_Row_mayEndLeftSection : ByteArray := prog_5_method_20_code
abbrev y_Row_mayEndLeftSection : MethodName := ⟨"FixityTrees$Row", "mayEndLeftSection", "()Z"⟩
theorem d_Row_mayEndLeftSection_0 : decode b_Row_mayEndLeftSection 0 = .ok (.aload_n 0, 1) := by decide +kernel
theorem d_Row_mayEndLeftSection_1 : decode b_Row_mayEndLeftSection 1 = .ok (.getfield 36, 3) := by decide +kernel
theorem d_Row_mayEndLeftSection_4 : decode b_Row_mayEndLeftSection 4 = .ok (.ifCond .ne 36, 3) := by decide +kernel
theorem d_Row_mayEndLeftSection_7 : decode b_Row_mayEndLeftSection 7 = .ok (.aload_n 0, 1) := by decide +kernel
theorem d_Row_mayEndLeftSection_8 : decode b_Row_mayEndLeftSection 8 = .ok (.invokevirtual 44, 3) := by decide +kernel
theorem d_Row_mayEndLeftSection_11 : decode b_Row_mayEndLeftSection 11 = .ok (.iconst 1, 1) := by decide +kernel
theorem d_Row_mayEndLeftSection_12 : decode b_Row_mayEndLeftSection 12 = .ok (.if_icmp .ne 28, 3) := by decide +kernel
theorem d_Row_mayEndLeftSection_15 : decode b_Row_mayEndLeftSection 15 = .ok (.aload_n 0, 1) := by decide +kernel
theorem d_Row_mayEndLeftSection_16 : decode b_Row_mayEndLeftSection 16 = .ok (.getfield 33, 3) := by decide +kernel
theorem d_Row_mayEndLeftSection_19 : decode b_Row_mayEndLeftSection 19 = .ok (.ifCond .le 21, 3) := by decide +kernel
theorem d_Row_mayEndLeftSection_22 : decode b_Row_mayEndLeftSection 22 = .ok (.aload_n 0, 1) := by decide +kernel
theorem d_Row_mayEndLeftSection_23 : decode b_Row_mayEndLeftSection 23 = .ok (.getfield 25, 3) := by decide +kernel
theorem d_Row_mayEndLeftSection_26 : decode b_Row_mayEndLeftSection 26 = .ok (.aload_n 0, 1) := by decide +kernel
theorem d_Row_mayEndLeftSection_27 : decode b_Row_mayEndLeftSection 27 = .ok (.getfield 33, 3) := by decide +kernel
theorem d_Row_mayEndLeftSection_30 : decode b_Row_mayEndLeftSection 30 = .ok (.iconst 1, 1) := by decide +kernel
theorem d_Row_mayEndLeftSection_31 : decode b_Row_mayEndLeftSection 31 = .ok (.isub, 1) := by decide +kernel
theorem d_Row_mayEndLeftSection_32 : decode b_Row_mayEndLeftSection 32 = .ok (.baload, 1) := by decide +kernel
theorem d_Row_mayEndLeftSection_33 : decode b_Row_mayEndLeftSection 33 = .ok (.ifCond .ne 7, 3) := by decide +kernel
theorem d_Row_mayEndLeftSection_36 : decode b_Row_mayEndLeftSection 36 = .ok (.iconst 1, 1) := by decide +kernel
theorem d_Row_mayEndLeftSection_37 : decode b_Row_mayEndLeftSection 37 = .ok (.goto 4, 3) := by decide +kernel
theorem d_Row_mayEndLeftSection_40 : decode b_Row_mayEndLeftSection 40 = .ok (.iconst 0, 1) := by decide +kernel
theorem d_Row_mayEndLeftSection_41 : decode b_Row_mayEndLeftSection 41 = .ok (.ireturn, 1) := by decide +kernel
theorem hg_Row_mayEndLeftSection : fx_mw fx_g "FixityTrees$Row" y_Row_mayEndLeftSection b_Row_mayEndLeftSection 1 (some .boolean) := ⟨fx_in 536 (by decide +kernel) (by decide +kernel), fx_inp 11 (by decide +kernel) (by decide +kernel), fx_in 4 (by decide +kernel) (by decide +kernel), fx_in 537 (by decide +kernel) (by decide +kernel)⟩
abbrev b_Row_takesClose : ByteArray := prog_5_method_13_code
abbrev y_Row_takesClose : MethodName := ⟨"FixityTrees$Row", "takesClose", "()Z"⟩
theorem d_Row_takesClose_0 : decode b_Row_takesClose 0 = .ok (.aload_n 0, 1) := by decide +kernel
theorem d_Row_takesClose_1 : decode b_Row_takesClose 1 = .ok (.invokevirtual 48, 3) := by decide +kernel
theorem d_Row_takesClose_4 : decode b_Row_takesClose 4 = .ok (.ifCond .ne 28, 3) := by decide +kernel
theorem d_Row_takesClose_7 : decode b_Row_takesClose 7 = .ok (.aload_n 0, 1) := by decide +kernel
theorem d_Row_takesClose_8 : decode b_Row_takesClose 8 = .ok (.getfield 33, 3) := by decide +kernel
theorem d_Row_takesClose_11 : decode b_Row_takesClose 11 = .ok (.ifCond .le 21, 3) := by decide +kernel
theorem d_Row_takesClose_14 : decode b_Row_takesClose 14 = .ok (.aload_n 0, 1) := by decide +kernel
theorem d_Row_takesClose_15 : decode b_Row_takesClose 15 = .ok (.invokevirtual 52, 3) := by decide +kernel
theorem d_Row_takesClose_18 : decode b_Row_takesClose 18 = .ok (.ifCond .eq 10, 3) := by decide +kernel
theorem d_Row_takesClose_21 : decode b_Row_takesClose 21 = .ok (.aload_n 0, 1) := by decide +kernel
theorem d_Row_takesClose_22 : decode b_Row_takesClose 22 = .ok (.invokevirtual 58, 3) := by decide +kernel
theorem d_Row_takesClose_25 : decode b_Row_takesClose 25 = .ok (.ifCond .eq 7, 3) := by decide +kernel
theorem d_Row_takesClose_28 : decode b_Row_takesClose 28 = .ok (.iconst 1, 1) := by decide +kernel
theorem d_Row_takesClose_29 : decode b_Row_takesClose 29 = .ok (.goto 4, 3) := by decide +kernel
theorem d_Row_takesClose_32 : decode b_Row_takesClose 32 = .ok (.iconst 0, 1) := by decide +kernel
theorem d_Row_takesClose_33 : decode b_Row_takesClose 33 = .ok (.ireturn, 1) := by decide +kernel
theorem hg_Row_takesClose : fx_mw fx_g "FixityTrees$Row" y_Row_takesClose b_Row_takesClose 1 (some .boolean) := ⟨fx_in 531 (by decide +kernel) (by decide +kernel), fx_in 532 (by decide +kernel) (by decide +kernel), fx_in 4 (by decide +kernel) (by decide +kernel), fx_in 533 (by decide +kernel) (by decide +kernel)⟩
abbrev b_FixityTrees_close : ByteArray := prog_1_method_9_code
abbrev y_FixityTrees_close : MethodName := ⟨"FixityTrees", "close", "()I"⟩
theorem d_FixityTrees_close_0 : decode b_FixityTrees_close 0 = .ok (.aload_n 0, 1) := by decide +kernel
theorem d_FixityTrees_close_1 : decode b_FixityTrees_close 1 = .ok (.getfield 26, 3) := by decide +kernel
theorem d_FixityTrees_close_4 : decode b_FixityTrees_close 4 = .ok (.invokevirtual 147, 3) := by decide +kernel
theorem d_FixityTrees_close_7 : decode b_FixityTrees_close 7 = .ok (.ifCond .ne 13, 3) := by decide +kernel
theorem d_FixityTrees_close_10 : decode b_FixityTrees_close 10 = .ok (.new 76, 3) := by decide +kernel
theorem d_FixityTrees_close_13 : decode b_FixityTrees_close 13 = .ok (.dup, 1) := by decide +kernel
theorem d_FixityTrees_close_14 : decode b_FixityTrees_close 14 = .ok (.ldc 150, 2) := by decide +kernel
theorem d_FixityTrees_close_16 : decode b_FixityTrees_close 16 = .ok (.invokespecial 80, 3) := by decide +kernel
theorem d_FixityTrees_close_19 : decode b_FixityTrees_close 19 = .ok (.athrow, 1) := by decide +kernel
theorem d_FixityTrees_close_20 : decode b_FixityTrees_close 20 = .ok (.aload_n 0, 1) := by decide +kernel
theorem d_FixityTrees_close_21 : decode b_FixityTrees_close 21 = .ok (.getfield 26, 3) := by decide +kernel
theorem d_FixityTrees_close_24 : decode b_FixityTrees_close 24 = .ok (.iconst 4, 1) := by decide +kernel
theorem d_FixityTrees_close_25 : decode b_FixityTrees_close 25 = .ok (.iconst (-1), 1) := by decide +kernel
theorem d_FixityTrees_close_26 : decode b_FixityTrees_close 26 = .ok (.lconst 0, 1) := by decide +kernel
theorem d_FixityTrees_close_27 : decode b_FixityTrees_close 27 = .ok (.invokevirtual 130, 3) := by decide +kernel
theorem d_FixityTrees_close_30 : decode b_FixityTrees_close 30 = .ok (.aload_n 0, 1) := by decide +kernel
theorem d_FixityTrees_close_31 : decode b_FixityTrees_close 31 = .ok (.getfield 26, 3) := by decide +kernel
theorem d_FixityTrees_close_34 : decode b_FixityTrees_close 34 = .ok (.invokevirtual 133, 3) := by decide +kernel
theorem d_FixityTrees_close_37 : decode b_FixityTrees_close 37 = .ok (.ireturn, 1) := by decide +kernel
theorem hg_FixityTrees_close : fx_mw fx_g "FixityTrees" y_FixityTrees_close b_FixityTrees_close 1 (some .int) := ⟨fx_in 527 (by decide +kernel) (by decide +kernel), fx_in 528 (by decide +kernel) (by decide +kernel), fx_in 1 (by decide +kernel) (by decide +kernel), fx_in 529 (by decide +kernel) (by decide +kernel)⟩
abbrev b_Row_openSize : ByteArray := prog_5_method_4_code
abbrev y_Row_openSize : MethodName := ⟨"FixityTrees$Row", "openSize", "()I"⟩
theorem d_Row_openSize_0 : decode b_Row_openSize 0 = .ok (.aload_n 0, 1) := by decide +kernel
theorem d_Row_openSize_1 : decode b_Row_openSize 1 = .ok (.getfield 33, 3) := by decide +kernel
theorem d_Row_openSize_4 : decode b_Row_openSize 4 = .ok (.ireturn, 1) := by decide +kernel
theorem hg_Row_openSize : fx_mw fx_g "FixityTrees$Row" y_Row_openSize b_Row_openSize 1 (some .int) := ⟨fx_in 552 (by decide +kernel) (by decide +kernel), fx_in 553 (by decide +kernel) (by decide +kernel), fx_in 4 (by decide +kernel) (by decide +kernel), fx_in 554 (by decide +kernel) (by decide +kernel)⟩
abbrev b_FixityTrees_requireWholeRow : ByteArray := prog_1_method_21_code
abbrev y_FixityTrees_requireWholeRow : MethodName := ⟨"FixityTrees", "requireWholeRow", "()V"⟩
theorem d_FixityTrees_requireWholeRow_0 : decode b_FixityTrees_requireWholeRow 0 = .ok (.aload_n 0, 1) := by decide +kernel
theorem d_FixityTrees_requireWholeRow_1 : decode b_FixityTrees_requireWholeRow 1 = .ok (.getfield 26, 3) := by decide +kernel
theorem d_FixityTrees_requireWholeRow_4 : decode b_FixityTrees_requireWholeRow 4 = .ok (.invokevirtual 242, 3) := by decide +kernel
theorem d_FixityTrees_requireWholeRow_7 : decode b_FixityTrees_requireWholeRow 7 = .ok (.ifCond .ne 13, 3) := by decide +kernel
theorem d_FixityTrees_requireWholeRow_10 : decode b_FixityTrees_requireWholeRow 10 = .ok (.aload_n 0, 1) := by decide +kernel
theorem d_FixityTrees_requireWholeRow_11 : decode b_FixityTrees_requireWholeRow 11 = .ok (.getfield 26, 3) := by decide +kernel
theorem d_FixityTrees_requireWholeRow_14 : decode b_FixityTrees_requireWholeRow 14 = .ok (.invokevirtual 239, 3) := by decide +kernel
theorem d_FixityTrees_requireWholeRow_17 : decode b_FixityTrees_requireWholeRow 17 = .ok (.ifCond .le 14, 3) := by decide +kernel
theorem d_FixityTrees_requireWholeRow_20 : decode b_FixityTrees_requireWholeRow 20 = .ok (.new 76, 3) := by decide +kernel
theorem d_FixityTrees_requireWholeRow_23 : decode b_FixityTrees_requireWholeRow 23 = .ok (.dup, 1) := by decide +kernel
theorem d_FixityTrees_requireWholeRow_24 : decode b_FixityTrees_requireWholeRow 24 = .ok (.ldc_w 259, 3) := by decide +kernel
theorem d_FixityTrees_requireWholeRow_27 : decode b_FixityTrees_requireWholeRow 27 = .ok (.invokespecial 80, 3) := by decide +kernel
theorem d_FixityTrees_requireWholeRow_30 : decode b_FixityTrees_requireWholeRow 30 = .ok (.athrow, 1) := by decide +kernel
theorem d_FixityTrees_requireWholeRow_31 : decode b_FixityTrees_requireWholeRow 31 = .ok (.return_, 1) := by decide +kernel
theorem hg_FixityTrees_requireWholeRow : fx_mw fx_g "FixityTrees" y_FixityTrees_requireWholeRow b_FixityTrees_requireWholeRow 1 none := ⟨fx_in 548 (by decide +kernel) (by decide +kernel), fx_inp 12 (by decide +kernel) (by decide +kernel), fx_in 1 (by decide +kernel) (by decide +kernel), fx_in 549 (by decide +kernel) (by decide +kernel)⟩
abbrev b_Fixities_look : ByteArray := prog_2_method_2_code
abbrev y_Fixities_look : MethodName := ⟨"FixityTrees$Fixities", "look", "(LFixityTrees$Scopes;I)V"⟩
theorem d_Fixities_look_0 : decode b_Fixities_look 0 = .ok (.iconst 0, 1) := by decide +kernel
theorem d_Fixities_look_1 : decode b_Fixities_look 1 = .ok (.istore_n 3, 1) := by decide +kernel
theorem d_Fixities_look_2 : decode b_Fixities_look 2 = .ok (.iload_n 3, 1) := by decide +kernel
theorem d_Fixities_look_3 : decode b_Fixities_look 3 = .ok (.bipush 41, 2) := by decide +kernel
theorem d_Fixities_look_5 : decode b_Fixities_look 5 = .ok (.if_icmp .ge 33, 3) := by decide +kernel
theorem d_Fixities_look_8 : decode b_Fixities_look 8 = .ok (.aload_n 0, 1) := by decide +kernel
theorem d_Fixities_look_9 : decode b_Fixities_look 9 = .ok (.getfield 9, 3) := by decide +kernel
theorem d_Fixities_look_12 : decode b_Fixities_look 12 = .ok (.iload_n 3, 1) := by decide +kernel
theorem d_Fixities_look_13 : decode b_Fixities_look 13 = .ok (.aload_n 1, 1) := by decide +kernel
theorem d_Fixities_look_14 : decode b_Fixities_look 14 = .ok (.iload_n 2, 1) := by decide +kernel
theorem d_Fixities_look_15 : decode b_Fixities_look 15 = .ok (.iload_n 3, 1) := by decide +kernel
theorem d_Fixities_look_16 : decode b_Fixities_look 16 = .ok (.invokevirtual 18, 3) := by decide +kernel
theorem d_Fixities_look_19 : decode b_Fixities_look 19 = .ok (.iastore, 1) := by decide +kernel
theorem d_Fixities_look_20 : decode b_Fixities_look 20 = .ok (.aload_n 0, 1) := by decide +kernel
theorem d_Fixities_look_21 : decode b_Fixities_look 21 = .ok (.getfield 15, 3) := by decide +kernel
theorem d_Fixities_look_24 : decode b_Fixities_look 24 = .ok (.iload_n 3, 1) := by decide +kernel
theorem d_Fixities_look_25 : decode b_Fixities_look 25 = .ok (.aload_n 1, 1) := by decide +kernel
theorem d_Fixities_look_26 : decode b_Fixities_look 26 = .ok (.iload_n 2, 1) := by decide +kernel
theorem d_Fixities_look_27 : decode b_Fixities_look 27 = .ok (.iload_n 3, 1) := by decide +kernel
theorem d_Fixities_look_28 : decode b_Fixities_look 28 = .ok (.invokevirtual 24, 3) := by decide +kernel
theorem d_Fixities_look_31 : decode b_Fixities_look 31 = .ok (.iastore, 1) := by decide +kernel
theorem d_Fixities_look_32 : decode b_Fixities_look 32 = .ok (.iinc 3 1, 3) := by decide +kernel
theorem d_Fixities_look_35 : decode b_Fixities_look 35 = .ok (.goto (-33), 3) := by decide +kernel
theorem d_Fixities_look_38 : decode b_Fixities_look 38 = .ok (.return_, 1) := by decide +kernel
theorem hg_Fixities_look : fx_mw fx_g "FixityTrees$Fixities" y_Fixities_look b_Fixities_look 4 none := ⟨fx_in 557 (by decide +kernel) (by decide +kernel), fx_in 558 (by decide +kernel) (by decide +kernel), fx_in 3 (by decide +kernel) (by decide +kernel), fx_in 559 (by decide +kernel) (by decide +kernel)⟩
abbrev b_IntStack_clear : ByteArray := prog_3_method_2_code
abbrev y_IntStack_clear : MethodName := ⟨"FixityTrees$IntStack", "clear", "()V"⟩
theorem d_IntStack_clear_0 : decode b_IntStack_clear 0 = .ok (.aload_n 0, 1) := by decide +kernel
theorem d_IntStack_clear_1 : decode b_IntStack_clear 1 = .ok (.iconst 0, 1) := by decide +kernel
theorem d_IntStack_clear_2 : decode b_IntStack_clear 2 = .ok (.putfield 15, 3) := by decide +kernel
theorem d_IntStack_clear_5 : decode b_IntStack_clear 5 = .ok (.return_, 1) := by decide +kernel
theorem hg_IntStack_clear : fx_mw fx_g "FixityTrees$IntStack" y_IntStack_clear b_IntStack_clear 1 none := ⟨fx_in 571 (by decide +kernel) (by decide +kernel), fx_in 572 (by decide +kernel) (by decide +kernel), fx_in 6 (by decide +kernel) (by decide +kernel), fx_in 573 (by decide +kernel) (by decide +kernel)⟩
abbrev b_IntStack_push : ByteArray := prog_3_method_4_code
abbrev y_IntStack_push : MethodName := ⟨"FixityTrees$IntStack", "push", "(I)V"⟩
theorem d_IntStack_push_0 : decode b_IntStack_push 0 = .ok (.aload_n 0, 1) := by decide +kernel
theorem d_IntStack_push_1 : decode b_IntStack_push 1 = .ok (.getfield 15, 3) := by decide +kernel
theorem d_IntStack_push_4 : decode b_IntStack_push 4 = .ok (.sipush 200, 3) := by decide +kernel
theorem d_IntStack_push_7 : decode b_IntStack_push 7 = .ok (.if_icmp .ge 23, 3) := by decide +kernel
theorem d_IntStack_push_10 : decode b_IntStack_push 10 = .ok (.aload_n 0, 1) := by decide +kernel
theorem d_IntStack_push_11 : decode b_IntStack_push 11 = .ok (.getfield 9, 3) := by decide +kernel
theorem d_IntStack_push_14 : decode b_IntStack_push 14 = .ok (.aload_n 0, 1) := by decide +kernel
theorem d_IntStack_push_15 : decode b_IntStack_push 15 = .ok (.getfield 15, 3) := by decide +kernel
theorem d_IntStack_push_18 : decode b_IntStack_push 18 = .ok (.iload_n 1, 1) := by decide +kernel
theorem d_IntStack_push_19 : decode b_IntStack_push 19 = .ok (.iastore, 1) := by decide +kernel
theorem d_IntStack_push_20 : decode b_IntStack_push 20 = .ok (.aload_n 0, 1) := by decide +kernel
theorem d_IntStack_push_21 : decode b_IntStack_push 21 = .ok (.dup, 1) := by decide +kernel
theorem d_IntStack_push_22 : decode b_IntStack_push 22 = .ok (.getfield 15, 3) := by decide +kernel
theorem d_IntStack_push_25 : decode b_IntStack_push 25 = .ok (.iconst 1, 1) := by decide +kernel
theorem d_IntStack_push_26 : decode b_IntStack_push 26 = .ok (.iadd, 1) := by decide +kernel
theorem d_IntStack_push_27 : decode b_IntStack_push 27 = .ok (.putfield 15, 3) := by decide +kernel
theorem d_IntStack_push_30 : decode b_IntStack_push 30 = .ok (.return_, 1) := by decide +kernel
theorem hg_IntStack_push : fx_mw fx_g "FixityTrees$IntStack" y_IntStack_push b_IntStack_push 2 none := ⟨fx_in 575 (by decide +kernel) (by decide +kernel), fx_in 576 (by decide +kernel) (by decide +kernel), fx_in 6 (by decide +kernel) (by decide +kernel), fx_in 577 (by decide +kernel) (by decide +kernel)⟩
abbrev b_Resolver_clear : ByteArray := prog_4_method_8_code
abbrev y_Resolver_clear : MethodName := ⟨"FixityTrees$Resolver", "clear", "()V"⟩
theorem d_Resolver_clear_0 : decode b_Resolver_clear 0 = .ok (.aload_n 0, 1) := by decide +kernel
theorem d_Resolver_clear_1 : decode b_Resolver_clear 1 = .ok (.getfield 12, 3) := by decide +kernel
theorem d_Resolver_clear_4 : decode b_Resolver_clear 4 = .ok (.invokevirtual 106, 3) := by decide +kernel
theorem d_Resolver_clear_7 : decode b_Resolver_clear 7 = .ok (.aload_n 0, 1) := by decide +kernel
theorem d_Resolver_clear_8 : decode b_Resolver_clear 8 = .ok (.getfield 18, 3) := by decide +kernel
theorem d_Resolver_clear_11 : decode b_Resolver_clear 11 = .ok (.invokevirtual 106, 3) := by decide +kernel
theorem d_Resolver_clear_14 : decode b_Resolver_clear 14 = .ok (.aload_n 0, 1) := by decide +kernel
theorem d_Resolver_clear_15 : decode b_Resolver_clear 15 = .ok (.getfield 18, 3) := by decide +kernel
theorem d_Resolver_clear_18 : decode b_Resolver_clear 18 = .ok (.iconst 0, 1) := by decide +kernel
theorem d_Resolver_clear_19 : decode b_Resolver_clear 19 = .ok (.invokevirtual 85, 3) := by decide +kernel
theorem d_Resolver_clear_22 : decode b_Resolver_clear 22 = .ok (.aload_n 0, 1) := by decide +kernel
theorem d_Resolver_clear_23 : decode b_Resolver_clear 23 = .ok (.getfield 21, 3) := by decide +kernel
theorem d_Resolver_clear_26 : decode b_Resolver_clear 26 = .ok (.invokevirtual 106, 3) := by decide +kernel
theorem d_Resolver_clear_29 : decode b_Resolver_clear 29 = .ok (.aload_n 0, 1) := by decide +kernel
theorem d_Resolver_clear_30 : decode b_Resolver_clear 30 = .ok (.iconst 0, 1) := by decide +kernel
theorem d_Resolver_clear_31 : decode b_Resolver_clear 31 = .ok (.putfield 48, 3) := by decide +kernel
theorem d_Resolver_clear_34 : decode b_Resolver_clear 34 = .ok (.aload_n 0, 1) := by decide +kernel
theorem d_Resolver_clear_35 : decode b_Resolver_clear 35 = .ok (.iconst (-1), 1) := by decide +kernel
theorem d_Resolver_clear_36 : decode b_Resolver_clear 36 = .ok (.putfield 52, 3) := by decide +kernel
theorem d_Resolver_clear_39 : decode b_Resolver_clear 39 = .ok (.aload_n 0, 1) := by decide +kernel
theorem d_Resolver_clear_40 : decode b_Resolver_clear 40 = .ok (.iconst (-1), 1) := by decide +kernel
theorem d_Resolver_clear_41 : decode b_Resolver_clear 41 = .ok (.putfield 55, 3) := by decide +kernel
theorem d_Resolver_clear_44 : decode b_Resolver_clear 44 = .ok (.aload_n 0, 1) := by decide +kernel
theorem d_Resolver_clear_45 : decode b_Resolver_clear 45 = .ok (.iconst (-1), 1) := by decide +kernel
theorem d_Resolver_clear_46 : decode b_Resolver_clear 46 = .ok (.putfield 58, 3) := by decide +kernel
theorem d_Resolver_clear_49 : decode b_Resolver_clear 49 = .ok (.return_, 1) := by decide +kernel
theorem hg_Resolver_clear : fx_mw fx_g "FixityTrees$Resolver" y_Resolver_clear b_Resolver_clear 1 none := ⟨fx_in 568 (by decide +kernel) (by decide +kernel), fx_inp 13 (by decide +kernel) (by decide +kernel), fx_in 5 (by decide +kernel) (by decide +kernel), fx_in 569 (by decide +kernel) (by decide +kernel)⟩
abbrev b_IntStack_pop : ByteArray := prog_3_method_6_code
abbrev y_IntStack_pop : MethodName := ⟨"FixityTrees$IntStack", "pop", "()I"⟩
theorem d_IntStack_pop_0 : decode b_IntStack_pop 0 = .ok (.aload_n 0, 1) := by decide +kernel
theorem d_IntStack_pop_1 : decode b_IntStack_pop 1 = .ok (.getfield 15, 3) := by decide +kernel
theorem d_IntStack_pop_4 : decode b_IntStack_pop 4 = .ok (.ifCond .gt 5, 3) := by decide +kernel
theorem d_IntStack_pop_7 : decode b_IntStack_pop 7 = .ok (.iconst (-1), 1) := by decide +kernel
theorem d_IntStack_pop_8 : decode b_IntStack_pop 8 = .ok (.ireturn, 1) := by decide +kernel
theorem d_IntStack_pop_9 : decode b_IntStack_pop 9 = .ok (.aload_n 0, 1) := by decide +kernel
theorem d_IntStack_pop_10 : decode b_IntStack_pop 10 = .ok (.dup, 1) := by decide +kernel
theorem d_IntStack_pop_11 : decode b_IntStack_pop 11 = .ok (.getfield 15, 3) := by decide +kernel
theorem d_IntStack_pop_14 : decode b_IntStack_pop 14 = .ok (.iconst 1, 1) := by decide +kernel
theorem d_IntStack_pop_15 : decode b_IntStack_pop 15 = .ok (.isub, 1) := by decide +kernel
theorem d_IntStack_pop_16 : decode b_IntStack_pop 16 = .ok (.putfield 15, 3) := by decide +kernel
theorem d_IntStack_pop_19 : decode b_IntStack_pop 19 = .ok (.aload_n 0, 1) := by decide +kernel
theorem d_IntStack_pop_20 : decode b_IntStack_pop 20 = .ok (.getfield 9, 3) := by decide +kernel
theorem d_IntStack_pop_23 : decode b_IntStack_pop 23 = .ok (.aload_n 0, 1) := by decide +kernel
theorem d_IntStack_pop_24 : decode b_IntStack_pop 24 = .ok (.getfield 15, 3) := by decide +kernel
theorem d_IntStack_pop_27 : decode b_IntStack_pop 27 = .ok (.iaload, 1) := by decide +kernel
theorem d_IntStack_pop_28 : decode b_IntStack_pop 28 = .ok (.ireturn, 1) := by decide +kernel
theorem hg_IntStack_pop : fx_mw fx_g "FixityTrees$IntStack" y_IntStack_pop b_IntStack_pop 1 (some .int) := ⟨fx_in 592 (by decide +kernel) (by decide +kernel), fx_in 593 (by decide +kernel) (by decide +kernel), fx_in 6 (by decide +kernel) (by decide +kernel), fx_in 594 (by decide +kernel) (by decide +kernel)⟩
abbrev b_IntStack_size : ByteArray := prog_3_method_3_code
abbrev y_IntStack_size : MethodName := ⟨"FixityTrees$IntStack", "size", "()I"⟩
theorem d_IntStack_size_0 : decode b_IntStack_size 0 = .ok (.aload_n 0, 1) := by decide +kernel
theorem d_IntStack_size_1 : decode b_IntStack_size 1 = .ok (.getfield 15, 3) := by decide +kernel
theorem d_IntStack_size_4 : decode b_IntStack_size 4 = .ok (.ireturn, 1) := by decide +kernel
theorem hg_IntStack_size : fx_mw fx_g "FixityTrees$IntStack" y_IntStack_size b_IntStack_size 1 (some .int) := ⟨fx_in 615 (by decide +kernel) (by decide +kernel), fx_in 616 (by decide +kernel) (by decide +kernel), fx_in 6 (by decide +kernel) (by decide +kernel), fx_in 617 (by decide +kernel) (by decide +kernel)⟩
abbrev b_IntStack_top : ByteArray := prog_3_method_5_code
abbrev y_IntStack_top : MethodName := ⟨"FixityTrees$IntStack", "top", "()I"⟩
theorem d_IntStack_top_0 : decode b_IntStack_top 0 = .ok (.aload_n 0, 1) := by decide +kernel
theorem d_IntStack_top_1 : decode b_IntStack_top 1 = .ok (.getfield 15, 3) := by decide +kernel
theorem d_IntStack_top_4 : decode b_IntStack_top 4 = .ok (.ifCond .le 17, 3) := by decide +kernel
theorem d_IntStack_top_7 : decode b_IntStack_top 7 = .ok (.aload_n 0, 1) := by decide +kernel
theorem d_IntStack_top_8 : decode b_IntStack_top 8 = .ok (.getfield 9, 3) := by decide +kernel
theorem d_IntStack_top_11 : decode b_IntStack_top 11 = .ok (.aload_n 0, 1) := by decide +kernel
theorem d_IntStack_top_12 : decode b_IntStack_top 12 = .ok (.getfield 15, 3) := by decide +kernel
theorem d_IntStack_top_15 : decode b_IntStack_top 15 = .ok (.iconst 1, 1) := by decide +kernel
theorem d_IntStack_top_16 : decode b_IntStack_top 16 = .ok (.isub, 1) := by decide +kernel
theorem d_IntStack_top_17 : decode b_IntStack_top 17 = .ok (.iaload, 1) := by decide +kernel
theorem d_IntStack_top_18 : decode b_IntStack_top 18 = .ok (.goto 4, 3) := by decide +kernel
theorem d_IntStack_top_21 : decode b_IntStack_top 21 = .ok (.iconst (-1), 1) := by decide +kernel
theorem d_IntStack_top_22 : decode b_IntStack_top 22 = .ok (.ireturn, 1) := by decide +kernel
theorem hg_IntStack_top : fx_mw fx_g "FixityTrees$IntStack" y_IntStack_top b_IntStack_top 1 (some .int) := ⟨fx_in 619 (by decide +kernel) (by decide +kernel), fx_in 620 (by decide +kernel) (by decide +kernel), fx_in 6 (by decide +kernel) (by decide +kernel), fx_in 621 (by decide +kernel) (by decide +kernel)⟩
abbrev b_Resolver_oneWaits : ByteArray := prog_4_method_17_code
abbrev y_Resolver_oneWaits : MethodName := ⟨"FixityTrees$Resolver", "oneWaits", "()Z"⟩
theorem d_Resolver_oneWaits_0 : decode b_Resolver_oneWaits 0 = .ok (.aload_n 0, 1) := by decide +kernel
theorem d_Resolver_oneWaits_1 : decode b_Resolver_oneWaits 1 = .ok (.getfield 12, 3) := by decide +kernel
theorem d_Resolver_oneWaits_4 : decode b_Resolver_oneWaits 4 = .ok (.invokevirtual 84, 3) := by decide +kernel
theorem d_Resolver_oneWaits_7 : decode b_Resolver_oneWaits 7 = .ok (.aload_n 0, 1) := by decide +kernel
theorem d_Resolver_oneWaits_8 : decode b_Resolver_oneWaits 8 = .ok (.getfield 18, 3) := by decide +kernel
theorem d_Resolver_oneWaits_11 : decode b_Resolver_oneWaits 11 = .ok (.invokevirtual 97, 3) := by decide +kernel
theorem d_Resolver_oneWaits_14 : decode b_Resolver_oneWaits 14 = .ok (.if_icmp .le 7, 3) := by decide +kernel
theorem d_Resolver_oneWaits_17 : decode b_Resolver_oneWaits 17 = .ok (.iconst 1, 1) := by decide +kernel
theorem d_Resolver_oneWaits_18 : decode b_Resolver_oneWaits 18 = .ok (.goto 4, 3) := by decide +kernel
theorem d_Resolver_oneWaits_21 : decode b_Resolver_oneWaits 21 = .ok (.iconst 0, 1) := by decide +kernel
theorem d_Resolver_oneWaits_22 : decode b_Resolver_oneWaits 22 = .ok (.ireturn, 1) := by decide +kernel
theorem hg_Resolver_oneWaits : fx_mw fx_g "FixityTrees$Resolver" y_Resolver_oneWaits b_Resolver_oneWaits 1 (some .boolean) := ⟨fx_in 612 (by decide +kernel) (by decide +kernel), fx_inp 18 (by decide +kernel) (by decide +kernel), fx_in 5 (by decide +kernel) (by decide +kernel), fx_in 613 (by decide +kernel) (by decide +kernel)⟩
abbrev b_Resolver_isPlace : ByteArray := prog_4_method_24_code
abbrev y_Resolver_isPlace : MethodName := ⟨"FixityTrees$Resolver", "isPlace", "(I)Z"⟩
theorem d_Resolver_isPlace_0 : decode b_Resolver_isPlace 0 = .ok (.iload_n 0, 1) := by decide +kernel
theorem d_Resolver_isPlace_1 : decode b_Resolver_isPlace 1 = .ok (.ifCond .lt 14, 3) := by decide +kernel
theorem d_Resolver_isPlace_4 : decode b_Resolver_isPlace 4 = .ok (.iload_n 0, 1) := by decide +kernel
theorem d_Resolver_isPlace_5 : decode b_Resolver_isPlace 5 = .ok (.sipush 200, 3) := by decide +kernel
theorem d_Resolver_isPlace_8 : decode b_Resolver_isPlace 8 = .ok (.if_icmp .ge 7, 3) := by decide +kernel
theorem d_Resolver_isPlace_11 : decode b_Resolver_isPlace 11 = .ok (.iconst 1, 1) := by decide +kernel
theorem d_Resolver_isPlace_12 : decode b_Resolver_isPlace 12 = .ok (.goto 4, 3) := by decide +kernel
theorem d_Resolver_isPlace_15 : decode b_Resolver_isPlace 15 = .ok (.iconst 0, 1) := by decide +kernel
theorem d_Resolver_isPlace_16 : decode b_Resolver_isPlace 16 = .ok (.ireturn, 1) := by decide +kernel
theorem hg_Resolver_isPlace : fx_sw fx_g y_Resolver_isPlace b_Resolver_isPlace 1 (some .boolean) := ⟨fx_in 585 (by decide +kernel) (by decide +kernel), fx_in 5 (by decide +kernel) (by decide +kernel), fx_in 586 (by decide +kernel) (by decide +kernel)⟩
abbrev b_Row_nodeKindAt : ByteArray := prog_5_method_7_code
abbrev y_Row_nodeKindAt : MethodName := ⟨"FixityTrees$Row", "nodeKindAt", "(I)I"⟩
theorem d_Row_nodeKindAt_0 : decode b_Row_nodeKindAt 0 = .ok (.aload_n 0, 1) := by decide +kernel
theorem d_Row_nodeKindAt_1 : decode b_Row_nodeKindAt 1 = .ok (.iload_n 1, 1) := by decide +kernel
theorem d_Row_nodeKindAt_2 : decode b_Row_nodeKindAt 2 = .ok (.invokevirtual 40, 3) := by decide +kernel
theorem d_Row_nodeKindAt_5 : decode b_Row_nodeKindAt 5 = .ok (.ifCond .eq 12, 3) := by decide +kernel
theorem d_Row_nodeKindAt_8 : decode b_Row_nodeKindAt 8 = .ok (.aload_n 0, 1) := by decide +kernel
theorem d_Row_nodeKindAt_9 : decode b_Row_nodeKindAt 9 = .ok (.getfield 15, 3) := by decide +kernel
theorem d_Row_nodeKindAt_12 : decode b_Row_nodeKindAt 12 = .ok (.iload_n 1, 1) := by decide +kernel
theorem d_Row_nodeKindAt_13 : decode b_Row_nodeKindAt 13 = .ok (.iaload, 1) := by decide +kernel
theorem d_Row_nodeKindAt_14 : decode b_Row_nodeKindAt 14 = .ok (.goto 4, 3) := by decide +kernel
theorem d_Row_nodeKindAt_17 : decode b_Row_nodeKindAt 17 = .ok (.iconst (-1), 1) := by decide +kernel
theorem d_Row_nodeKindAt_18 : decode b_Row_nodeKindAt 18 = .ok (.ireturn, 1) := by decide +kernel
theorem hg_Row_nodeKindAt : fx_mw fx_g "FixityTrees$Row" y_Row_nodeKindAt b_Row_nodeKindAt 2 (some .int) := ⟨fx_in 588 (by decide +kernel) (by decide +kernel), fx_in 589 (by decide +kernel) (by decide +kernel), fx_in 4 (by decide +kernel) (by decide +kernel), fx_in 590 (by decide +kernel) (by decide +kernel)⟩
abbrev b_Resolver_sizeOf : ByteArray := prog_4_method_22_code
abbrev y_Resolver_sizeOf : MethodName := ⟨"FixityTrees$Resolver", "sizeOf", "(I)I"⟩
theorem d_Resolver_sizeOf_0 : decode b_Resolver_sizeOf 0 = .ok (.iload_n 1, 1) := by decide +kernel
theorem d_Resolver_sizeOf_1 : decode b_Resolver_sizeOf 1 = .ok (.invokestatic 160, 3) := by decide +kernel
theorem d_Resolver_sizeOf_4 : decode b_Resolver_sizeOf 4 = .ok (.ifCond .eq 12, 3) := by decide +kernel
theorem d_Resolver_sizeOf_7 : decode b_Resolver_sizeOf 7 = .ok (.aload_n 0, 1) := by decide +kernel
theorem d_Resolver_sizeOf_8 : decode b_Resolver_sizeOf 8 = .ok (.getfield 34, 3) := by decide +kernel
theorem d_Resolver_sizeOf_11 : decode b_Resolver_sizeOf 11 = .ok (.iload_n 1, 1) := by decide +kernel
theorem d_Resolver_sizeOf_12 : decode b_Resolver_sizeOf 12 = .ok (.iaload, 1) := by decide +kernel
theorem d_Resolver_sizeOf_13 : decode b_Resolver_sizeOf 13 = .ok (.goto 4, 3) := by decide +kernel
theorem d_Resolver_sizeOf_16 : decode b_Resolver_sizeOf 16 = .ok (.iconst 0, 1) := by decide +kernel
theorem d_Resolver_sizeOf_17 : decode b_Resolver_sizeOf 17 = .ok (.ireturn, 1) := by decide +kernel
theorem hg_Resolver_sizeOf : fx_mw fx_g "FixityTrees$Resolver" y_Resolver_sizeOf b_Resolver_sizeOf 2 (some .int) := ⟨fx_in 597 (by decide +kernel) (by decide +kernel), fx_inp 15 (by decide +kernel) (by decide +kernel), fx_in 5 (by decide +kernel) (by decide +kernel), fx_in 598 (by decide +kernel) (by decide +kernel)⟩
abbrev b_Resolver_heightOf : ByteArray := prog_4_method_23_code
abbrev y_Resolver_heightOf : MethodName := ⟨"FixityTrees$Resolver", "heightOf", "(I)I"⟩
theorem d_Resolver_heightOf_0 : decode b_Resolver_heightOf 0 = .ok (.iload_n 1, 1) := by decide +kernel
theorem d_Resolver_heightOf_1 : decode b_Resolver_heightOf 1 = .ok (.invokestatic 160, 3) := by decide +kernel
theorem d_Resolver_heightOf_4 : decode b_Resolver_heightOf 4 = .ok (.ifCond .eq 12, 3) := by decide +kernel
theorem d_Resolver_heightOf_7 : decode b_Resolver_heightOf 7 = .ok (.aload_n 0, 1) := by decide +kernel
theorem d_Resolver_heightOf_8 : decode b_Resolver_heightOf 8 = .ok (.getfield 37, 3) := by decide +kernel
theorem d_Resolver_heightOf_11 : decode b_Resolver_heightOf 11 = .ok (.iload_n 1, 1) := by decide +kernel
theorem d_Resolver_heightOf_12 : decode b_Resolver_heightOf 12 = .ok (.iaload, 1) := by decide +kernel
theorem d_Resolver_heightOf_13 : decode b_Resolver_heightOf 13 = .ok (.goto 4, 3) := by decide +kernel
theorem d_Resolver_heightOf_16 : decode b_Resolver_heightOf 16 = .ok (.iconst 0, 1) := by decide +kernel
theorem d_Resolver_heightOf_17 : decode b_Resolver_heightOf 17 = .ok (.ireturn, 1) := by decide +kernel
theorem hg_Resolver_heightOf : fx_mw fx_g "FixityTrees$Resolver" y_Resolver_heightOf b_Resolver_heightOf 2 (some .int) := ⟨fx_in 601 (by decide +kernel) (by decide +kernel), fx_inp 16 (by decide +kernel) (by decide +kernel), fx_in 5 (by decide +kernel) (by decide +kernel), fx_in 602 (by decide +kernel) (by decide +kernel)⟩
abbrev b_Resolver_finish : ByteArray := prog_4_method_14_code
abbrev y_Resolver_finish : MethodName := ⟨"FixityTrees$Resolver", "finish", "(I)V"⟩
theorem d_Resolver_finish_0 : decode b_Resolver_finish 0 = .ok (.iload_n 1, 1) := by decide +kernel
theorem d_Resolver_finish_1 : decode b_Resolver_finish 1 = .ok (.invokestatic 160, 3) := by decide +kernel
theorem d_Resolver_finish_4 : decode b_Resolver_finish 4 = .ok (.ifCond .ne 4, 3) := by decide +kernel
theorem d_Resolver_finish_7 : decode b_Resolver_finish 7 = .ok (.return_, 1) := by decide +kernel
theorem d_Resolver_finish_8 : decode b_Resolver_finish 8 = .ok (.aload_n 0, 1) := by decide +kernel
theorem d_Resolver_finish_9 : decode b_Resolver_finish 9 = .ok (.getfield 40, 3) := by decide +kernel
theorem d_Resolver_finish_12 : decode b_Resolver_finish 12 = .ok (.iload_n 1, 1) := by decide +kernel
theorem d_Resolver_finish_13 : decode b_Resolver_finish 13 = .ok (.invokevirtual 116, 3) := by decide +kernel
theorem d_Resolver_finish_16 : decode b_Resolver_finish 16 = .ok (.istore_n 2, 1) := by decide +kernel
theorem d_Resolver_finish_17 : decode b_Resolver_finish 17 = .ok (.iload_n 2, 1) := by decide +kernel
theorem d_Resolver_finish_18 : decode b_Resolver_finish 18 = .ok (.iconst 1, 1) := by decide +kernel
theorem d_Resolver_finish_19 : decode b_Resolver_finish 19 = .ok (.if_icmp .ne 13, 3) := by decide +kernel
theorem d_Resolver_finish_22 : decode b_Resolver_finish 22 = .ok (.aload_n 0, 1) := by decide +kernel
theorem d_Resolver_finish_23 : decode b_Resolver_finish 23 = .ok (.getfield 21, 3) := by decide +kernel
theorem d_Resolver_finish_26 : decode b_Resolver_finish 26 = .ok (.invokevirtual 107, 3) := by decide +kernel
theorem d_Resolver_finish_29 : decode b_Resolver_finish 29 = .ok (.goto 4, 3) := by decide +kernel
theorem d_Resolver_finish_32 : decode b_Resolver_finish 32 = .ok (.iconst (-1), 1) := by decide +kernel
theorem d_Resolver_finish_33 : decode b_Resolver_finish 33 = .ok (.istore_n 3, 1) := by decide +kernel
theorem d_Resolver_finish_34 : decode b_Resolver_finish 34 = .ok (.iload_n 2, 1) := by decide +kernel
theorem d_Resolver_finish_35 : decode b_Resolver_finish 35 = .ok (.ifCond .ne 7, 3) := by decide +kernel
theorem d_Resolver_finish_38 : decode b_Resolver_finish 38 = .ok (.iconst (-1), 1) := by decide +kernel
theorem d_Resolver_finish_39 : decode b_Resolver_finish 39 = .ok (.goto 10, 3) := by decide +kernel
theorem d_Resolver_finish_42 : decode b_Resolver_finish 42 = .ok (.aload_n 0, 1) := by decide +kernel
theorem d_Resolver_finish_43 : decode b_Resolver_finish 43 = .ok (.getfield 21, 3) := by decide +kernel
theorem d_Resolver_finish_46 : decode b_Resolver_finish 46 = .ok (.invokevirtual 107, 3) := by decide +kernel
theorem d_Resolver_finish_49 : decode b_Resolver_finish 49 = .ok (.istore 4, 2) := by decide +kernel
theorem d_Resolver_finish_51 : decode b_Resolver_finish 51 = .ok (.aload_n 0, 1) := by decide +kernel
theorem d_Resolver_finish_52 : decode b_Resolver_finish 52 = .ok (.getfield 27, 3) := by decide +kernel
theorem d_Resolver_finish_55 : decode b_Resolver_finish 55 = .ok (.iload_n 1, 1) := by decide +kernel
theorem d_Resolver_finish_56 : decode b_Resolver_finish 56 = .ok (.iload 4, 2) := by decide +kernel
theorem d_Resolver_finish_58 : decode b_Resolver_finish 58 = .ok (.iastore, 1) := by decide +kernel
theorem d_Resolver_finish_59 : decode b_Resolver_finish 59 = .ok (.aload_n 0, 1) := by decide +kernel
theorem d_Resolver_finish_60 : decode b_Resolver_finish 60 = .ok (.getfield 31, 3) := by decide +kernel
theorem d_Resolver_finish_63 : decode b_Resolver_finish 63 = .ok (.iload_n 1, 1) := by decide +kernel
theorem d_Resolver_finish_64 : decode b_Resolver_finish 64 = .ok (.iload_n 3, 1) := by decide +kernel
theorem d_Resolver_finish_65 : decode b_Resolver_finish 65 = .ok (.iastore, 1) := by decide +kernel
theorem d_Resolver_finish_66 : decode b_Resolver_finish 66 = .ok (.aload_n 0, 1) := by decide +kernel
theorem d_Resolver_finish_67 : decode b_Resolver_finish 67 = .ok (.getfield 34, 3) := by decide +kernel
theorem d_Resolver_finish_70 : decode b_Resolver_finish 70 = .ok (.iload_n 1, 1) := by decide +kernel
theorem d_Resolver_finish_71 : decode b_Resolver_finish 71 = .ok (.iconst 1, 1) := by decide +kernel
theorem d_Resolver_finish_72 : decode b_Resolver_finish 72 = .ok (.aload_n 0, 1) := by decide +kernel
theorem d_Resolver_finish_73 : decode b_Resolver_finish 73 = .ok (.iload 4, 2) := by decide +kernel
theorem d_Resolver_finish_75 : decode b_Resolver_finish 75 = .ok (.invokevirtual 130, 3) := by decide +kernel
theorem d_Resolver_finish_78 : decode b_Resolver_finish 78 = .ok (.iadd, 1) := by decide +kernel
theorem d_Resolver_finish_79 : decode b_Resolver_finish 79 = .ok (.aload_n 0, 1) := by decide +kernel
theorem d_Resolver_finish_80 : decode b_Resolver_finish 80 = .ok (.iload_n 3, 1) := by decide +kernel
theorem d_Resolver_finish_81 : decode b_Resolver_finish 81 = .ok (.invokevirtual 130, 3) := by decide +kernel
theorem d_Resolver_finish_84 : decode b_Resolver_finish 84 = .ok (.iadd, 1) := by decide +kernel
theorem d_Resolver_finish_85 : decode b_Resolver_finish 85 = .ok (.iastore, 1) := by decide +kernel
theorem d_Resolver_finish_86 : decode b_Resolver_finish 86 = .ok (.aload_n 0, 1) := by decide +kernel
theorem d_Resolver_finish_87 : decode b_Resolver_finish 87 = .ok (.getfield 37, 3) := by decide +kernel
theorem d_Resolver_finish_90 : decode b_Resolver_finish 90 = .ok (.iload_n 1, 1) := by decide +kernel
theorem d_Resolver_finish_91 : decode b_Resolver_finish 91 = .ok (.iconst 1, 1) := by decide +kernel
theorem d_Resolver_finish_92 : decode b_Resolver_finish 92 = .ok (.aload_n 0, 1) := by decide +kernel
theorem d_Resolver_finish_93 : decode b_Resolver_finish 93 = .ok (.iload 4, 2) := by decide +kernel
theorem d_Resolver_finish_95 : decode b_Resolver_finish 95 = .ok (.invokevirtual 100, 3) := by decide +kernel
theorem d_Resolver_finish_98 : decode b_Resolver_finish 98 = .ok (.aload_n 0, 1) := by decide +kernel
theorem d_Resolver_finish_99 : decode b_Resolver_finish 99 = .ok (.iload_n 3, 1) := by decide +kernel
theorem d_Resolver_finish_100 : decode b_Resolver_finish 100 = .ok (.invokevirtual 100, 3) := by decide +kernel
theorem d_Resolver_finish_103 : decode b_Resolver_finish 103 = .ok (.invokestatic 164, 3) := by decide +kernel
theorem d_Resolver_finish_106 : decode b_Resolver_finish 106 = .ok (.iadd, 1) := by decide +kernel
theorem d_Resolver_finish_107 : decode b_Resolver_finish 107 = .ok (.iastore, 1) := by decide +kernel
theorem d_Resolver_finish_108 : decode b_Resolver_finish 108 = .ok (.aload_n 0, 1) := by decide +kernel
theorem d_Resolver_finish_109 : decode b_Resolver_finish 109 = .ok (.getfield 21, 3) := by decide +kernel
theorem d_Resolver_finish_112 : decode b_Resolver_finish 112 = .ok (.iload_n 1, 1) := by decide +kernel
theorem d_Resolver_finish_113 : decode b_Resolver_finish 113 = .ok (.invokevirtual 85, 3) := by decide +kernel
theorem d_Resolver_finish_116 : decode b_Resolver_finish 116 = .ok (.return_, 1) := by decide +kernel
theorem hg_Resolver_finish : fx_mw fx_g "FixityTrees$Resolver" y_Resolver_finish b_Resolver_finish 5 none := ⟨fx_in 582 (by decide +kernel) (by decide +kernel), fx_inp 14 (by decide +kernel) (by decide +kernel), fx_in 5 (by decide +kernel) (by decide +kernel), fx_in 583 (by decide +kernel) (by decide +kernel)⟩
abbrev b_Resolver_finishGroup : ByteArray := prog_4_method_13_code
abbrev y_Resolver_finishGroup : MethodName := ⟨"FixityTrees$Resolver", "finishGroup", "()V"⟩
theorem d_Resolver_finishGroup_0 : decode b_Resolver_finishGroup 0 = .ok (.iconst 0, 1) := by decide +kernel
theorem d_Resolver_finishGroup_1 : decode b_Resolver_finishGroup 1 = .ok (.istore_n 1, 1) := by decide +kernel
theorem d_Resolver_finishGroup_2 : decode b_Resolver_finishGroup 2 = .ok (.iload_n 1, 1) := by decide +kernel
theorem d_Resolver_finishGroup_3 : decode b_Resolver_finishGroup 3 = .ok (.sipush 200, 3) := by decide +kernel
theorem d_Resolver_finishGroup_6 : decode b_Resolver_finishGroup 6 = .ok (.if_icmp .ge 27, 3) := by decide +kernel
theorem d_Resolver_finishGroup_9 : decode b_Resolver_finishGroup 9 = .ok (.aload_n 0, 1) := by decide +kernel
theorem d_Resolver_finishGroup_10 : decode b_Resolver_finishGroup 10 = .ok (.invokevirtual 137, 3) := by decide +kernel
theorem d_Resolver_finishGroup_13 : decode b_Resolver_finishGroup 13 = .ok (.ifCond .eq 20, 3) := by decide +kernel
theorem d_Resolver_finishGroup_16 : decode b_Resolver_finishGroup 16 = .ok (.aload_n 0, 1) := by decide +kernel
theorem d_Resolver_finishGroup_17 : decode b_Resolver_finishGroup 17 = .ok (.aload_n 0, 1) := by decide +kernel
theorem d_Resolver_finishGroup_18 : decode b_Resolver_finishGroup 18 = .ok (.getfield 12, 3) := by decide +kernel
theorem d_Resolver_finishGroup_21 : decode b_Resolver_finishGroup 21 = .ok (.invokevirtual 107, 3) := by decide +kernel
theorem d_Resolver_finishGroup_24 : decode b_Resolver_finishGroup 24 = .ok (.invokevirtual 74, 3) := by decide +kernel
theorem d_Resolver_finishGroup_27 : decode b_Resolver_finishGroup 27 = .ok (.iinc 1 1, 3) := by decide +kernel
theorem d_Resolver_finishGroup_30 : decode b_Resolver_finishGroup 30 = .ok (.goto (-28), 3) := by decide +kernel
theorem d_Resolver_finishGroup_33 : decode b_Resolver_finishGroup 33 = .ok (.aload_n 0, 1) := by decide +kernel
theorem d_Resolver_finishGroup_34 : decode b_Resolver_finishGroup 34 = .ok (.getfield 18, 3) := by decide +kernel
theorem d_Resolver_finishGroup_37 : decode b_Resolver_finishGroup 37 = .ok (.invokevirtual 107, 3) := by decide +kernel
theorem d_Resolver_finishGroup_40 : decode b_Resolver_finishGroup 40 = .ok (.pop, 1) := by decide +kernel
theorem d_Resolver_finishGroup_41 : decode b_Resolver_finishGroup 41 = .ok (.return_, 1) := by decide +kernel
theorem hg_Resolver_finishGroup : fx_mw fx_g "FixityTrees$Resolver" y_Resolver_finishGroup b_Resolver_finishGroup 2 none := ⟨fx_in 669 (by decide +kernel) (by decide +kernel), fx_inp 26 (by decide +kernel) (by decide +kernel), fx_in 5 (by decide +kernel) (by decide +kernel), fx_in 670 (by decide +kernel) (by decide +kernel)⟩
abbrev b_Resolver_letWait : ByteArray := prog_4_method_15_code
abbrev y_Resolver_letWait : MethodName := ⟨"FixityTrees$Resolver", "letWait", "(I)V"⟩
theorem d_Resolver_letWait_0 : decode b_Resolver_letWait 0 = .ok (.aload_n 0, 1) := by decide +kernel
theorem d_Resolver_letWait_1 : decode b_Resolver_letWait 1 = .ok (.getfield 12, 3) := by decide +kernel
theorem d_Resolver_letWait_4 : decode b_Resolver_letWait 4 = .ok (.iload_n 1, 1) := by decide +kernel
theorem d_Resolver_letWait_5 : decode b_Resolver_letWait 5 = .ok (.invokevirtual 85, 3) := by decide +kernel
theorem d_Resolver_letWait_8 : decode b_Resolver_letWait 8 = .ok (.aload_n 0, 1) := by decide +kernel
theorem d_Resolver_letWait_9 : decode b_Resolver_letWait 9 = .ok (.aload_n 0, 1) := by decide +kernel
theorem d_Resolver_letWait_10 : decode b_Resolver_letWait 10 = .ok (.getfield 48, 3) := by decide +kernel
theorem d_Resolver_letWait_13 : decode b_Resolver_letWait 13 = .ok (.aload_n 0, 1) := by decide +kernel
theorem d_Resolver_letWait_14 : decode b_Resolver_letWait 14 = .ok (.getfield 12, 3) := by decide +kernel
theorem d_Resolver_letWait_17 : decode b_Resolver_letWait 17 = .ok (.invokevirtual 84, 3) := by decide +kernel
theorem d_Resolver_letWait_20 : decode b_Resolver_letWait 20 = .ok (.invokestatic 164, 3) := by decide +kernel
theorem d_Resolver_letWait_23 : decode b_Resolver_letWait 23 = .ok (.putfield 48, 3) := by decide +kernel
theorem d_Resolver_letWait_26 : decode b_Resolver_letWait 26 = .ok (.return_, 1) := by decide +kernel
theorem hg_Resolver_letWait : fx_mw fx_g "FixityTrees$Resolver" y_Resolver_letWait b_Resolver_letWait 2 none := ⟨fx_in 657 (by decide +kernel) (by decide +kernel), fx_inp 23 (by decide +kernel) (by decide +kernel), fx_in 5 (by decide +kernel) (by decide +kernel), fx_in 658 (by decide +kernel) (by decide +kernel)⟩
abbrev b_Row_operatorAt : ByteArray := prog_5_method_8_code
abbrev y_Row_operatorAt : MethodName := ⟨"FixityTrees$Row", "operatorAt", "(I)I"⟩
theorem d_Row_operatorAt_0 : decode b_Row_operatorAt 0 = .ok (.aload_n 0, 1) := by decide +kernel
theorem d_Row_operatorAt_1 : decode b_Row_operatorAt 1 = .ok (.iload_n 1, 1) := by decide +kernel
theorem d_Row_operatorAt_2 : decode b_Row_operatorAt 2 = .ok (.invokevirtual 40, 3) := by decide +kernel
theorem d_Row_operatorAt_5 : decode b_Row_operatorAt 5 = .ok (.ifCond .eq 12, 3) := by decide +kernel
theorem d_Row_operatorAt_8 : decode b_Row_operatorAt 8 = .ok (.aload_n 0, 1) := by decide +kernel
theorem d_Row_operatorAt_9 : decode b_Row_operatorAt 9 = .ok (.getfield 18, 3) := by decide +kernel
theorem d_Row_operatorAt_12 : decode b_Row_operatorAt 12 = .ok (.iload_n 1, 1) := by decide +kernel
theorem d_Row_operatorAt_13 : decode b_Row_operatorAt 13 = .ok (.iaload, 1) := by decide +kernel
theorem d_Row_operatorAt_14 : decode b_Row_operatorAt 14 = .ok (.goto 4, 3) := by decide +kernel
theorem d_Row_operatorAt_17 : decode b_Row_operatorAt 17 = .ok (.iconst (-1), 1) := by decide +kernel
theorem d_Row_operatorAt_18 : decode b_Row_operatorAt 18 = .ok (.ireturn, 1) := by decide +kernel
theorem hg_Row_operatorAt : fx_mw fx_g "FixityTrees$Row" y_Row_operatorAt b_Row_operatorAt 2 (some .int) := ⟨fx_in 631 (by decide +kernel) (by decide +kernel), fx_in 632 (by decide +kernel) (by decide +kernel), fx_in 4 (by decide +kernel) (by decide +kernel), fx_in 633 (by decide +kernel) (by decide +kernel)⟩
abbrev b_Fixities_rankOf : ByteArray := prog_2_method_4_code
abbrev y_Fixities_rankOf : MethodName := ⟨"FixityTrees$Fixities", "rankOf", "(I)I"⟩
theorem d_Fixities_rankOf_0 : decode b_Fixities_rankOf 0 = .ok (.iload_n 1, 1) := by decide +kernel
theorem d_Fixities_rankOf_1 : decode b_Fixities_rankOf 1 = .ok (.invokestatic 27, 3) := by decide +kernel
theorem d_Fixities_rankOf_4 : decode b_Fixities_rankOf 4 = .ok (.ifCond .eq 12, 3) := by decide +kernel
theorem d_Fixities_rankOf_7 : decode b_Fixities_rankOf 7 = .ok (.aload_n 0, 1) := by decide +kernel
theorem d_Fixities_rankOf_8 : decode b_Fixities_rankOf 8 = .ok (.getfield 15, 3) := by decide +kernel
theorem d_Fixities_rankOf_11 : decode b_Fixities_rankOf 11 = .ok (.iload_n 1, 1) := by decide +kernel
theorem d_Fixities_rankOf_12 : decode b_Fixities_rankOf 12 = .ok (.iaload, 1) := by decide +kernel
theorem d_Fixities_rankOf_13 : decode b_Fixities_rankOf 13 = .ok (.goto 5, 3) := by decide +kernel
theorem d_Fixities_rankOf_16 : decode b_Fixities_rankOf 16 = .ok (.bipush 9, 2) := by decide +kernel
theorem d_Fixities_rankOf_18 : decode b_Fixities_rankOf 18 = .ok (.ireturn, 1) := by decide +kernel
theorem hg_Fixities_rankOf : fx_mw fx_g "FixityTrees$Fixities" y_Fixities_rankOf b_Fixities_rankOf 2 (some .int) := ⟨fx_in 635 (by decide +kernel) (by decide +kernel), fx_in 636 (by decide +kernel) (by decide +kernel), fx_in 3 (by decide +kernel) (by decide +kernel), fx_in 637 (by decide +kernel) (by decide +kernel)⟩
abbrev b_Resolver_rankAt : ByteArray := prog_4_method_19_code
abbrev y_Resolver_rankAt : MethodName := ⟨"FixityTrees$Resolver", "rankAt", "(I)I"⟩
theorem d_Resolver_rankAt_0 : decode b_Resolver_rankAt 0 = .ok (.aload_n 0, 1) := by decide +kernel
theorem d_Resolver_rankAt_1 : decode b_Resolver_rankAt 1 = .ok (.getfield 44, 3) := by decide +kernel
theorem d_Resolver_rankAt_4 : decode b_Resolver_rankAt 4 = .ok (.aload_n 0, 1) := by decide +kernel
theorem d_Resolver_rankAt_5 : decode b_Resolver_rankAt 5 = .ok (.getfield 40, 3) := by decide +kernel
theorem d_Resolver_rankAt_8 : decode b_Resolver_rankAt 8 = .ok (.iload_n 1, 1) := by decide +kernel
theorem d_Resolver_rankAt_9 : decode b_Resolver_rankAt 9 = .ok (.invokevirtual 119, 3) := by decide +kernel
theorem d_Resolver_rankAt_12 : decode b_Resolver_rankAt 12 = .ok (.invokevirtual 174, 3) := by decide +kernel
theorem d_Resolver_rankAt_15 : decode b_Resolver_rankAt 15 = .ok (.ireturn, 1) := by decide +kernel
theorem hg_Resolver_rankAt : fx_mw fx_g "FixityTrees$Resolver" y_Resolver_rankAt b_Resolver_rankAt 2 (some .int) := ⟨fx_in 628 (by decide +kernel) (by decide +kernel), fx_inp 20 (by decide +kernel) (by decide +kernel), fx_in 5 (by decide +kernel) (by decide +kernel), fx_in 629 (by decide +kernel) (by decide +kernel)⟩
abbrev b_Fixities_sideOf : ByteArray := prog_2_method_3_code
abbrev y_Fixities_sideOf : MethodName := ⟨"FixityTrees$Fixities", "sideOf", "(I)I"⟩
theorem d_Fixities_sideOf_0 : decode b_Fixities_sideOf 0 = .ok (.iload_n 1, 1) := by decide +kernel
theorem d_Fixities_sideOf_1 : decode b_Fixities_sideOf 1 = .ok (.invokestatic 27, 3) := by decide +kernel
theorem d_Fixities_sideOf_4 : decode b_Fixities_sideOf 4 = .ok (.ifCond .eq 12, 3) := by decide +kernel
theorem d_Fixities_sideOf_7 : decode b_Fixities_sideOf 7 = .ok (.aload_n 0, 1) := by decide +kernel
theorem d_Fixities_sideOf_8 : decode b_Fixities_sideOf 8 = .ok (.getfield 9, 3) := by decide +kernel
theorem d_Fixities_sideOf_11 : decode b_Fixities_sideOf 11 = .ok (.iload_n 1, 1) := by decide +kernel
theorem d_Fixities_sideOf_12 : decode b_Fixities_sideOf 12 = .ok (.iaload, 1) := by decide +kernel
theorem d_Fixities_sideOf_13 : decode b_Fixities_sideOf 13 = .ok (.goto 4, 3) := by decide +kernel
theorem d_Fixities_sideOf_16 : decode b_Fixities_sideOf 16 = .ok (.iconst 2, 1) := by decide +kernel
theorem d_Fixities_sideOf_17 : decode b_Fixities_sideOf 17 = .ok (.ireturn, 1) := by decide +kernel
theorem hg_Fixities_sideOf : fx_mw fx_g "FixityTrees$Fixities" y_Fixities_sideOf b_Fixities_sideOf 2 (some .int) := ⟨fx_in 644 (by decide +kernel) (by decide +kernel), fx_in 645 (by decide +kernel) (by decide +kernel), fx_in 3 (by decide +kernel) (by decide +kernel), fx_in 646 (by decide +kernel) (by decide +kernel)⟩
abbrev b_Resolver_sideAt : ByteArray := prog_4_method_18_code
abbrev y_Resolver_sideAt : MethodName := ⟨"FixityTrees$Resolver", "sideAt", "(I)I"⟩
theorem d_Resolver_sideAt_0 : decode b_Resolver_sideAt 0 = .ok (.aload_n 0, 1) := by decide +kernel
theorem d_Resolver_sideAt_1 : decode b_Resolver_sideAt 1 = .ok (.getfield 44, 3) := by decide +kernel
theorem d_Resolver_sideAt_4 : decode b_Resolver_sideAt 4 = .ok (.aload_n 0, 1) := by decide +kernel
theorem d_Resolver_sideAt_5 : decode b_Resolver_sideAt 5 = .ok (.getfield 40, 3) := by decide +kernel
theorem d_Resolver_sideAt_8 : decode b_Resolver_sideAt 8 = .ok (.iload_n 1, 1) := by decide +kernel
theorem d_Resolver_sideAt_9 : decode b_Resolver_sideAt 9 = .ok (.invokevirtual 119, 3) := by decide +kernel
theorem d_Resolver_sideAt_12 : decode b_Resolver_sideAt 12 = .ok (.invokevirtual 169, 3) := by decide +kernel
theorem d_Resolver_sideAt_15 : decode b_Resolver_sideAt 15 = .ok (.ireturn, 1) := by decide +kernel
theorem hg_Resolver_sideAt : fx_mw fx_g "FixityTrees$Resolver" y_Resolver_sideAt b_Resolver_sideAt 2 (some .int) := ⟨fx_in 641 (by decide +kernel) (by decide +kernel), fx_inp 21 (by decide +kernel) (by decide +kernel), fx_in 5 (by decide +kernel) (by decide +kernel), fx_in 642 (by decide +kernel) (by decide +kernel)⟩
abbrev b_Row_isPattern : ByteArray := prog_5_method_5_code
abbrev y_Row_isPattern : MethodName := ⟨"FixityTrees$Row", "isPattern", "()Z"⟩
theorem d_Row_isPattern_0 : decode b_Row_isPattern 0 = .ok (.aload_n 0, 1) := by decide +kernel
theorem d_Row_isPattern_1 : decode b_Row_isPattern 1 = .ok (.getfield 36, 3) := by decide +kernel
theorem d_Row_isPattern_4 : decode b_Row_isPattern 4 = .ok (.ireturn, 1) := by decide +kernel
theorem hg_Row_isPattern : fx_mw fx_g "FixityTrees$Row" y_Row_isPattern b_Row_isPattern 1 (some .boolean) := ⟨fx_in 648 (by decide +kernel) (by decide +kernel), fx_in 649 (by decide +kernel) (by decide +kernel), fx_in 4 (by decide +kernel) (by decide +kernel), fx_in 650 (by decide +kernel) (by decide +kernel)⟩
abbrev b_Resolver_fateOf : ByteArray := prog_4_method_11_code
abbrev y_Resolver_fateOf : MethodName := ⟨"FixityTrees$Resolver", "fateOf", "(II)I"⟩
theorem d_Resolver_fateOf_0 : decode b_Resolver_fateOf 0 = .ok (.aload_n 0, 1) := by decide +kernel
theorem d_Resolver_fateOf_1 : decode b_Resolver_fateOf 1 = .ok (.iload_n 1, 1) := by decide +kernel
theorem d_Resolver_fateOf_2 : decode b_Resolver_fateOf 2 = .ok (.invokevirtual 141, 3) := by decide +kernel
theorem d_Resolver_fateOf_5 : decode b_Resolver_fateOf 5 = .ok (.istore_n 3, 1) := by decide +kernel
theorem d_Resolver_fateOf_6 : decode b_Resolver_fateOf 6 = .ok (.aload_n 0, 1) := by decide +kernel
theorem d_Resolver_fateOf_7 : decode b_Resolver_fateOf 7 = .ok (.iload_n 1, 1) := by decide +kernel
theorem d_Resolver_fateOf_8 : decode b_Resolver_fateOf 8 = .ok (.invokevirtual 154, 3) := by decide +kernel
theorem d_Resolver_fateOf_11 : decode b_Resolver_fateOf 11 = .ok (.istore 4, 2) := by decide +kernel
theorem d_Resolver_fateOf_13 : decode b_Resolver_fateOf 13 = .ok (.aload_n 0, 1) := by decide +kernel
theorem d_Resolver_fateOf_14 : decode b_Resolver_fateOf 14 = .ok (.iload_n 2, 1) := by decide +kernel
theorem d_Resolver_fateOf_15 : decode b_Resolver_fateOf 15 = .ok (.invokevirtual 141, 3) := by decide +kernel
theorem d_Resolver_fateOf_18 : decode b_Resolver_fateOf 18 = .ok (.istore 5, 2) := by decide +kernel
theorem d_Resolver_fateOf_20 : decode b_Resolver_fateOf 20 = .ok (.iload_n 3, 1) := by decide +kernel
theorem d_Resolver_fateOf_21 : decode b_Resolver_fateOf 21 = .ok (.iload 5, 2) := by decide +kernel
theorem d_Resolver_fateOf_23 : decode b_Resolver_fateOf 23 = .ok (.if_icmp .ne 21, 3) := by decide +kernel
theorem d_Resolver_fateOf_26 : decode b_Resolver_fateOf 26 = .ok (.iload 4, 2) := by decide +kernel
theorem d_Resolver_fateOf_28 : decode b_Resolver_fateOf 28 = .ok (.aload_n 0, 1) := by decide +kernel
theorem d_Resolver_fateOf_29 : decode b_Resolver_fateOf 29 = .ok (.iload_n 2, 1) := by decide +kernel
theorem d_Resolver_fateOf_30 : decode b_Resolver_fateOf 30 = .ok (.invokevirtual 154, 3) := by decide +kernel
theorem d_Resolver_fateOf_33 : decode b_Resolver_fateOf 33 = .ok (.if_icmp .ne 9, 3) := by decide +kernel
theorem d_Resolver_fateOf_36 : decode b_Resolver_fateOf 36 = .ok (.iload 4, 2) := by decide +kernel
theorem d_Resolver_fateOf_38 : decode b_Resolver_fateOf 38 = .ok (.iconst 2, 1) := by decide +kernel
theorem d_Resolver_fateOf_39 : decode b_Resolver_fateOf 39 = .ok (.if_icmp .ne 5, 3) := by decide +kernel
theorem d_Resolver_fateOf_42 : decode b_Resolver_fateOf 42 = .ok (.iconst 1, 1) := by decide +kernel
theorem d_Resolver_fateOf_43 : decode b_Resolver_fateOf 43 = .ok (.ireturn, 1) := by decide +kernel
theorem d_Resolver_fateOf_44 : decode b_Resolver_fateOf 44 = .ok (.aload_n 0, 1) := by decide +kernel
theorem d_Resolver_fateOf_45 : decode b_Resolver_fateOf 45 = .ok (.getfield 40, 3) := by decide +kernel
theorem d_Resolver_fateOf_48 : decode b_Resolver_fateOf 48 = .ok (.iload_n 1, 1) := by decide +kernel
theorem d_Resolver_fateOf_49 : decode b_Resolver_fateOf 49 = .ok (.invokevirtual 116, 3) := by decide +kernel
theorem d_Resolver_fateOf_52 : decode b_Resolver_fateOf 52 = .ok (.istore 6, 2) := by decide +kernel
theorem d_Resolver_fateOf_54 : decode b_Resolver_fateOf 54 = .ok (.iload_n 3, 1) := by decide +kernel
theorem d_Resolver_fateOf_55 : decode b_Resolver_fateOf 55 = .ok (.iload 5, 2) := by decide +kernel
theorem d_Resolver_fateOf_57 : decode b_Resolver_fateOf 57 = .ok (.if_icmp .gt 14, 3) := by decide +kernel
theorem d_Resolver_fateOf_60 : decode b_Resolver_fateOf 60 = .ok (.iload_n 3, 1) := by decide +kernel
theorem d_Resolver_fateOf_61 : decode b_Resolver_fateOf 61 = .ok (.iload 5, 2) := by decide +kernel
theorem d_Resolver_fateOf_63 : decode b_Resolver_fateOf 63 = .ok (.if_icmp .ne 20, 3) := by decide +kernel
theorem d_Resolver_fateOf_66 : decode b_Resolver_fateOf 66 = .ok (.iload 4, 2) := by decide +kernel
theorem d_Resolver_fateOf_68 : decode b_Resolver_fateOf 68 = .ok (.ifCond .ne 15, 3) := by decide +kernel
theorem d_Resolver_fateOf_71 : decode b_Resolver_fateOf 71 = .ok (.iload 6, 2) := by decide +kernel
theorem d_Resolver_fateOf_73 : decode b_Resolver_fateOf 73 = .ok (.iconst 4, 1) := by decide +kernel
theorem d_Resolver_fateOf_74 : decode b_Resolver_fateOf 74 = .ok (.if_icmp .ne 7, 3) := by decide +kernel
theorem d_Resolver_fateOf_77 : decode b_Resolver_fateOf 77 = .ok (.iconst 3, 1) := by decide +kernel
theorem d_Resolver_fateOf_78 : decode b_Resolver_fateOf 78 = .ok (.goto 4, 3) := by decide +kernel
theorem d_Resolver_fateOf_81 : decode b_Resolver_fateOf 81 = .ok (.iconst 0, 1) := by decide +kernel
theorem d_Resolver_fateOf_82 : decode b_Resolver_fateOf 82 = .ok (.ireturn, 1) := by decide +kernel
theorem d_Resolver_fateOf_83 : decode b_Resolver_fateOf 83 = .ok (.aload_n 0, 1) := by decide +kernel
theorem d_Resolver_fateOf_84 : decode b_Resolver_fateOf 84 = .ok (.getfield 40, 3) := by decide +kernel
theorem d_Resolver_fateOf_87 : decode b_Resolver_fateOf 87 = .ok (.invokevirtual 157, 3) := by decide +kernel
theorem d_Resolver_fateOf_90 : decode b_Resolver_fateOf 90 = .ok (.ifCond .eq 13, 3) := by decide +kernel
theorem d_Resolver_fateOf_93 : decode b_Resolver_fateOf 93 = .ok (.iload 6, 2) := by decide +kernel
theorem d_Resolver_fateOf_95 : decode b_Resolver_fateOf 95 = .ok (.iconst 2, 1) := by decide +kernel
theorem d_Resolver_fateOf_96 : decode b_Resolver_fateOf 96 = .ok (.if_icmp .ne 7, 3) := by decide +kernel
theorem d_Resolver_fateOf_99 : decode b_Resolver_fateOf 99 = .ok (.iconst 4, 1) := by decide +kernel
theorem d_Resolver_fateOf_100 : decode b_Resolver_fateOf 100 = .ok (.goto 4, 3) := by decide +kernel
theorem d_Resolver_fateOf_103 : decode b_Resolver_fateOf 103 = .ok (.iconst (-1), 1) := by decide +kernel
theorem d_Resolver_fateOf_104 : decode b_Resolver_fateOf 104 = .ok (.ireturn, 1) := by decide +kernel
theorem hg_Resolver_fateOf : fx_mw fx_g "FixityTrees$Resolver" y_Resolver_fateOf b_Resolver_fateOf 7 (some .int) := ⟨fx_in 624 (by decide +kernel) (by decide +kernel), fx_inp 19 (by decide +kernel) (by decide +kernel), fx_in 5 (by decide +kernel) (by decide +kernel), fx_in 625 (by decide +kernel) (by decide +kernel)⟩
abbrev b_Resolver_note : ByteArray := prog_4_method_16_code
abbrev y_Resolver_note : MethodName := ⟨"FixityTrees$Resolver", "note", "(III)V"⟩
theorem d_Resolver_note_0 : decode b_Resolver_note 0 = .ok (.aload_n 0, 1) := by decide +kernel
theorem d_Resolver_note_1 : decode b_Resolver_note 1 = .ok (.iload_n 1, 1) := by decide +kernel
theorem d_Resolver_note_2 : decode b_Resolver_note 2 = .ok (.putfield 52, 3) := by decide +kernel
theorem d_Resolver_note_5 : decode b_Resolver_note 5 = .ok (.aload_n 0, 1) := by decide +kernel
theorem d_Resolver_note_6 : decode b_Resolver_note 6 = .ok (.iload_n 2, 1) := by decide +kernel
theorem d_Resolver_note_7 : decode b_Resolver_note 7 = .ok (.putfield 55, 3) := by decide +kernel
theorem d_Resolver_note_10 : decode b_Resolver_note 10 = .ok (.aload_n 0, 1) := by decide +kernel
theorem d_Resolver_note_11 : decode b_Resolver_note 11 = .ok (.iload_n 3, 1) := by decide +kernel
theorem d_Resolver_note_12 : decode b_Resolver_note 12 = .ok (.putfield 58, 3) := by decide +kernel
theorem d_Resolver_note_15 : decode b_Resolver_note 15 = .ok (.return_, 1) := by decide +kernel
theorem hg_Resolver_note : fx_mw fx_g "FixityTrees$Resolver" y_Resolver_note b_Resolver_note 4 none := ⟨fx_in 653 (by decide +kernel) (by decide +kernel), fx_inp 22 (by decide +kernel) (by decide +kernel), fx_in 5 (by decide +kernel) (by decide +kernel), fx_in 654 (by decide +kernel) (by decide +kernel)⟩
abbrev b_Resolver_meetOperator : ByteArray := prog_4_method_10_code
abbrev y_Resolver_meetOperator : MethodName := ⟨"FixityTrees$Resolver", "meetOperator", "(I)V"⟩
theorem d_Resolver_meetOperator_0 : decode b_Resolver_meetOperator 0 = .ok (.iconst 0, 1) := by decide +kernel
theorem d_Resolver_meetOperator_1 : decode b_Resolver_meetOperator 1 = .ok (.istore_n 2, 1) := by decide +kernel
theorem d_Resolver_meetOperator_2 : decode b_Resolver_meetOperator 2 = .ok (.iload_n 2, 1) := by decide +kernel
theorem d_Resolver_meetOperator_3 : decode b_Resolver_meetOperator 3 = .ok (.sipush 200, 3) := by decide +kernel
theorem d_Resolver_meetOperator_6 : decode b_Resolver_meetOperator 6 = .ok (.if_icmp .ge 66, 3) := by decide +kernel
theorem d_Resolver_meetOperator_9 : decode b_Resolver_meetOperator 9 = .ok (.aload_n 0, 1) := by decide +kernel
theorem d_Resolver_meetOperator_10 : decode b_Resolver_meetOperator 10 = .ok (.invokevirtual 137, 3) := by decide +kernel
theorem d_Resolver_meetOperator_13 : decode b_Resolver_meetOperator 13 = .ok (.ifCond .eq 59, 3) := by decide +kernel
theorem d_Resolver_meetOperator_16 : decode b_Resolver_meetOperator 16 = .ok (.aload_n 0, 1) := by decide +kernel
theorem d_Resolver_meetOperator_17 : decode b_Resolver_meetOperator 17 = .ok (.getfield 12, 3) := by decide +kernel
theorem d_Resolver_meetOperator_20 : decode b_Resolver_meetOperator 20 = .ok (.invokevirtual 97, 3) := by decide +kernel
theorem d_Resolver_meetOperator_23 : decode b_Resolver_meetOperator 23 = .ok (.istore_n 3, 1) := by decide +kernel
theorem d_Resolver_meetOperator_24 : decode b_Resolver_meetOperator 24 = .ok (.aload_n 0, 1) := by decide +kernel
theorem d_Resolver_meetOperator_25 : decode b_Resolver_meetOperator 25 = .ok (.iload_n 3, 1) := by decide +kernel
theorem d_Resolver_meetOperator_26 : decode b_Resolver_meetOperator 26 = .ok (.iload_n 1, 1) := by decide +kernel
theorem d_Resolver_meetOperator_27 : decode b_Resolver_meetOperator 27 = .ok (.invokevirtual 150, 3) := by decide +kernel
theorem d_Resolver_meetOperator_30 : decode b_Resolver_meetOperator 30 = .ok (.istore 4, 2) := by decide +kernel
theorem d_Resolver_meetOperator_32 : decode b_Resolver_meetOperator 32 = .ok (.iload 4, 2) := by decide +kernel
theorem d_Resolver_meetOperator_34 : decode b_Resolver_meetOperator 34 = .ok (.iconst (-1), 1) := by decide +kernel
theorem d_Resolver_meetOperator_35 : decode b_Resolver_meetOperator 35 = .ok (.if_icmp .ne 6, 3) := by decide +kernel
theorem d_Resolver_meetOperator_38 : decode b_Resolver_meetOperator 38 = .ok (.goto 34, 3) := by decide +kernel
theorem d_Resolver_meetOperator_41 : decode b_Resolver_meetOperator 41 = .ok (.iload 4, 2) := by decide +kernel
theorem d_Resolver_meetOperator_43 : decode b_Resolver_meetOperator 43 = .ok (.ifCond .eq 12, 3) := by decide +kernel
theorem d_Resolver_meetOperator_46 : decode b_Resolver_meetOperator 46 = .ok (.aload_n 0, 1) := by decide +kernel
theorem d_Resolver_meetOperator_47 : decode b_Resolver_meetOperator 47 = .ok (.iload 4, 2) := by decide +kernel
theorem d_Resolver_meetOperator_49 : decode b_Resolver_meetOperator 49 = .ok (.iload_n 3, 1) := by decide +kernel
theorem d_Resolver_meetOperator_50 : decode b_Resolver_meetOperator 50 = .ok (.iload_n 1, 1) := by decide +kernel
theorem d_Resolver_meetOperator_51 : decode b_Resolver_meetOperator 51 = .ok (.invokevirtual 144, 3) := by decide +kernel
theorem d_Resolver_meetOperator_54 : decode b_Resolver_meetOperator 54 = .ok (.return_, 1) := by decide +kernel
theorem d_Resolver_meetOperator_55 : decode b_Resolver_meetOperator 55 = .ok (.aload_n 0, 1) := by decide +kernel
theorem d_Resolver_meetOperator_56 : decode b_Resolver_meetOperator 56 = .ok (.aload_n 0, 1) := by decide +kernel
theorem d_Resolver_meetOperator_57 : decode b_Resolver_meetOperator 57 = .ok (.getfield 12, 3) := by decide +kernel
theorem d_Resolver_meetOperator_60 : decode b_Resolver_meetOperator 60 = .ok (.invokevirtual 107, 3) := by decide +kernel
theorem d_Resolver_meetOperator_63 : decode b_Resolver_meetOperator 63 = .ok (.invokevirtual 74, 3) := by decide +kernel
theorem d_Resolver_meetOperator_66 : decode b_Resolver_meetOperator 66 = .ok (.iinc 2 1, 3) := by decide +kernel
theorem d_Resolver_meetOperator_69 : decode b_Resolver_meetOperator 69 = .ok (.goto (-67), 3) := by decide +kernel
theorem d_Resolver_meetOperator_72 : decode b_Resolver_meetOperator 72 = .ok (.aload_n 0, 1) := by decide +kernel
theorem d_Resolver_meetOperator_73 : decode b_Resolver_meetOperator 73 = .ok (.iload_n 1, 1) := by decide +kernel
theorem d_Resolver_meetOperator_74 : decode b_Resolver_meetOperator 74 = .ok (.invokevirtual 147, 3) := by decide +kernel
theorem d_Resolver_meetOperator_77 : decode b_Resolver_meetOperator 77 = .ok (.return_, 1) := by decide +kernel
theorem hg_Resolver_meetOperator : fx_mw fx_g "FixityTrees$Resolver" y_Resolver_meetOperator b_Resolver_meetOperator 5 none := ⟨fx_in 608 (by decide +kernel) (by decide +kernel), fx_inp 17 (by decide +kernel) (by decide +kernel), fx_in 5 (by decide +kernel) (by decide +kernel), fx_in 609 (by decide +kernel) (by decide +kernel)⟩
abbrev b_Resolver_meetNegation : ByteArray := prog_4_method_9_code
abbrev y_Resolver_meetNegation : MethodName := ⟨"FixityTrees$Resolver", "meetNegation", "(I)V"⟩
theorem d_Resolver_meetNegation_0 : decode b_Resolver_meetNegation 0 = .ok (.aload_n 0, 1) := by decide +kernel
theorem d_Resolver_meetNegation_1 : decode b_Resolver_meetNegation 1 = .ok (.invokevirtual 137, 3) := by decide +kernel
theorem d_Resolver_meetNegation_4 : decode b_Resolver_meetNegation 4 = .ok (.ifCond .eq 35, 3) := by decide +kernel
theorem d_Resolver_meetNegation_7 : decode b_Resolver_meetNegation 7 = .ok (.aload_n 0, 1) := by decide +kernel
theorem d_Resolver_meetNegation_8 : decode b_Resolver_meetNegation 8 = .ok (.aload_n 0, 1) := by decide +kernel
theorem d_Resolver_meetNegation_9 : decode b_Resolver_meetNegation 9 = .ok (.getfield 12, 3) := by decide +kernel
theorem d_Resolver_meetNegation_12 : decode b_Resolver_meetNegation 12 = .ok (.invokevirtual 97, 3) := by decide +kernel
theorem d_Resolver_meetNegation_15 : decode b_Resolver_meetNegation 15 = .ok (.invokevirtual 141, 3) := by decide +kernel
theorem d_Resolver_meetNegation_18 : decode b_Resolver_meetNegation 18 = .ok (.bipush 6, 2) := by decide +kernel
theorem d_Resolver_meetNegation_20 : decode b_Resolver_meetNegation 20 = .ok (.if_icmp .lt 19, 3) := by decide +kernel
theorem d_Resolver_meetNegation_23 : decode b_Resolver_meetNegation 23 = .ok (.aload_n 0, 1) := by decide +kernel
theorem d_Resolver_meetNegation_24 : decode b_Resolver_meetNegation 24 = .ok (.iconst 2, 1) := by decide +kernel
theorem d_Resolver_meetNegation_25 : decode b_Resolver_meetNegation 25 = .ok (.aload_n 0, 1) := by decide +kernel
theorem d_Resolver_meetNegation_26 : decode b_Resolver_meetNegation 26 = .ok (.getfield 12, 3) := by decide +kernel
theorem d_Resolver_meetNegation_29 : decode b_Resolver_meetNegation 29 = .ok (.invokevirtual 97, 3) := by decide +kernel
theorem d_Resolver_meetNegation_32 : decode b_Resolver_meetNegation 32 = .ok (.iload_n 1, 1) := by decide +kernel
theorem d_Resolver_meetNegation_33 : decode b_Resolver_meetNegation 33 = .ok (.invokevirtual 144, 3) := by decide +kernel
theorem d_Resolver_meetNegation_36 : decode b_Resolver_meetNegation 36 = .ok (.goto 8, 3) := by decide +kernel
theorem d_Resolver_meetNegation_39 : decode b_Resolver_meetNegation 39 = .ok (.aload_n 0, 1) := by decide +kernel
theorem d_Resolver_meetNegation_40 : decode b_Resolver_meetNegation 40 = .ok (.iload_n 1, 1) := by decide +kernel
theorem d_Resolver_meetNegation_41 : decode b_Resolver_meetNegation 41 = .ok (.invokevirtual 147, 3) := by decide +kernel
theorem d_Resolver_meetNegation_44 : decode b_Resolver_meetNegation 44 = .ok (.return_, 1) := by decide +kernel
theorem hg_Resolver_meetNegation : fx_mw fx_g "FixityTrees$Resolver" y_Resolver_meetNegation b_Resolver_meetNegation 2 none := ⟨fx_in 661 (by decide +kernel) (by decide +kernel), fx_inp 24 (by decide +kernel) (by decide +kernel), fx_in 5 (by decide +kernel) (by decide +kernel), fx_in 662 (by decide +kernel) (by decide +kernel)⟩
abbrev b_Resolver_meetClose : ByteArray := prog_4_method_12_code
abbrev y_Resolver_meetClose : MethodName := ⟨"FixityTrees$Resolver", "meetClose", "(I)V"⟩
theorem d_Resolver_meetClose_0 : decode b_Resolver_meetClose 0 = .ok (.aload_n 0, 1) := by decide +kernel
theorem d_Resolver_meetClose_1 : decode b_Resolver_meetClose 1 = .ok (.getfield 40, 3) := by decide +kernel
theorem d_Resolver_meetClose_4 : decode b_Resolver_meetClose 4 = .ok (.iload_n 1, 1) := by decide +kernel
theorem d_Resolver_meetClose_5 : decode b_Resolver_meetClose 5 = .ok (.iconst 1, 1) := by decide +kernel
theorem d_Resolver_meetClose_6 : decode b_Resolver_meetClose 6 = .ok (.isub, 1) := by decide +kernel
theorem d_Resolver_meetClose_7 : decode b_Resolver_meetClose 7 = .ok (.invokevirtual 116, 3) := by decide +kernel
theorem d_Resolver_meetClose_10 : decode b_Resolver_meetClose 10 = .ok (.iconst 3, 1) := by decide +kernel
theorem d_Resolver_meetClose_11 : decode b_Resolver_meetClose 11 = .ok (.if_icmp .ne 40, 3) := by decide +kernel
theorem d_Resolver_meetClose_14 : decode b_Resolver_meetClose 14 = .ok (.aload_n 0, 1) := by decide +kernel
theorem d_Resolver_meetClose_15 : decode b_Resolver_meetClose 15 = .ok (.getfield 12, 3) := by decide +kernel
theorem d_Resolver_meetClose_18 : decode b_Resolver_meetClose 18 = .ok (.invokevirtual 107, 3) := by decide +kernel
theorem d_Resolver_meetClose_21 : decode b_Resolver_meetClose 21 = .ok (.istore_n 2, 1) := by decide +kernel
theorem d_Resolver_meetClose_22 : decode b_Resolver_meetClose 22 = .ok (.aload_n 0, 1) := by decide +kernel
theorem d_Resolver_meetClose_23 : decode b_Resolver_meetClose 23 = .ok (.invokevirtual 137, 3) := by decide +kernel
theorem d_Resolver_meetClose_26 : decode b_Resolver_meetClose 26 = .ok (.ifCond .eq 17, 3) := by decide +kernel
theorem d_Resolver_meetClose_29 : decode b_Resolver_meetClose 29 = .ok (.aload_n 0, 1) := by decide +kernel
theorem d_Resolver_meetClose_30 : decode b_Resolver_meetClose 30 = .ok (.iconst 3, 1) := by decide +kernel
theorem d_Resolver_meetClose_31 : decode b_Resolver_meetClose 31 = .ok (.aload_n 0, 1) := by decide +kernel
theorem d_Resolver_meetClose_32 : decode b_Resolver_meetClose 32 = .ok (.getfield 12, 3) := by decide +kernel
theorem d_Resolver_meetClose_35 : decode b_Resolver_meetClose 35 = .ok (.invokevirtual 97, 3) := by decide +kernel
theorem d_Resolver_meetClose_38 : decode b_Resolver_meetClose 38 = .ok (.iload_n 2, 1) := by decide +kernel
theorem d_Resolver_meetClose_39 : decode b_Resolver_meetClose 39 = .ok (.invokevirtual 144, 3) := by decide +kernel
theorem d_Resolver_meetClose_42 : decode b_Resolver_meetClose 42 = .ok (.return_, 1) := by decide +kernel
theorem d_Resolver_meetClose_43 : decode b_Resolver_meetClose 43 = .ok (.aload_n 0, 1) := by decide +kernel
theorem d_Resolver_meetClose_44 : decode b_Resolver_meetClose 44 = .ok (.getfield 12, 3) := by decide +kernel
theorem d_Resolver_meetClose_47 : decode b_Resolver_meetClose 47 = .ok (.iload_n 2, 1) := by decide +kernel
theorem d_Resolver_meetClose_48 : decode b_Resolver_meetClose 48 = .ok (.invokevirtual 85, 3) := by decide +kernel
theorem d_Resolver_meetClose_51 : decode b_Resolver_meetClose 51 = .ok (.aload_n 0, 1) := by decide +kernel
theorem d_Resolver_meetClose_52 : decode b_Resolver_meetClose 52 = .ok (.invokevirtual 91, 3) := by decide +kernel
theorem d_Resolver_meetClose_55 : decode b_Resolver_meetClose 55 = .ok (.return_, 1) := by decide +kernel
theorem hg_Resolver_meetClose : fx_mw fx_g "FixityTrees$Resolver" y_Resolver_meetClose b_Resolver_meetClose 3 none := ⟨fx_in 665 (by decide +kernel) (by decide +kernel), fx_inp 25 (by decide +kernel) (by decide +kernel), fx_in 5 (by decide +kernel) (by decide +kernel), fx_in 666 (by decide +kernel) (by decide +kernel)⟩
abbrev b_Resolver_run : ByteArray := prog_4_method_6_code
abbrev y_Resolver_run : MethodName := ⟨"FixityTrees$Resolver", "run", "()V"⟩
theorem d_Resolver_run_0 : decode b_Resolver_run 0 = .ok (.aload_n 0, 1) := by decide +kernel
theorem d_Resolver_run_1 : decode b_Resolver_run 1 = .ok (.invokevirtual 61, 3) := by decide +kernel
theorem d_Resolver_run_4 : decode b_Resolver_run 4 = .ok (.iconst 0, 1) := by decide +kernel
theorem d_Resolver_run_5 : decode b_Resolver_run 5 = .ok (.istore_n 1, 1) := by decide +kernel
theorem d_Resolver_run_6 : decode b_Resolver_run 6 = .ok (.iload_n 1, 1) := by decide +kernel
theorem d_Resolver_run_7 : decode b_Resolver_run 7 = .ok (.aload_n 0, 1) := by decide +kernel
theorem d_Resolver_run_8 : decode b_Resolver_run 8 = .ok (.getfield 40, 3) := by decide +kernel
theorem d_Resolver_run_11 : decode b_Resolver_run 11 = .ok (.invokevirtual 64, 3) := by decide +kernel
theorem d_Resolver_run_14 : decode b_Resolver_run 14 = .ok (.if_icmp .ge 109, 3) := by decide +kernel
theorem d_Resolver_run_17 : decode b_Resolver_run 17 = .ok (.aload_n 0, 1) := by decide +kernel
theorem d_Resolver_run_18 : decode b_Resolver_run 18 = .ok (.getfield 52, 3) := by decide +kernel
theorem d_Resolver_run_21 : decode b_Resolver_run 21 = .ok (.iconst (-1), 1) := by decide +kernel
theorem d_Resolver_run_22 : decode b_Resolver_run 22 = .ok (.if_icmp .ne 101, 3) := by decide +kernel
theorem d_Resolver_run_25 : decode b_Resolver_run 25 = .ok (.aload_n 0, 1) := by decide +kernel
theorem d_Resolver_run_26 : decode b_Resolver_run 26 = .ok (.getfield 40, 3) := by decide +kernel
theorem d_Resolver_run_29 : decode b_Resolver_run 29 = .ok (.iload_n 1, 1) := by decide +kernel
theorem d_Resolver_run_30 : decode b_Resolver_run 30 = .ok (.invokevirtual 70, 3) := by decide +kernel
theorem d_Resolver_run_33 : decode b_Resolver_run 33 = .ok (.tableswitch 84 0 4 #[35, 43, 51, 59, 76], 35) := by decide +kernel
theorem d_Resolver_run_68 : decode b_Resolver_run 68 = .ok (.aload_n 0, 1) := by decide +kernel
theorem d_Resolver_run_69 : decode b_Resolver_run 69 = .ok (.iload_n 1, 1) := by decide +kernel
theorem d_Resolver_run_70 : decode b_Resolver_run 70 = .ok (.invokevirtual 74, 3) := by decide +kernel
theorem d_Resolver_run_73 : decode b_Resolver_run 73 = .ok (.goto 44, 3) := by decide +kernel
theorem d_Resolver_run_76 : decode b_Resolver_run 76 = .ok (.aload_n 0, 1) := by decide +kernel
theorem d_Resolver_run_77 : decode b_Resolver_run 77 = .ok (.iload_n 1, 1) := by decide +kernel
theorem d_Resolver_run_78 : decode b_Resolver_run 78 = .ok (.invokevirtual 78, 3) := by decide +kernel
theorem d_Resolver_run_81 : decode b_Resolver_run 81 = .ok (.goto 36, 3) := by decide +kernel
theorem d_Resolver_run_84 : decode b_Resolver_run 84 = .ok (.aload_n 0, 1) := by decide +kernel
theorem d_Resolver_run_85 : decode b_Resolver_run 85 = .ok (.iload_n 1, 1) := by decide +kernel
theorem d_Resolver_run_86 : decode b_Resolver_run 86 = .ok (.invokevirtual 81, 3) := by decide +kernel
theorem d_Resolver_run_89 : decode b_Resolver_run 89 = .ok (.goto 28, 3) := by decide +kernel
theorem d_Resolver_run_92 : decode b_Resolver_run 92 = .ok (.aload_n 0, 1) := by decide +kernel
theorem d_Resolver_run_93 : decode b_Resolver_run 93 = .ok (.getfield 18, 3) := by decide +kernel
theorem d_Resolver_run_96 : decode b_Resolver_run 96 = .ok (.aload_n 0, 1) := by decide +kernel
theorem d_Resolver_run_97 : decode b_Resolver_run 97 = .ok (.getfield 12, 3) := by decide +kernel
theorem d_Resolver_run_100 : decode b_Resolver_run 100 = .ok (.invokevirtual 84, 3) := by decide +kernel
theorem d_Resolver_run_103 : decode b_Resolver_run 103 = .ok (.invokevirtual 85, 3) := by decide +kernel
theorem d_Resolver_run_106 : decode b_Resolver_run 106 = .ok (.goto 11, 3) := by decide +kernel
theorem d_Resolver_run_109 : decode b_Resolver_run 109 = .ok (.aload_n 0, 1) := by decide +kernel
theorem d_Resolver_run_110 : decode b_Resolver_run 110 = .ok (.iload_n 1, 1) := by decide +kernel
theorem d_Resolver_run_111 : decode b_Resolver_run 111 = .ok (.invokevirtual 88, 3) := by decide +kernel
theorem d_Resolver_run_114 : decode b_Resolver_run 114 = .ok (.goto 3, 3) := by decide +kernel
theorem d_Resolver_run_117 : decode b_Resolver_run 117 = .ok (.iinc 1 1, 3) := by decide +kernel
theorem d_Resolver_run_120 : decode b_Resolver_run 120 = .ok (.goto (-114), 3) := by decide +kernel
theorem d_Resolver_run_123 : decode b_Resolver_run 123 = .ok (.aload_n 0, 1) := by decide +kernel
theorem d_Resolver_run_124 : decode b_Resolver_run 124 = .ok (.getfield 52, 3) := by decide +kernel
theorem d_Resolver_run_127 : decode b_Resolver_run 127 = .ok (.iconst (-1), 1) := by decide +kernel
theorem d_Resolver_run_128 : decode b_Resolver_run 128 = .ok (.if_icmp .ne 7, 3) := by decide +kernel
theorem d_Resolver_run_131 : decode b_Resolver_run 131 = .ok (.aload_n 0, 1) := by decide +kernel
theorem d_Resolver_run_132 : decode b_Resolver_run 132 = .ok (.invokevirtual 91, 3) := by decide +kernel
theorem d_Resolver_run_135 : decode b_Resolver_run 135 = .ok (.return_, 1) := by decide +kernel
theorem hg_Resolver_run : fx_mw fx_g "FixityTrees$Resolver" y_Resolver_run b_Resolver_run 2 none := ⟨fx_in 563 (by decide +kernel) (by decide +kernel), fx_in 564 (by decide +kernel) (by decide +kernel), fx_in 5 (by decide +kernel) (by decide +kernel), fx_in 565 (by decide +kernel) (by decide +kernel)⟩
abbrev b_Resolver_clashKind : ByteArray := prog_4_method_3_code
abbrev y_Resolver_clashKind : MethodName := ⟨"FixityTrees$Resolver", "clashKind", "()I"⟩
theorem d_Resolver_clashKind_0 : decode b_Resolver_clashKind 0 = .ok (.aload_n 0, 1) := by decide +kernel
theorem d_Resolver_clashKind_1 : decode b_Resolver_clashKind 1 = .ok (.getfield 52, 3) := by decide +kernel
theorem d_Resolver_clashKind_4 : decode b_Resolver_clashKind 4 = .ok (.ireturn, 1) := by decide +kernel
theorem hg_Resolver_clashKind : fx_mw fx_g "FixityTrees$Resolver" y_Resolver_clashKind b_Resolver_clashKind 1 (some .int) := ⟨fx_in 672 (by decide +kernel) (by decide +kernel), fx_in 673 (by decide +kernel) (by decide +kernel), fx_in 5 (by decide +kernel) (by decide +kernel), fx_in 674 (by decide +kernel) (by decide +kernel)⟩
abbrev b_Resolver_clashWaiting : ByteArray := prog_4_method_4_code
abbrev y_Resolver_clashWaiting : MethodName := ⟨"FixityTrees$Resolver", "clashWaiting", "()I"⟩
theorem d_Resolver_clashWaiting_0 : decode b_Resolver_clashWaiting 0 = .ok (.aload_n 0, 1) := by decide +kernel
theorem d_Resolver_clashWaiting_1 : decode b_Resolver_clashWaiting 1 = .ok (.getfield 55, 3) := by decide +kernel
theorem d_Resolver_clashWaiting_4 : decode b_Resolver_clashWaiting 4 = .ok (.ireturn, 1) := by decide +kernel
theorem hg_Resolver_clashWaiting : fx_mw fx_g "FixityTrees$Resolver" y_Resolver_clashWaiting b_Resolver_clashWaiting 1 (some .int) := ⟨fx_in 676 (by decide +kernel) (by decide +kernel), fx_in 677 (by decide +kernel) (by decide +kernel), fx_in 5 (by decide +kernel) (by decide +kernel), fx_in 678 (by decide +kernel) (by decide +kernel)⟩
abbrev b_Resolver_clashOther : ByteArray := prog_4_method_5_code
abbrev y_Resolver_clashOther : MethodName := ⟨"FixityTrees$Resolver", "clashOther", "()I"⟩
theorem d_Resolver_clashOther_0 : decode b_Resolver_clashOther 0 = .ok (.aload_n 0, 1) := by decide +kernel
theorem d_Resolver_clashOther_1 : decode b_Resolver_clashOther 1 = .ok (.getfield 58, 3) := by decide +kernel
theorem d_Resolver_clashOther_4 : decode b_Resolver_clashOther 4 = .ok (.ireturn, 1) := by decide +kernel
theorem hg_Resolver_clashOther : fx_mw fx_g "FixityTrees$Resolver" y_Resolver_clashOther b_Resolver_clashOther 1 (some .int) := ⟨fx_in 680 (by decide +kernel) (by decide +kernel), fx_in 681 (by decide +kernel) (by decide +kernel), fx_in 5 (by decide +kernel) (by decide +kernel), fx_in 682 (by decide +kernel) (by decide +kernel)⟩
abbrev b_Tree_clear : ByteArray := prog_7_method_2_code
abbrev y_Tree_clear : MethodName := ⟨"FixityTrees$Tree", "clear", "()V"⟩
theorem d_Tree_clear_0 : decode b_Tree_clear 0 = .ok (.aload_n 0, 1) := by decide +kernel
theorem d_Tree_clear_1 : decode b_Tree_clear 1 = .ok (.iconst 0, 1) := by decide +kernel
theorem d_Tree_clear_2 : decode b_Tree_clear 2 = .ok (.putfield 31, 3) := by decide +kernel
theorem d_Tree_clear_5 : decode b_Tree_clear 5 = .ok (.aload_n 0, 1) := by decide +kernel
theorem d_Tree_clear_6 : decode b_Tree_clear 6 = .ok (.iconst 0, 1) := by decide +kernel
theorem d_Tree_clear_7 : decode b_Tree_clear 7 = .ok (.putfield 35, 3) := by decide +kernel
theorem d_Tree_clear_10 : decode b_Tree_clear 10 = .ok (.return_, 1) := by decide +kernel
theorem hg_Tree_clear : fx_mw fx_g "FixityTrees$Tree" y_Tree_clear b_Tree_clear 1 none := ⟨fx_in 684 (by decide +kernel) (by decide +kernel), fx_in 685 (by decide +kernel) (by decide +kernel), fx_in 7 (by decide +kernel) (by decide +kernel), fx_in 686 (by decide +kernel) (by decide +kernel)⟩
abbrev b_Tree_setHeight : ByteArray := prog_7_method_5_code
abbrev y_Tree_setHeight : MethodName := ⟨"FixityTrees$Tree", "setHeight", "(I)V"⟩
theorem d_Tree_setHeight_0 : decode b_Tree_setHeight 0 = .ok (.aload_n 0, 1) := by decide +kernel
theorem d_Tree_setHeight_1 : decode b_Tree_setHeight 1 = .ok (.iload_n 1, 1) := by decide +kernel
theorem d_Tree_setHeight_2 : decode b_Tree_setHeight 2 = .ok (.putfield 35, 3) := by decide +kernel
theorem d_Tree_setHeight_5 : decode b_Tree_setHeight 5 = .ok (.return_, 1) := by decide +kernel
theorem hg_Tree_setHeight : fx_mw fx_g "FixityTrees$Tree" y_Tree_setHeight b_Tree_setHeight 2 none := ⟨fx_in 693 (by decide +kernel) (by decide +kernel), fx_in 694 (by decide +kernel) (by decide +kernel), fx_in 7 (by decide +kernel) (by decide +kernel), fx_in 695 (by decide +kernel) (by decide +kernel)⟩
abbrev b_Resolver_firstOf : ByteArray := prog_4_method_20_code
abbrev y_Resolver_firstOf : MethodName := ⟨"FixityTrees$Resolver", "firstOf", "(I)I"⟩
theorem d_Resolver_firstOf_0 : decode b_Resolver_firstOf 0 = .ok (.iload_n 1, 1) := by decide +kernel
theorem d_Resolver_firstOf_1 : decode b_Resolver_firstOf 1 = .ok (.invokestatic 160, 3) := by decide +kernel
theorem d_Resolver_firstOf_4 : decode b_Resolver_firstOf 4 = .ok (.ifCond .eq 12, 3) := by decide +kernel
theorem d_Resolver_firstOf_7 : decode b_Resolver_firstOf 7 = .ok (.aload_n 0, 1) := by decide +kernel
theorem d_Resolver_firstOf_8 : decode b_Resolver_firstOf 8 = .ok (.getfield 27, 3) := by decide +kernel
theorem d_Resolver_firstOf_11 : decode b_Resolver_firstOf 11 = .ok (.iload_n 1, 1) := by decide +kernel
theorem d_Resolver_firstOf_12 : decode b_Resolver_firstOf 12 = .ok (.iaload, 1) := by decide +kernel
theorem d_Resolver_firstOf_13 : decode b_Resolver_firstOf 13 = .ok (.goto 4, 3) := by decide +kernel
theorem d_Resolver_firstOf_16 : decode b_Resolver_firstOf 16 = .ok (.iconst (-1), 1) := by decide +kernel
theorem d_Resolver_firstOf_17 : decode b_Resolver_firstOf 17 = .ok (.ireturn, 1) := by decide +kernel
theorem hg_Resolver_firstOf : fx_mw fx_g "FixityTrees$Resolver" y_Resolver_firstOf b_Resolver_firstOf 2 (some .int) := ⟨fx_in 698 (by decide +kernel) (by decide +kernel), fx_inp 27 (by decide +kernel) (by decide +kernel), fx_in 5 (by decide +kernel) (by decide +kernel), fx_in 699 (by decide +kernel) (by decide +kernel)⟩
abbrev b_Resolver_secondOf : ByteArray := prog_4_method_21_code
abbrev y_Resolver_secondOf : MethodName := ⟨"FixityTrees$Resolver", "secondOf", "(I)I"⟩
theorem d_Resolver_secondOf_0 : decode b_Resolver_secondOf 0 = .ok (.iload_n 1, 1) := by decide +kernel
theorem d_Resolver_secondOf_1 : decode b_Resolver_secondOf 1 = .ok (.invokestatic 160, 3) := by decide +kernel
theorem d_Resolver_secondOf_4 : decode b_Resolver_secondOf 4 = .ok (.ifCond .eq 12, 3) := by decide +kernel
theorem d_Resolver_secondOf_7 : decode b_Resolver_secondOf 7 = .ok (.aload_n 0, 1) := by decide +kernel
theorem d_Resolver_secondOf_8 : decode b_Resolver_secondOf 8 = .ok (.getfield 31, 3) := by decide +kernel
theorem d_Resolver_secondOf_11 : decode b_Resolver_secondOf 11 = .ok (.iload_n 1, 1) := by decide +kernel
theorem d_Resolver_secondOf_12 : decode b_Resolver_secondOf 12 = .ok (.iaload, 1) := by decide +kernel
theorem d_Resolver_secondOf_13 : decode b_Resolver_secondOf 13 = .ok (.goto 4, 3) := by decide +kernel
theorem d_Resolver_secondOf_16 : decode b_Resolver_secondOf 16 = .ok (.iconst (-1), 1) := by decide +kernel
theorem d_Resolver_secondOf_17 : decode b_Resolver_secondOf 17 = .ok (.ireturn, 1) := by decide +kernel
theorem hg_Resolver_secondOf : fx_mw fx_g "FixityTrees$Resolver" y_Resolver_secondOf b_Resolver_secondOf 2 (some .int) := ⟨fx_in 702 (by decide +kernel) (by decide +kernel), fx_inp 28 (by decide +kernel) (by decide +kernel), fx_in 5 (by decide +kernel) (by decide +kernel), fx_in 703 (by decide +kernel) (by decide +kernel)⟩
abbrev b_Row_numberAt : ByteArray := prog_5_method_9_code
abbrev y_Row_numberAt : MethodName := ⟨"FixityTrees$Row", "numberAt", "(I)J"⟩
theorem d_Row_numberAt_0 : decode b_Row_numberAt 0 = .ok (.aload_n 0, 1) := by decide +kernel
theorem d_Row_numberAt_1 : decode b_Row_numberAt 1 = .ok (.iload_n 1, 1) := by decide +kernel
theorem d_Row_numberAt_2 : decode b_Row_numberAt 2 = .ok (.invokevirtual 40, 3) := by decide +kernel
theorem d_Row_numberAt_5 : decode b_Row_numberAt 5 = .ok (.ifCond .eq 12, 3) := by decide +kernel
theorem d_Row_numberAt_8 : decode b_Row_numberAt 8 = .ok (.aload_n 0, 1) := by decide +kernel
theorem d_Row_numberAt_9 : decode b_Row_numberAt 9 = .ok (.getfield 21, 3) := by decide +kernel
theorem d_Row_numberAt_12 : decode b_Row_numberAt 12 = .ok (.iload_n 1, 1) := by decide +kernel
theorem d_Row_numberAt_13 : decode b_Row_numberAt 13 = .ok (.laload, 1) := by decide +kernel
theorem d_Row_numberAt_14 : decode b_Row_numberAt 14 = .ok (.goto 4, 3) := by decide +kernel
theorem d_Row_numberAt_17 : decode b_Row_numberAt 17 = .ok (.lconst 0, 1) := by decide +kernel
theorem d_Row_numberAt_18 : decode b_Row_numberAt 18 = .ok (.lreturn, 1) := by decide +kernel
theorem hg_Row_numberAt : fx_mw fx_g "FixityTrees$Row" y_Row_numberAt b_Row_numberAt 2 (some .long) := ⟨fx_in 705 (by decide +kernel) (by decide +kernel), fx_in 706 (by decide +kernel) (by decide +kernel), fx_in 4 (by decide +kernel) (by decide +kernel), fx_in 707 (by decide +kernel) (by decide +kernel)⟩
abbrev b_Tree_add : ByteArray := prog_7_method_3_code
abbrev y_Tree_add : MethodName := ⟨"FixityTrees$Tree", "add", "(IIJI)V"⟩
theorem d_Tree_add_0 : decode b_Tree_add 0 = .ok (.aload_n 0, 1) := by decide +kernel
theorem d_Tree_add_1 : decode b_Tree_add 1 = .ok (.getfield 31, 3) := by decide +kernel
theorem d_Tree_add_4 : decode b_Tree_add 4 = .ok (.sipush 200, 3) := by decide +kernel
theorem d_Tree_add_7 : decode b_Tree_add 7 = .ok (.if_icmp .ge 74, 3) := by decide +kernel
theorem d_Tree_add_10 : decode b_Tree_add 10 = .ok (.aload_n 0, 1) := by decide +kernel
theorem d_Tree_add_11 : decode b_Tree_add 11 = .ok (.getfield 9, 3) := by decide +kernel
theorem d_Tree_add_14 : decode b_Tree_add 14 = .ok (.aload_n 0, 1) := by decide +kernel
theorem d_Tree_add_15 : decode b_Tree_add 15 = .ok (.getfield 31, 3) := by decide +kernel
theorem d_Tree_add_18 : decode b_Tree_add 18 = .ok (.iload_n 1, 1) := by decide +kernel
theorem d_Tree_add_19 : decode b_Tree_add 19 = .ok (.iastore, 1) := by decide +kernel
theorem d_Tree_add_20 : decode b_Tree_add 20 = .ok (.aload_n 0, 1) := by decide +kernel
theorem d_Tree_add_21 : decode b_Tree_add 21 = .ok (.getfield 15, 3) := by decide +kernel
theorem d_Tree_add_24 : decode b_Tree_add 24 = .ok (.aload_n 0, 1) := by decide +kernel
theorem d_Tree_add_25 : decode b_Tree_add 25 = .ok (.getfield 31, 3) := by decide +kernel
theorem d_Tree_add_28 : decode b_Tree_add 28 = .ok (.iload_n 2, 1) := by decide +kernel
theorem d_Tree_add_29 : decode b_Tree_add 29 = .ok (.iastore, 1) := by decide +kernel
theorem d_Tree_add_30 : decode b_Tree_add 30 = .ok (.aload_n 0, 1) := by decide +kernel
theorem d_Tree_add_31 : decode b_Tree_add 31 = .ok (.getfield 27, 3) := by decide +kernel
theorem d_Tree_add_34 : decode b_Tree_add 34 = .ok (.aload_n 0, 1) := by decide +kernel
theorem d_Tree_add_35 : decode b_Tree_add 35 = .ok (.getfield 31, 3) := by decide +kernel
theorem d_Tree_add_38 : decode b_Tree_add 38 = .ok (.lload_n 3, 1) := by decide +kernel
theorem d_Tree_add_39 : decode b_Tree_add 39 = .ok (.lastore, 1) := by decide +kernel
theorem d_Tree_add_40 : decode b_Tree_add 40 = .ok (.aload_n 0, 1) := by decide +kernel
theorem d_Tree_add_41 : decode b_Tree_add 41 = .ok (.getfield 24, 3) := by decide +kernel
theorem d_Tree_add_44 : decode b_Tree_add 44 = .ok (.aload_n 0, 1) := by decide +kernel
theorem d_Tree_add_45 : decode b_Tree_add 45 = .ok (.getfield 31, 3) := by decide +kernel
theorem d_Tree_add_48 : decode b_Tree_add 48 = .ok (.iload 5, 2) := by decide +kernel
theorem d_Tree_add_50 : decode b_Tree_add 50 = .ok (.iastore, 1) := by decide +kernel
theorem d_Tree_add_51 : decode b_Tree_add 51 = .ok (.aload_n 0, 1) := by decide +kernel
theorem d_Tree_add_52 : decode b_Tree_add 52 = .ok (.getfield 18, 3) := by decide +kernel
theorem d_Tree_add_55 : decode b_Tree_add 55 = .ok (.aload_n 0, 1) := by decide +kernel
theorem d_Tree_add_56 : decode b_Tree_add 56 = .ok (.getfield 31, 3) := by decide +kernel
theorem d_Tree_add_59 : decode b_Tree_add 59 = .ok (.iconst (-1), 1) := by decide +kernel
theorem d_Tree_add_60 : decode b_Tree_add 60 = .ok (.iastore, 1) := by decide +kernel
theorem d_Tree_add_61 : decode b_Tree_add 61 = .ok (.aload_n 0, 1) := by decide +kernel
theorem d_Tree_add_62 : decode b_Tree_add 62 = .ok (.getfield 21, 3) := by decide +kernel
theorem d_Tree_add_65 : decode b_Tree_add 65 = .ok (.aload_n 0, 1) := by decide +kernel
theorem d_Tree_add_66 : decode b_Tree_add 66 = .ok (.getfield 31, 3) := by decide +kernel
theorem d_Tree_add_69 : decode b_Tree_add 69 = .ok (.iconst (-1), 1) := by decide +kernel
theorem d_Tree_add_70 : decode b_Tree_add 70 = .ok (.iastore, 1) := by decide +kernel
theorem d_Tree_add_71 : decode b_Tree_add 71 = .ok (.aload_n 0, 1) := by decide +kernel
theorem d_Tree_add_72 : decode b_Tree_add 72 = .ok (.dup, 1) := by decide +kernel
theorem d_Tree_add_73 : decode b_Tree_add 73 = .ok (.getfield 31, 3) := by decide +kernel
theorem d_Tree_add_76 : decode b_Tree_add 76 = .ok (.iconst 1, 1) := by decide +kernel
theorem d_Tree_add_77 : decode b_Tree_add 77 = .ok (.iadd, 1) := by decide +kernel
theorem d_Tree_add_78 : decode b_Tree_add 78 = .ok (.putfield 31, 3) := by decide +kernel
theorem d_Tree_add_81 : decode b_Tree_add 81 = .ok (.return_, 1) := by decide +kernel
theorem hg_Tree_add : fx_mw fx_g "FixityTrees$Tree" y_Tree_add b_Tree_add 6 none := ⟨fx_in 709 (by decide +kernel) (by decide +kernel), fx_in 710 (by decide +kernel) (by decide +kernel), fx_in 7 (by decide +kernel) (by decide +kernel), fx_in 711 (by decide +kernel) (by decide +kernel)⟩
abbrev b_Tree_has : ByteArray := prog_7_method_8_code
abbrev y_Tree_has : MethodName := ⟨"FixityTrees$Tree", "has", "(I)Z"⟩
theorem d_Tree_has_0 : decode b_Tree_has 0 = .ok (.iload_n 1, 1) := by decide +kernel
theorem d_Tree_has_1 : decode b_Tree_has 1 = .ok (.ifCond .lt 22, 3) := by decide +kernel
theorem d_Tree_has_4 : decode b_Tree_has 4 = .ok (.iload_n 1, 1) := by decide +kernel
theorem d_Tree_has_5 : decode b_Tree_has 5 = .ok (.aload_n 0, 1) := by decide +kernel
theorem d_Tree_has_6 : decode b_Tree_has 6 = .ok (.getfield 31, 3) := by decide +kernel
theorem d_Tree_has_9 : decode b_Tree_has 9 = .ok (.if_icmp .ge 14, 3) := by decide +kernel
theorem d_Tree_has_12 : decode b_Tree_has 12 = .ok (.iload_n 1, 1) := by decide +kernel
theorem d_Tree_has_13 : decode b_Tree_has 13 = .ok (.sipush 200, 3) := by decide +kernel
theorem d_Tree_has_16 : decode b_Tree_has 16 = .ok (.if_icmp .ge 7, 3) := by decide +kernel
theorem d_Tree_has_19 : decode b_Tree_has 19 = .ok (.iconst 1, 1) := by decide +kernel
theorem d_Tree_has_20 : decode b_Tree_has 20 = .ok (.goto 4, 3) := by decide +kernel
theorem d_Tree_has_23 : decode b_Tree_has 23 = .ok (.iconst 0, 1) := by decide +kernel
theorem d_Tree_has_24 : decode b_Tree_has 24 = .ok (.ireturn, 1) := by decide +kernel
theorem hg_Tree_has : fx_mw fx_g "FixityTrees$Tree" y_Tree_has b_Tree_has 2 (some .boolean) := ⟨fx_in 717 (by decide +kernel) (by decide +kernel), fx_in 718 (by decide +kernel) (by decide +kernel), fx_in 7 (by decide +kernel) (by decide +kernel), fx_in 719 (by decide +kernel) (by decide +kernel)⟩
abbrev b_Tree_join : ByteArray := prog_7_method_4_code
abbrev y_Tree_join : MethodName := ⟨"FixityTrees$Tree", "join", "(III)V"⟩
theorem d_Tree_join_0 : decode b_Tree_join 0 = .ok (.aload_n 0, 1) := by decide +kernel
theorem d_Tree_join_1 : decode b_Tree_join 1 = .ok (.iload_n 1, 1) := by decide +kernel
theorem d_Tree_join_2 : decode b_Tree_join 2 = .ok (.invokevirtual 38, 3) := by decide +kernel
theorem d_Tree_join_5 : decode b_Tree_join 5 = .ok (.ifCond .eq 17, 3) := by decide +kernel
theorem d_Tree_join_8 : decode b_Tree_join 8 = .ok (.aload_n 0, 1) := by decide +kernel
theorem d_Tree_join_9 : decode b_Tree_join 9 = .ok (.getfield 18, 3) := by decide +kernel
theorem d_Tree_join_12 : decode b_Tree_join 12 = .ok (.iload_n 1, 1) := by decide +kernel
theorem d_Tree_join_13 : decode b_Tree_join 13 = .ok (.iload_n 2, 1) := by decide +kernel
theorem d_Tree_join_14 : decode b_Tree_join 14 = .ok (.iastore, 1) := by decide +kernel
theorem d_Tree_join_15 : decode b_Tree_join 15 = .ok (.aload_n 0, 1) := by decide +kernel
theorem d_Tree_join_16 : decode b_Tree_join 16 = .ok (.getfield 21, 3) := by decide +kernel
theorem d_Tree_join_19 : decode b_Tree_join 19 = .ok (.iload_n 1, 1) := by decide +kernel
theorem d_Tree_join_20 : decode b_Tree_join 20 = .ok (.iload_n 3, 1) := by decide +kernel
theorem d_Tree_join_21 : decode b_Tree_join 21 = .ok (.iastore, 1) := by decide +kernel
theorem d_Tree_join_22 : decode b_Tree_join 22 = .ok (.return_, 1) := by decide +kernel
theorem hg_Tree_join : fx_mw fx_g "FixityTrees$Tree" y_Tree_join b_Tree_join 4 none := ⟨fx_in 713 (by decide +kernel) (by decide +kernel), fx_in 714 (by decide +kernel) (by decide +kernel), fx_in 7 (by decide +kernel) (by decide +kernel), fx_in 715 (by decide +kernel) (by decide +kernel)⟩
abbrev b_Resolver_numberInto : ByteArray := prog_4_method_7_code
abbrev y_Resolver_numberInto : MethodName := ⟨"FixityTrees$Resolver", "numberInto", "(LFixityTrees$Tree;)V"⟩
theorem d_Resolver_numberInto_0 : decode b_Resolver_numberInto 0 = .ok (.aload_n 1, 1) := by decide +kernel
theorem d_Resolver_numberInto_1 : decode b_Resolver_numberInto 1 = .ok (.invokevirtual 94, 3) := by decide +kernel
theorem d_Resolver_numberInto_4 : decode b_Resolver_numberInto 4 = .ok (.aload_n 0, 1) := by decide +kernel
theorem d_Resolver_numberInto_5 : decode b_Resolver_numberInto 5 = .ok (.getfield 21, 3) := by decide +kernel
theorem d_Resolver_numberInto_8 : decode b_Resolver_numberInto 8 = .ok (.invokevirtual 97, 3) := by decide +kernel
theorem d_Resolver_numberInto_11 : decode b_Resolver_numberInto 11 = .ok (.istore_n 2, 1) := by decide +kernel
theorem d_Resolver_numberInto_12 : decode b_Resolver_numberInto 12 = .ok (.aload_n 1, 1) := by decide +kernel
theorem d_Resolver_numberInto_13 : decode b_Resolver_numberInto 13 = .ok (.aload_n 0, 1) := by decide +kernel
theorem d_Resolver_numberInto_14 : decode b_Resolver_numberInto 14 = .ok (.iload_n 2, 1) := by decide +kernel
theorem d_Resolver_numberInto_15 : decode b_Resolver_numberInto 15 = .ok (.invokevirtual 100, 3) := by decide +kernel
theorem d_Resolver_numberInto_18 : decode b_Resolver_numberInto 18 = .ok (.invokevirtual 103, 3) := by decide +kernel
theorem d_Resolver_numberInto_21 : decode b_Resolver_numberInto 21 = .ok (.aload_n 0, 1) := by decide +kernel
theorem d_Resolver_numberInto_22 : decode b_Resolver_numberInto 22 = .ok (.getfield 24, 3) := by decide +kernel
theorem d_Resolver_numberInto_25 : decode b_Resolver_numberInto 25 = .ok (.invokevirtual 106, 3) := by decide +kernel
theorem d_Resolver_numberInto_28 : decode b_Resolver_numberInto 28 = .ok (.aload_n 0, 1) := by decide +kernel
theorem d_Resolver_numberInto_29 : decode b_Resolver_numberInto 29 = .ok (.getfield 24, 3) := by decide +kernel
theorem d_Resolver_numberInto_32 : decode b_Resolver_numberInto 32 = .ok (.iload_n 2, 1) := by decide +kernel
theorem d_Resolver_numberInto_33 : decode b_Resolver_numberInto 33 = .ok (.invokevirtual 85, 3) := by decide +kernel
theorem d_Resolver_numberInto_36 : decode b_Resolver_numberInto 36 = .ok (.iconst 0, 1) := by decide +kernel
theorem d_Resolver_numberInto_37 : decode b_Resolver_numberInto 37 = .ok (.istore_n 3, 1) := by decide +kernel
theorem d_Resolver_numberInto_38 : decode b_Resolver_numberInto 38 = .ok (.iload_n 3, 1) := by decide +kernel
theorem d_Resolver_numberInto_39 : decode b_Resolver_numberInto 39 = .ok (.sipush 200, 3) := by decide +kernel
theorem d_Resolver_numberInto_42 : decode b_Resolver_numberInto 42 = .ok (.if_icmp .ge 145, 3) := by decide +kernel
theorem d_Resolver_numberInto_45 : decode b_Resolver_numberInto 45 = .ok (.aload_n 0, 1) := by decide +kernel
theorem d_Resolver_numberInto_46 : decode b_Resolver_numberInto 46 = .ok (.getfield 24, 3) := by decide +kernel
theorem d_Resolver_numberInto_49 : decode b_Resolver_numberInto 49 = .ok (.invokevirtual 84, 3) := by decide +kernel
theorem d_Resolver_numberInto_52 : decode b_Resolver_numberInto 52 = .ok (.ifCond .le 135, 3) := by decide +kernel
theorem d_Resolver_numberInto_55 : decode b_Resolver_numberInto 55 = .ok (.aload_n 0, 1) := by decide +kernel
theorem d_Resolver_numberInto_56 : decode b_Resolver_numberInto 56 = .ok (.getfield 24, 3) := by decide +kernel
theorem d_Resolver_numberInto_59 : decode b_Resolver_numberInto 59 = .ok (.invokevirtual 107, 3) := by decide +kernel
theorem d_Resolver_numberInto_62 : decode b_Resolver_numberInto 62 = .ok (.istore 4, 2) := by decide +kernel
theorem d_Resolver_numberInto_64 : decode b_Resolver_numberInto 64 = .ok (.aload_n 0, 1) := by decide +kernel
theorem d_Resolver_numberInto_65 : decode b_Resolver_numberInto 65 = .ok (.iload 4, 2) := by decide +kernel
theorem d_Resolver_numberInto_67 : decode b_Resolver_numberInto 67 = .ok (.invokevirtual 110, 3) := by decide +kernel
theorem d_Resolver_numberInto_70 : decode b_Resolver_numberInto 70 = .ok (.istore 5, 2) := by decide +kernel
theorem d_Resolver_numberInto_72 : decode b_Resolver_numberInto 72 = .ok (.aload_n 0, 1) := by decide +kernel
theorem d_Resolver_numberInto_73 : decode b_Resolver_numberInto 73 = .ok (.iload 4, 2) := by decide +kernel
theorem d_Resolver_numberInto_75 : decode b_Resolver_numberInto 75 = .ok (.invokevirtual 113, 3) := by decide +kernel
theorem d_Resolver_numberInto_78 : decode b_Resolver_numberInto 78 = .ok (.istore 6, 2) := by decide +kernel
theorem d_Resolver_numberInto_80 : decode b_Resolver_numberInto 80 = .ok (.aload_n 1, 1) := by decide +kernel
theorem d_Resolver_numberInto_81 : decode b_Resolver_numberInto 81 = .ok (.aload_n 0, 1) := by decide +kernel
theorem d_Resolver_numberInto_82 : decode b_Resolver_numberInto 82 = .ok (.getfield 40, 3) := by decide +kernel
theorem d_Resolver_numberInto_85 : decode b_Resolver_numberInto 85 = .ok (.iload 4, 2) := by decide +kernel
theorem d_Resolver_numberInto_87 : decode b_Resolver_numberInto 87 = .ok (.invokevirtual 116, 3) := by decide +kernel
theorem d_Resolver_numberInto_90 : decode b_Resolver_numberInto 90 = .ok (.aload_n 0, 1) := by decide +kernel
theorem d_Resolver_numberInto_91 : decode b_Resolver_numberInto 91 = .ok (.getfield 40, 3) := by decide +kernel
theorem d_Resolver_numberInto_94 : decode b_Resolver_numberInto 94 = .ok (.iload 4, 2) := by decide +kernel
theorem d_Resolver_numberInto_96 : decode b_Resolver_numberInto 96 = .ok (.invokevirtual 119, 3) := by decide +kernel
theorem d_Resolver_numberInto_99 : decode b_Resolver_numberInto 99 = .ok (.aload_n 0, 1) := by decide +kernel
theorem d_Resolver_numberInto_100 : decode b_Resolver_numberInto 100 = .ok (.getfield 40, 3) := by decide +kernel
theorem d_Resolver_numberInto_103 : decode b_Resolver_numberInto 103 = .ok (.iload 4, 2) := by decide +kernel
theorem d_Resolver_numberInto_105 : decode b_Resolver_numberInto 105 = .ok (.invokevirtual 122, 3) := by decide +kernel
theorem d_Resolver_numberInto_108 : decode b_Resolver_numberInto 108 = .ok (.iload 4, 2) := by decide +kernel
theorem d_Resolver_numberInto_110 : decode b_Resolver_numberInto 110 = .ok (.invokevirtual 126, 3) := by decide +kernel
theorem d_Resolver_numberInto_113 : decode b_Resolver_numberInto 113 = .ok (.aload_n 1, 1) := by decide +kernel
theorem d_Resolver_numberInto_114 : decode b_Resolver_numberInto 114 = .ok (.iload_n 3, 1) := by decide +kernel
theorem d_Resolver_numberInto_115 : decode b_Resolver_numberInto 115 = .ok (.iload 5, 2) := by decide +kernel
theorem d_Resolver_numberInto_117 : decode b_Resolver_numberInto 117 = .ok (.iconst (-1), 1) := by decide +kernel
theorem d_Resolver_numberInto_118 : decode b_Resolver_numberInto 118 = .ok (.if_icmp .ne 7, 3) := by decide +kernel
theorem d_Resolver_numberInto_121 : decode b_Resolver_numberInto 121 = .ok (.iconst (-1), 1) := by decide +kernel
theorem d_Resolver_numberInto_122 : decode b_Resolver_numberInto 122 = .ok (.goto 6, 3) := by decide +kernel
theorem d_Resolver_numberInto_125 : decode b_Resolver_numberInto 125 = .ok (.iload_n 3, 1) := by decide +kernel
theorem d_Resolver_numberInto_126 : decode b_Resolver_numberInto 126 = .ok (.iconst 1, 1) := by decide +kernel
theorem d_Resolver_numberInto_127 : decode b_Resolver_numberInto 127 = .ok (.iadd, 1) := by decide +kernel
theorem d_Resolver_numberInto_128 : decode b_Resolver_numberInto 128 = .ok (.iload 6, 2) := by decide +kernel
theorem d_Resolver_numberInto_130 : decode b_Resolver_numberInto 130 = .ok (.iconst (-1), 1) := by decide +kernel
theorem d_Resolver_numberInto_131 : decode b_Resolver_numberInto 131 = .ok (.if_icmp .ne 7, 3) := by decide +kernel
theorem d_Resolver_numberInto_134 : decode b_Resolver_numberInto 134 = .ok (.iconst (-1), 1) := by decide +kernel
theorem d_Resolver_numberInto_135 : decode b_Resolver_numberInto 135 = .ok (.goto 13, 3) := by decide +kernel
theorem d_Resolver_numberInto_138 : decode b_Resolver_numberInto 138 = .ok (.iload_n 3, 1) := by decide +kernel
theorem d_Resolver_numberInto_139 : decode b_Resolver_numberInto 139 = .ok (.iconst 1, 1) := by decide +kernel
theorem d_Resolver_numberInto_140 : decode b_Resolver_numberInto 140 = .ok (.iadd, 1) := by decide +kernel
theorem d_Resolver_numberInto_141 : decode b_Resolver_numberInto 141 = .ok (.aload_n 0, 1) := by decide +kernel
theorem d_Resolver_numberInto_142 : decode b_Resolver_numberInto 142 = .ok (.iload 5, 2) := by decide +kernel
theorem d_Resolver_numberInto_144 : decode b_Resolver_numberInto 144 = .ok (.invokevirtual 130, 3) := by decide +kernel
theorem d_Resolver_numberInto_147 : decode b_Resolver_numberInto 147 = .ok (.iadd, 1) := by decide +kernel
theorem d_Resolver_numberInto_148 : decode b_Resolver_numberInto 148 = .ok (.invokevirtual 133, 3) := by decide +kernel
theorem d_Resolver_numberInto_151 : decode b_Resolver_numberInto 151 = .ok (.iload 6, 2) := by decide +kernel
theorem d_Resolver_numberInto_153 : decode b_Resolver_numberInto 153 = .ok (.iconst (-1), 1) := by decide +kernel
theorem d_Resolver_numberInto_154 : decode b_Resolver_numberInto 154 = .ok (.if_icmp .eq 12, 3) := by decide +kernel
theorem d_Resolver_numberInto_157 : decode b_Resolver_numberInto 157 = .ok (.aload_n 0, 1) := by decide +kernel
theorem d_Resolver_numberInto_158 : decode b_Resolver_numberInto 158 = .ok (.getfield 24, 3) := by decide +kernel
theorem d_Resolver_numberInto_161 : decode b_Resolver_numberInto 161 = .ok (.iload 6, 2) := by decide +kernel
theorem d_Resolver_numberInto_163 : decode b_Resolver_numberInto 163 = .ok (.invokevirtual 85, 3) := by decide +kernel
theorem d_Resolver_numberInto_166 : decode b_Resolver_numberInto 166 = .ok (.iload 5, 2) := by decide +kernel
theorem d_Resolver_numberInto_168 : decode b_Resolver_numberInto 168 = .ok (.iconst (-1), 1) := by decide +kernel
theorem d_Resolver_numberInto_169 : decode b_Resolver_numberInto 169 = .ok (.if_icmp .eq 12, 3) := by decide +kernel
theorem d_Resolver_numberInto_172 : decode b_Resolver_numberInto 172 = .ok (.aload_n 0, 1) := by decide +kernel
theorem d_Resolver_numberInto_173 : decode b_Resolver_numberInto 173 = .ok (.getfield 24, 3) := by decide +kernel
theorem d_Resolver_numberInto_176 : decode b_Resolver_numberInto 176 = .ok (.iload 5, 2) := by decide +kernel
theorem d_Resolver_numberInto_178 : decode b_Resolver_numberInto 178 = .ok (.invokevirtual 85, 3) := by decide +kernel
theorem d_Resolver_numberInto_181 : decode b_Resolver_numberInto 181 = .ok (.iinc 3 1, 3) := by decide +kernel
theorem d_Resolver_numberInto_184 : decode b_Resolver_numberInto 184 = .ok (.goto (-146), 3) := by decide +kernel
theorem d_Resolver_numberInto_187 : decode b_Resolver_numberInto 187 = .ok (.return_, 1) := by decide +kernel
theorem hg_Resolver_numberInto : fx_mw fx_g "FixityTrees$Resolver" y_Resolver_numberInto b_Resolver_numberInto 7 none := ⟨fx_in 688 (by decide +kernel) (by decide +kernel), fx_in 689 (by decide +kernel) (by decide +kernel), fx_in 5 (by decide +kernel) (by decide +kernel), fx_in 690 (by decide +kernel) (by decide +kernel)⟩
abbrev b_Resolver_mostWaiting : ByteArray := prog_4_method_2_code
abbrev y_Resolver_mostWaiting : MethodName := ⟨"FixityTrees$Resolver", "mostWaiting", "()I"⟩
theorem d_Resolver_mostWaiting_0 : decode b_Resolver_mostWaiting 0 = .ok (.aload_n 0, 1) := by decide +kernel
theorem d_Resolver_mostWaiting_1 : decode b_Resolver_mostWaiting 1 = .ok (.getfield 48, 3) := by decide +kernel
theorem d_Resolver_mostWaiting_4 : decode b_Resolver_mostWaiting 4 = .ok (.ireturn, 1) := by decide +kernel
theorem hg_Resolver_mostWaiting : fx_mw fx_g "FixityTrees$Resolver" y_Resolver_mostWaiting b_Resolver_mostWaiting 1 (some .int) := ⟨fx_in 721 (by decide +kernel) (by decide +kernel), fx_in 722 (by decide +kernel) (by decide +kernel), fx_in 5 (by decide +kernel) (by decide +kernel), fx_in 723 (by decide +kernel) (by decide +kernel)⟩
abbrev b_Tree_size : ByteArray := prog_7_method_6_code
abbrev y_Tree_size : MethodName := ⟨"FixityTrees$Tree", "size", "()I"⟩
theorem d_Tree_size_0 : decode b_Tree_size 0 = .ok (.aload_n 0, 1) := by decide +kernel
theorem d_Tree_size_1 : decode b_Tree_size 1 = .ok (.getfield 31, 3) := by decide +kernel
theorem d_Tree_size_4 : decode b_Tree_size 4 = .ok (.ireturn, 1) := by decide +kernel
theorem hg_Tree_size : fx_mw fx_g "FixityTrees$Tree" y_Tree_size b_Tree_size 1 (some .int) := ⟨fx_in 725 (by decide +kernel) (by decide +kernel), fx_in 726 (by decide +kernel) (by decide +kernel), fx_in 7 (by decide +kernel) (by decide +kernel), fx_in 727 (by decide +kernel) (by decide +kernel)⟩
abbrev b_FixityTrees_resolve : ByteArray := prog_1_method_10_code
abbrev y_FixityTrees_resolve : MethodName := ⟨"FixityTrees", "resolve", "(I)I"⟩
theorem d_FixityTrees_resolve_0 : decode b_FixityTrees_resolve 0 = .ok (.aload_n 0, 1) := by decide +kernel
theorem d_FixityTrees_resolve_1 : decode b_FixityTrees_resolve 1 = .ok (.iload_n 1, 1) := by decide +kernel
theorem d_FixityTrees_resolve_2 : decode b_FixityTrees_resolve 2 = .ok (.invokevirtual 68, 3) := by decide +kernel
theorem d_FixityTrees_resolve_5 : decode b_FixityTrees_resolve 5 = .ok (.aload_n 0, 1) := by decide +kernel
theorem d_FixityTrees_resolve_6 : decode b_FixityTrees_resolve 6 = .ok (.invokevirtual 152, 3) := by decide +kernel
theorem d_FixityTrees_resolve_9 : decode b_FixityTrees_resolve 9 = .ok (.aload_n 0, 1) := by decide +kernel
theorem d_FixityTrees_resolve_10 : decode b_FixityTrees_resolve 10 = .ok (.getfield 19, 3) := by decide +kernel
theorem d_FixityTrees_resolve_13 : decode b_FixityTrees_resolve 13 = .ok (.aload_n 0, 1) := by decide +kernel
theorem d_FixityTrees_resolve_14 : decode b_FixityTrees_resolve 14 = .ok (.getfield 12, 3) := by decide +kernel
theorem d_FixityTrees_resolve_17 : decode b_FixityTrees_resolve 17 = .ok (.iload_n 1, 1) := by decide +kernel
theorem d_FixityTrees_resolve_18 : decode b_FixityTrees_resolve 18 = .ok (.invokevirtual 155, 3) := by decide +kernel
theorem d_FixityTrees_resolve_21 : decode b_FixityTrees_resolve 21 = .ok (.aload_n 0, 1) := by decide +kernel
theorem d_FixityTrees_resolve_22 : decode b_FixityTrees_resolve 22 = .ok (.getfield 35, 3) := by decide +kernel
theorem d_FixityTrees_resolve_25 : decode b_FixityTrees_resolve 25 = .ok (.invokevirtual 159, 3) := by decide +kernel
theorem d_FixityTrees_resolve_28 : decode b_FixityTrees_resolve 28 = .ok (.aload_n 0, 1) := by decide +kernel
theorem d_FixityTrees_resolve_29 : decode b_FixityTrees_resolve 29 = .ok (.aload_n 0, 1) := by decide +kernel
theorem d_FixityTrees_resolve_30 : decode b_FixityTrees_resolve 30 = .ok (.getfield 35, 3) := by decide +kernel
theorem d_FixityTrees_resolve_33 : decode b_FixityTrees_resolve 33 = .ok (.invokevirtual 162, 3) := by decide +kernel
theorem d_FixityTrees_resolve_36 : decode b_FixityTrees_resolve 36 = .ok (.putfield 58, 3) := by decide +kernel
theorem d_FixityTrees_resolve_39 : decode b_FixityTrees_resolve 39 = .ok (.aload_n 0, 1) := by decide +kernel
theorem d_FixityTrees_resolve_40 : decode b_FixityTrees_resolve 40 = .ok (.aload_n 0, 1) := by decide +kernel
theorem d_FixityTrees_resolve_41 : decode b_FixityTrees_resolve 41 = .ok (.getfield 35, 3) := by decide +kernel
theorem d_FixityTrees_resolve_44 : decode b_FixityTrees_resolve 44 = .ok (.invokevirtual 164, 3) := by decide +kernel
theorem d_FixityTrees_resolve_47 : decode b_FixityTrees_resolve 47 = .ok (.putfield 62, 3) := by decide +kernel
theorem d_FixityTrees_resolve_50 : decode b_FixityTrees_resolve 50 = .ok (.aload_n 0, 1) := by decide +kernel
theorem d_FixityTrees_resolve_51 : decode b_FixityTrees_resolve 51 = .ok (.aload_n 0, 1) := by decide +kernel
theorem d_FixityTrees_resolve_52 : decode b_FixityTrees_resolve 52 = .ok (.getfield 35, 3) := by decide +kernel
theorem d_FixityTrees_resolve_55 : decode b_FixityTrees_resolve 55 = .ok (.invokevirtual 166, 3) := by decide +kernel
theorem d_FixityTrees_resolve_58 : decode b_FixityTrees_resolve 58 = .ok (.putfield 65, 3) := by decide +kernel
theorem d_FixityTrees_resolve_61 : decode b_FixityTrees_resolve 61 = .ok (.aload_n 0, 1) := by decide +kernel
theorem d_FixityTrees_resolve_62 : decode b_FixityTrees_resolve 62 = .ok (.getfield 58, 3) := by decide +kernel
theorem d_FixityTrees_resolve_65 : decode b_FixityTrees_resolve 65 = .ok (.iconst (-1), 1) := by decide +kernel
theorem d_FixityTrees_resolve_66 : decode b_FixityTrees_resolve 66 = .ok (.if_icmp .eq 12, 3) := by decide +kernel
theorem d_FixityTrees_resolve_69 : decode b_FixityTrees_resolve 69 = .ok (.aload_n 0, 1) := by decide +kernel
theorem d_FixityTrees_resolve_70 : decode b_FixityTrees_resolve 70 = .ok (.getfield 42, 3) := by decide +kernel
theorem d_FixityTrees_resolve_73 : decode b_FixityTrees_resolve 73 = .ok (.invokevirtual 168, 3) := by decide +kernel
theorem d_FixityTrees_resolve_76 : decode b_FixityTrees_resolve 76 = .ok (.iconst (-1), 1) := by decide +kernel
theorem d_FixityTrees_resolve_77 : decode b_FixityTrees_resolve 77 = .ok (.ireturn, 1) := by decide +kernel
theorem d_FixityTrees_resolve_78 : decode b_FixityTrees_resolve 78 = .ok (.aload_n 0, 1) := by decide +kernel
theorem d_FixityTrees_resolve_79 : decode b_FixityTrees_resolve 79 = .ok (.getfield 35, 3) := by decide +kernel
theorem d_FixityTrees_resolve_82 : decode b_FixityTrees_resolve 82 = .ok (.aload_n 0, 1) := by decide +kernel
theorem d_FixityTrees_resolve_83 : decode b_FixityTrees_resolve 83 = .ok (.getfield 42, 3) := by decide +kernel
theorem d_FixityTrees_resolve_86 : decode b_FixityTrees_resolve 86 = .ok (.invokevirtual 170, 3) := by decide +kernel
theorem d_FixityTrees_resolve_89 : decode b_FixityTrees_resolve 89 = .ok (.aload_n 0, 1) := by decide +kernel
theorem d_FixityTrees_resolve_90 : decode b_FixityTrees_resolve 90 = .ok (.aload_n 0, 1) := by decide +kernel
theorem d_FixityTrees_resolve_91 : decode b_FixityTrees_resolve 91 = .ok (.getfield 35, 3) := by decide +kernel
theorem d_FixityTrees_resolve_94 : decode b_FixityTrees_resolve 94 = .ok (.invokevirtual 174, 3) := by decide +kernel
theorem d_FixityTrees_resolve_97 : decode b_FixityTrees_resolve 97 = .ok (.putfield 177, 3) := by decide +kernel
theorem d_FixityTrees_resolve_100 : decode b_FixityTrees_resolve 100 = .ok (.aload_n 0, 1) := by decide +kernel
theorem d_FixityTrees_resolve_101 : decode b_FixityTrees_resolve 101 = .ok (.getfield 42, 3) := by decide +kernel
theorem d_FixityTrees_resolve_104 : decode b_FixityTrees_resolve 104 = .ok (.invokevirtual 179, 3) := by decide +kernel
theorem d_FixityTrees_resolve_107 : decode b_FixityTrees_resolve 107 = .ok (.ireturn, 1) := by decide +kernel
theorem hg_FixityTrees_resolve : fx_mw fx_g "FixityTrees" y_FixityTrees_resolve b_FixityTrees_resolve 2 (some .int) := ⟨fx_in 543 (by decide +kernel) (by decide +kernel), fx_in 544 (by decide +kernel) (by decide +kernel), fx_in 1 (by decide +kernel) (by decide +kernel), fx_in 545 (by decide +kernel) (by decide +kernel)⟩
abbrev b_FixityTrees_clash : ByteArray := prog_1_method_11_code
abbrev y_FixityTrees_clash : MethodName := ⟨"FixityTrees", "clash", "(I)I"⟩
theorem d_FixityTrees_clash_0 : decode b_FixityTrees_clash 0 = .ok (.iload_n 1, 1) := by decide +kernel
theorem d_FixityTrees_clash_1 : decode b_FixityTrees_clash 1 = .ok (.tableswitch 42 0 2 #[27, 32, 37], 27) := by decide +kernel
theorem d_FixityTrees_clash_28 : decode b_FixityTrees_clash 28 = .ok (.aload_n 0, 1) := by decide +kernel
theorem d_FixityTrees_clash_29 : decode b_FixityTrees_clash 29 = .ok (.getfield 58, 3) := by decide +kernel
theorem d_FixityTrees_clash_32 : decode b_FixityTrees_clash 32 = .ok (.ireturn, 1) := by decide +kernel
theorem d_FixityTrees_clash_33 : decode b_FixityTrees_clash 33 = .ok (.aload_n 0, 1) := by decide +kernel
theorem d_FixityTrees_clash_34 : decode b_FixityTrees_clash 34 = .ok (.getfield 62, 3) := by decide +kernel
theorem d_FixityTrees_clash_37 : decode b_FixityTrees_clash 37 = .ok (.ireturn, 1) := by decide +kernel
theorem d_FixityTrees_clash_38 : decode b_FixityTrees_clash 38 = .ok (.aload_n 0, 1) := by decide +kernel
theorem d_FixityTrees_clash_39 : decode b_FixityTrees_clash 39 = .ok (.getfield 65, 3) := by decide +kernel
theorem d_FixityTrees_clash_42 : decode b_FixityTrees_clash 42 = .ok (.ireturn, 1) := by decide +kernel
theorem d_FixityTrees_clash_43 : decode b_FixityTrees_clash 43 = .ok (.new 98, 3) := by decide +kernel
theorem d_FixityTrees_clash_46 : decode b_FixityTrees_clash 46 = .ok (.dup, 1) := by decide +kernel
theorem d_FixityTrees_clash_47 : decode b_FixityTrees_clash 47 = .ok (.ldc 119, 2) := by decide +kernel
theorem d_FixityTrees_clash_49 : decode b_FixityTrees_clash 49 = .ok (.invokespecial 102, 3) := by decide +kernel
theorem d_FixityTrees_clash_52 : decode b_FixityTrees_clash 52 = .ok (.athrow, 1) := by decide +kernel
theorem hg_FixityTrees_clash : fx_mw fx_g "FixityTrees" y_FixityTrees_clash b_FixityTrees_clash 2 (some .int) := ⟨fx_in 732 (by decide +kernel) (by decide +kernel), fx_in 733 (by decide +kernel) (by decide +kernel), fx_in 1 (by decide +kernel) (by decide +kernel), fx_in 734 (by decide +kernel) (by decide +kernel)⟩
abbrev b_Tree_kindAt : ByteArray := prog_7_method_9_code
abbrev y_Tree_kindAt : MethodName := ⟨"FixityTrees$Tree", "kindAt", "(I)I"⟩
theorem d_Tree_kindAt_0 : decode b_Tree_kindAt 0 = .ok (.aload_n 0, 1) := by decide +kernel
theorem d_Tree_kindAt_1 : decode b_Tree_kindAt 1 = .ok (.iload_n 1, 1) := by decide +kernel
theorem d_Tree_kindAt_2 : decode b_Tree_kindAt 2 = .ok (.invokevirtual 38, 3) := by decide +kernel
theorem d_Tree_kindAt_5 : decode b_Tree_kindAt 5 = .ok (.ifCond .eq 12, 3) := by decide +kernel
theorem d_Tree_kindAt_8 : decode b_Tree_kindAt 8 = .ok (.aload_n 0, 1) := by decide +kernel
theorem d_Tree_kindAt_9 : decode b_Tree_kindAt 9 = .ok (.getfield 9, 3) := by decide +kernel
theorem d_Tree_kindAt_12 : decode b_Tree_kindAt 12 = .ok (.iload_n 1, 1) := by decide +kernel
theorem d_Tree_kindAt_13 : decode b_Tree_kindAt 13 = .ok (.iaload, 1) := by decide +kernel
theorem d_Tree_kindAt_14 : decode b_Tree_kindAt 14 = .ok (.goto 4, 3) := by decide +kernel
theorem d_Tree_kindAt_17 : decode b_Tree_kindAt 17 = .ok (.iconst (-1), 1) := by decide +kernel
theorem d_Tree_kindAt_18 : decode b_Tree_kindAt 18 = .ok (.ireturn, 1) := by decide +kernel
theorem hg_Tree_kindAt : fx_mw fx_g "FixityTrees$Tree" y_Tree_kindAt b_Tree_kindAt 2 (some .int) := ⟨fx_in 745 (by decide +kernel) (by decide +kernel), fx_in 746 (by decide +kernel) (by decide +kernel), fx_in 7 (by decide +kernel) (by decide +kernel), fx_in 747 (by decide +kernel) (by decide +kernel)⟩
abbrev b_Tree_operatorAt : ByteArray := prog_7_method_10_code
abbrev y_Tree_operatorAt : MethodName := ⟨"FixityTrees$Tree", "operatorAt", "(I)I"⟩
theorem d_Tree_operatorAt_0 : decode b_Tree_operatorAt 0 = .ok (.aload_n 0, 1) := by decide +kernel
theorem d_Tree_operatorAt_1 : decode b_Tree_operatorAt 1 = .ok (.iload_n 1, 1) := by decide +kernel
theorem d_Tree_operatorAt_2 : decode b_Tree_operatorAt 2 = .ok (.invokevirtual 38, 3) := by decide +kernel
theorem d_Tree_operatorAt_5 : decode b_Tree_operatorAt 5 = .ok (.ifCond .eq 12, 3) := by decide +kernel
theorem d_Tree_operatorAt_8 : decode b_Tree_operatorAt 8 = .ok (.aload_n 0, 1) := by decide +kernel
theorem d_Tree_operatorAt_9 : decode b_Tree_operatorAt 9 = .ok (.getfield 15, 3) := by decide +kernel
theorem d_Tree_operatorAt_12 : decode b_Tree_operatorAt 12 = .ok (.iload_n 1, 1) := by decide +kernel
theorem d_Tree_operatorAt_13 : decode b_Tree_operatorAt 13 = .ok (.iaload, 1) := by decide +kernel
theorem d_Tree_operatorAt_14 : decode b_Tree_operatorAt 14 = .ok (.goto 4, 3) := by decide +kernel
theorem d_Tree_operatorAt_17 : decode b_Tree_operatorAt 17 = .ok (.iconst (-1), 1) := by decide +kernel
theorem d_Tree_operatorAt_18 : decode b_Tree_operatorAt 18 = .ok (.ireturn, 1) := by decide +kernel
theorem hg_Tree_operatorAt : fx_mw fx_g "FixityTrees$Tree" y_Tree_operatorAt b_Tree_operatorAt 2 (some .int) := ⟨fx_in 749 (by decide +kernel) (by decide +kernel), fx_in 750 (by decide +kernel) (by decide +kernel), fx_in 7 (by decide +kernel) (by decide +kernel), fx_in 751 (by decide +kernel) (by decide +kernel)⟩
abbrev b_Tree_firstAt : ByteArray := prog_7_method_11_code
abbrev y_Tree_firstAt : MethodName := ⟨"FixityTrees$Tree", "firstAt", "(I)I"⟩
theorem d_Tree_firstAt_0 : decode b_Tree_firstAt 0 = .ok (.aload_n 0, 1) := by decide +kernel
theorem d_Tree_firstAt_1 : decode b_Tree_firstAt 1 = .ok (.iload_n 1, 1) := by decide +kernel
theorem d_Tree_firstAt_2 : decode b_Tree_firstAt 2 = .ok (.invokevirtual 38, 3) := by decide +kernel
theorem d_Tree_firstAt_5 : decode b_Tree_firstAt 5 = .ok (.ifCond .eq 12, 3) := by decide +kernel
theorem d_Tree_firstAt_8 : decode b_Tree_firstAt 8 = .ok (.aload_n 0, 1) := by decide +kernel
theorem d_Tree_firstAt_9 : decode b_Tree_firstAt 9 = .ok (.getfield 18, 3) := by decide +kernel
theorem d_Tree_firstAt_12 : decode b_Tree_firstAt 12 = .ok (.iload_n 1, 1) := by decide +kernel
theorem d_Tree_firstAt_13 : decode b_Tree_firstAt 13 = .ok (.iaload, 1) := by decide +kernel
theorem d_Tree_firstAt_14 : decode b_Tree_firstAt 14 = .ok (.goto 4, 3) := by decide +kernel
theorem d_Tree_firstAt_17 : decode b_Tree_firstAt 17 = .ok (.iconst (-1), 1) := by decide +kernel
theorem d_Tree_firstAt_18 : decode b_Tree_firstAt 18 = .ok (.ireturn, 1) := by decide +kernel
theorem hg_Tree_firstAt : fx_mw fx_g "FixityTrees$Tree" y_Tree_firstAt b_Tree_firstAt 2 (some .int) := ⟨fx_in 753 (by decide +kernel) (by decide +kernel), fx_in 754 (by decide +kernel) (by decide +kernel), fx_in 7 (by decide +kernel) (by decide +kernel), fx_in 755 (by decide +kernel) (by decide +kernel)⟩
abbrev b_Tree_secondAt : ByteArray := prog_7_method_12_code
abbrev y_Tree_secondAt : MethodName := ⟨"FixityTrees$Tree", "secondAt", "(I)I"⟩
theorem d_Tree_secondAt_0 : decode b_Tree_secondAt 0 = .ok (.aload_n 0, 1) := by decide +kernel
theorem d_Tree_secondAt_1 : decode b_Tree_secondAt 1 = .ok (.iload_n 1, 1) := by decide +kernel
theorem d_Tree_secondAt_2 : decode b_Tree_secondAt 2 = .ok (.invokevirtual 38, 3) := by decide +kernel
theorem d_Tree_secondAt_5 : decode b_Tree_secondAt 5 = .ok (.ifCond .eq 12, 3) := by decide +kernel
theorem d_Tree_secondAt_8 : decode b_Tree_secondAt 8 = .ok (.aload_n 0, 1) := by decide +kernel
theorem d_Tree_secondAt_9 : decode b_Tree_secondAt 9 = .ok (.getfield 21, 3) := by decide +kernel
theorem d_Tree_secondAt_12 : decode b_Tree_secondAt 12 = .ok (.iload_n 1, 1) := by decide +kernel
theorem d_Tree_secondAt_13 : decode b_Tree_secondAt 13 = .ok (.iaload, 1) := by decide +kernel
theorem d_Tree_secondAt_14 : decode b_Tree_secondAt 14 = .ok (.goto 4, 3) := by decide +kernel
theorem d_Tree_secondAt_17 : decode b_Tree_secondAt 17 = .ok (.iconst (-1), 1) := by decide +kernel
theorem d_Tree_secondAt_18 : decode b_Tree_secondAt 18 = .ok (.ireturn, 1) := by decide +kernel
theorem hg_Tree_secondAt : fx_mw fx_g "FixityTrees$Tree" y_Tree_secondAt b_Tree_secondAt 2 (some .int) := ⟨fx_in 757 (by decide +kernel) (by decide +kernel), fx_in 758 (by decide +kernel) (by decide +kernel), fx_in 7 (by decide +kernel) (by decide +kernel), fx_in 759 (by decide +kernel) (by decide +kernel)⟩
abbrev b_Tree_placeAt : ByteArray := prog_7_method_13_code
abbrev y_Tree_placeAt : MethodName := ⟨"FixityTrees$Tree", "placeAt", "(I)I"⟩
theorem d_Tree_placeAt_0 : decode b_Tree_placeAt 0 = .ok (.aload_n 0, 1) := by decide +kernel
theorem d_Tree_placeAt_1 : decode b_Tree_placeAt 1 = .ok (.iload_n 1, 1) := by decide +kernel
theorem d_Tree_placeAt_2 : decode b_Tree_placeAt 2 = .ok (.invokevirtual 38, 3) := by decide +kernel
theorem d_Tree_placeAt_5 : decode b_Tree_placeAt 5 = .ok (.ifCond .eq 12, 3) := by decide +kernel
theorem d_Tree_placeAt_8 : decode b_Tree_placeAt 8 = .ok (.aload_n 0, 1) := by decide +kernel
theorem d_Tree_placeAt_9 : decode b_Tree_placeAt 9 = .ok (.getfield 24, 3) := by decide +kernel
theorem d_Tree_placeAt_12 : decode b_Tree_placeAt 12 = .ok (.iload_n 1, 1) := by decide +kernel
theorem d_Tree_placeAt_13 : decode b_Tree_placeAt 13 = .ok (.iaload, 1) := by decide +kernel
theorem d_Tree_placeAt_14 : decode b_Tree_placeAt 14 = .ok (.goto 4, 3) := by decide +kernel
theorem d_Tree_placeAt_17 : decode b_Tree_placeAt 17 = .ok (.iconst (-1), 1) := by decide +kernel
theorem d_Tree_placeAt_18 : decode b_Tree_placeAt 18 = .ok (.ireturn, 1) := by decide +kernel
theorem hg_Tree_placeAt : fx_mw fx_g "FixityTrees$Tree" y_Tree_placeAt b_Tree_placeAt 2 (some .int) := ⟨fx_in 761 (by decide +kernel) (by decide +kernel), fx_in 762 (by decide +kernel) (by decide +kernel), fx_in 7 (by decide +kernel) (by decide +kernel), fx_in 763 (by decide +kernel) (by decide +kernel)⟩
abbrev b_FixityTrees_node : ByteArray := prog_1_method_12_code
abbrev y_FixityTrees_node : MethodName := ⟨"FixityTrees", "node", "(II)I"⟩
theorem d_FixityTrees_node_0 : decode b_FixityTrees_node 0 = .ok (.aload_n 0, 1) := by decide +kernel
theorem d_FixityTrees_node_1 : decode b_FixityTrees_node 1 = .ok (.getfield 42, 3) := by decide +kernel
theorem d_FixityTrees_node_4 : decode b_FixityTrees_node 4 = .ok (.iload_n 1, 1) := by decide +kernel
theorem d_FixityTrees_node_5 : decode b_FixityTrees_node 5 = .ok (.invokevirtual 180, 3) := by decide +kernel
theorem d_FixityTrees_node_8 : decode b_FixityTrees_node 8 = .ok (.ifCond .ne 13, 3) := by decide +kernel
theorem d_FixityTrees_node_11 : decode b_FixityTrees_node 11 = .ok (.new 184, 3) := by decide +kernel
theorem d_FixityTrees_node_14 : decode b_FixityTrees_node 14 = .ok (.dup, 1) := by decide +kernel
theorem d_FixityTrees_node_15 : decode b_FixityTrees_node 15 = .ok (.ldc 186, 2) := by decide +kernel
theorem d_FixityTrees_node_17 : decode b_FixityTrees_node 17 = .ok (.invokespecial 188, 3) := by decide +kernel
theorem d_FixityTrees_node_20 : decode b_FixityTrees_node 20 = .ok (.athrow, 1) := by decide +kernel
theorem d_FixityTrees_node_21 : decode b_FixityTrees_node 21 = .ok (.iload_n 2, 1) := by decide +kernel
theorem d_FixityTrees_node_22 : decode b_FixityTrees_node 22 = .ok (.tableswitch 79 0 4 #[34, 43, 52, 61, 70], 34) := by decide +kernel
theorem d_FixityTrees_node_56 : decode b_FixityTrees_node 56 = .ok (.aload_n 0, 1) := by decide +kernel
theorem d_FixityTrees_node_57 : decode b_FixityTrees_node 57 = .ok (.getfield 42, 3) := by decide +kernel
theorem d_FixityTrees_node_60 : decode b_FixityTrees_node 60 = .ok (.iload_n 1, 1) := by decide +kernel
theorem d_FixityTrees_node_61 : decode b_FixityTrees_node 61 = .ok (.invokevirtual 189, 3) := by decide +kernel
theorem d_FixityTrees_node_64 : decode b_FixityTrees_node 64 = .ok (.ireturn, 1) := by decide +kernel
theorem d_FixityTrees_node_65 : decode b_FixityTrees_node 65 = .ok (.aload_n 0, 1) := by decide +kernel
theorem d_FixityTrees_node_66 : decode b_FixityTrees_node 66 = .ok (.getfield 42, 3) := by decide +kernel
theorem d_FixityTrees_node_69 : decode b_FixityTrees_node 69 = .ok (.iload_n 1, 1) := by decide +kernel
theorem d_FixityTrees_node_70 : decode b_FixityTrees_node 70 = .ok (.invokevirtual 192, 3) := by decide +kernel
theorem d_FixityTrees_node_73 : decode b_FixityTrees_node 73 = .ok (.ireturn, 1) := by decide +kernel
theorem d_FixityTrees_node_74 : decode b_FixityTrees_node 74 = .ok (.aload_n 0, 1) := by decide +kernel
theorem d_FixityTrees_node_75 : decode b_FixityTrees_node 75 = .ok (.getfield 42, 3) := by decide +kernel
theorem d_FixityTrees_node_78 : decode b_FixityTrees_node 78 = .ok (.iload_n 1, 1) := by decide +kernel
theorem d_FixityTrees_node_79 : decode b_FixityTrees_node 79 = .ok (.invokevirtual 195, 3) := by decide +kernel
theorem d_FixityTrees_node_82 : decode b_FixityTrees_node 82 = .ok (.ireturn, 1) := by decide +kernel
theorem d_FixityTrees_node_83 : decode b_FixityTrees_node 83 = .ok (.aload_n 0, 1) := by decide +kernel
theorem d_FixityTrees_node_84 : decode b_FixityTrees_node 84 = .ok (.getfield 42, 3) := by decide +kernel
theorem d_FixityTrees_node_87 : decode b_FixityTrees_node 87 = .ok (.iload_n 1, 1) := by decide +kernel
theorem d_FixityTrees_node_88 : decode b_FixityTrees_node 88 = .ok (.invokevirtual 198, 3) := by decide +kernel
theorem d_FixityTrees_node_91 : decode b_FixityTrees_node 91 = .ok (.ireturn, 1) := by decide +kernel
theorem d_FixityTrees_node_92 : decode b_FixityTrees_node 92 = .ok (.aload_n 0, 1) := by decide +kernel
theorem d_FixityTrees_node_93 : decode b_FixityTrees_node 93 = .ok (.getfield 42, 3) := by decide +kernel
theorem d_FixityTrees_node_96 : decode b_FixityTrees_node 96 = .ok (.iload_n 1, 1) := by decide +kernel
theorem d_FixityTrees_node_97 : decode b_FixityTrees_node 97 = .ok (.invokevirtual 201, 3) := by decide +kernel
theorem d_FixityTrees_node_100 : decode b_FixityTrees_node 100 = .ok (.ireturn, 1) := by decide +kernel
theorem d_FixityTrees_node_101 : decode b_FixityTrees_node 101 = .ok (.new 98, 3) := by decide +kernel
theorem d_FixityTrees_node_104 : decode b_FixityTrees_node 104 = .ok (.dup, 1) := by decide +kernel
theorem d_FixityTrees_node_105 : decode b_FixityTrees_node 105 = .ok (.ldc 204, 2) := by decide +kernel
theorem d_FixityTrees_node_107 : decode b_FixityTrees_node 107 = .ok (.invokespecial 102, 3) := by decide +kernel
theorem d_FixityTrees_node_110 : decode b_FixityTrees_node 110 = .ok (.athrow, 1) := by decide +kernel
theorem hg_FixityTrees_node : fx_mw fx_g "FixityTrees" y_FixityTrees_node b_FixityTrees_node 3 (some .int) := ⟨fx_in 739 (by decide +kernel) (by decide +kernel), fx_in 740 (by decide +kernel) (by decide +kernel), fx_in 1 (by decide +kernel) (by decide +kernel), fx_in 741 (by decide +kernel) (by decide +kernel)⟩
abbrev b_Tree_numberAt : ByteArray := prog_7_method_14_code
abbrev y_Tree_numberAt : MethodName := ⟨"FixityTrees$Tree", "numberAt", "(I)J"⟩
theorem d_Tree_numberAt_0 : decode b_Tree_numberAt 0 = .ok (.aload_n 0, 1) := by decide +kernel
theorem d_Tree_numberAt_1 : decode b_Tree_numberAt 1 = .ok (.iload_n 1, 1) := by decide +kernel
theorem d_Tree_numberAt_2 : decode b_Tree_numberAt 2 = .ok (.invokevirtual 38, 3) := by decide +kernel
theorem d_Tree_numberAt_5 : decode b_Tree_numberAt 5 = .ok (.ifCond .eq 12, 3) := by decide +kernel
theorem d_Tree_numberAt_8 : decode b_Tree_numberAt 8 = .ok (.aload_n 0, 1) := by decide +kernel
theorem d_Tree_numberAt_9 : decode b_Tree_numberAt 9 = .ok (.getfield 27, 3) := by decide +kernel
theorem d_Tree_numberAt_12 : decode b_Tree_numberAt 12 = .ok (.iload_n 1, 1) := by decide +kernel
theorem d_Tree_numberAt_13 : decode b_Tree_numberAt 13 = .ok (.laload, 1) := by decide +kernel
theorem d_Tree_numberAt_14 : decode b_Tree_numberAt 14 = .ok (.goto 4, 3) := by decide +kernel
theorem d_Tree_numberAt_17 : decode b_Tree_numberAt 17 = .ok (.lconst 0, 1) := by decide +kernel
theorem d_Tree_numberAt_18 : decode b_Tree_numberAt 18 = .ok (.lreturn, 1) := by decide +kernel
theorem hg_Tree_numberAt : fx_mw fx_g "FixityTrees$Tree" y_Tree_numberAt b_Tree_numberAt 2 (some .long) := ⟨fx_in 774 (by decide +kernel) (by decide +kernel), fx_in 775 (by decide +kernel) (by decide +kernel), fx_in 7 (by decide +kernel) (by decide +kernel), fx_in 776 (by decide +kernel) (by decide +kernel)⟩
abbrev b_FixityTrees_number : ByteArray := prog_1_method_13_code
abbrev y_FixityTrees_number : MethodName := ⟨"FixityTrees", "number", "(I)J"⟩
theorem d_FixityTrees_number_0 : decode b_FixityTrees_number 0 = .ok (.aload_n 0, 1) := by decide +kernel
theorem d_FixityTrees_number_1 : decode b_FixityTrees_number 1 = .ok (.getfield 42, 3) := by decide +kernel
theorem d_FixityTrees_number_4 : decode b_FixityTrees_number 4 = .ok (.iload_n 1, 1) := by decide +kernel
theorem d_FixityTrees_number_5 : decode b_FixityTrees_number 5 = .ok (.invokevirtual 189, 3) := by decide +kernel
theorem d_FixityTrees_number_8 : decode b_FixityTrees_number 8 = .ok (.ifCond .eq 13, 3) := by decide +kernel
theorem d_FixityTrees_number_11 : decode b_FixityTrees_number 11 = .ok (.new 184, 3) := by decide +kernel
theorem d_FixityTrees_number_14 : decode b_FixityTrees_number 14 = .ok (.dup, 1) := by decide +kernel
theorem d_FixityTrees_number_15 : decode b_FixityTrees_number 15 = .ok (.ldc 206, 2) := by decide +kernel
theorem d_FixityTrees_number_17 : decode b_FixityTrees_number 17 = .ok (.invokespecial 188, 3) := by decide +kernel
theorem d_FixityTrees_number_20 : decode b_FixityTrees_number 20 = .ok (.athrow, 1) := by decide +kernel
theorem d_FixityTrees_number_21 : decode b_FixityTrees_number 21 = .ok (.aload_n 0, 1) := by decide +kernel
theorem d_FixityTrees_number_22 : decode b_FixityTrees_number 22 = .ok (.getfield 42, 3) := by decide +kernel
theorem d_FixityTrees_number_25 : decode b_FixityTrees_number 25 = .ok (.iload_n 1, 1) := by decide +kernel
theorem d_FixityTrees_number_26 : decode b_FixityTrees_number 26 = .ok (.invokevirtual 208, 3) := by decide +kernel
theorem d_FixityTrees_number_29 : decode b_FixityTrees_number 29 = .ok (.lreturn, 1) := by decide +kernel
theorem hg_FixityTrees_number : fx_mw fx_g "FixityTrees" y_FixityTrees_number b_FixityTrees_number 2 (some .long) := ⟨fx_in 769 (by decide +kernel) (by decide +kernel), fx_in 770 (by decide +kernel) (by decide +kernel), fx_in 1 (by decide +kernel) (by decide +kernel), fx_in 771 (by decide +kernel) (by decide +kernel)⟩
abbrev b_FixityTrees_requireTree : ByteArray := prog_1_method_22_code
abbrev y_FixityTrees_requireTree : MethodName := ⟨"FixityTrees", "requireTree", "()V"⟩
theorem d_FixityTrees_requireTree_0 : decode b_FixityTrees_requireTree 0 = .ok (.aload_n 0, 1) := by decide +kernel
theorem d_FixityTrees_requireTree_1 : decode b_FixityTrees_requireTree 1 = .ok (.getfield 42, 3) := by decide +kernel
theorem d_FixityTrees_requireTree_4 : decode b_FixityTrees_requireTree 4 = .ok (.invokevirtual 179, 3) := by decide +kernel
theorem d_FixityTrees_requireTree_7 : decode b_FixityTrees_requireTree 7 = .ok (.ifCond .ne 14, 3) := by decide +kernel
theorem d_FixityTrees_requireTree_10 : decode b_FixityTrees_requireTree 10 = .ok (.new 76, 3) := by decide +kernel
theorem d_FixityTrees_requireTree_13 : decode b_FixityTrees_requireTree 13 = .ok (.dup, 1) := by decide +kernel
theorem d_FixityTrees_requireTree_14 : decode b_FixityTrees_requireTree 14 = .ok (.ldc_w 261, 3) := by decide +kernel
theorem d_FixityTrees_requireTree_17 : decode b_FixityTrees_requireTree 17 = .ok (.invokespecial 80, 3) := by decide +kernel
theorem d_FixityTrees_requireTree_20 : decode b_FixityTrees_requireTree 20 = .ok (.athrow, 1) := by decide +kernel
theorem d_FixityTrees_requireTree_21 : decode b_FixityTrees_requireTree 21 = .ok (.return_, 1) := by decide +kernel
theorem hg_FixityTrees_requireTree : fx_mw fx_g "FixityTrees" y_FixityTrees_requireTree b_FixityTrees_requireTree 1 none := ⟨fx_in 786 (by decide +kernel) (by decide +kernel), fx_inp 29 (by decide +kernel) (by decide +kernel), fx_in 1 (by decide +kernel) (by decide +kernel), fx_in 787 (by decide +kernel) (by decide +kernel)⟩
abbrev b_Written_isNode : ByteArray := prog_8_method_21_code
abbrev y_Written_isNode : MethodName := ⟨"FixityTrees$Written", "isNode", "(I)Z"⟩
theorem d_Written_isNode_0 : decode b_Written_isNode 0 = .ok (.iload_n 0, 1) := by decide +kernel
theorem d_Written_isNode_1 : decode b_Written_isNode 1 = .ok (.ifCond .lt 14, 3) := by decide +kernel
theorem d_Written_isNode_4 : decode b_Written_isNode 4 = .ok (.iload_n 0, 1) := by decide +kernel
theorem d_Written_isNode_5 : decode b_Written_isNode 5 = .ok (.sipush 200, 3) := by decide +kernel
theorem d_Written_isNode_8 : decode b_Written_isNode 8 = .ok (.if_icmp .ge 7, 3) := by decide +kernel
theorem d_Written_isNode_11 : decode b_Written_isNode 11 = .ok (.iconst 1, 1) := by decide +kernel
theorem d_Written_isNode_12 : decode b_Written_isNode 12 = .ok (.goto 4, 3) := by decide +kernel
theorem d_Written_isNode_15 : decode b_Written_isNode 15 = .ok (.iconst 0, 1) := by decide +kernel
theorem d_Written_isNode_16 : decode b_Written_isNode 16 = .ok (.ireturn, 1) := by decide +kernel
theorem hg_Written_isNode : fx_sw fx_g y_Written_isNode b_Written_isNode 1 (some .boolean) := ⟨fx_in 804 (by decide +kernel) (by decide +kernel), fx_in 8 (by decide +kernel) (by decide +kernel), fx_in 805 (by decide +kernel) (by decide +kernel)⟩
abbrev b_Written_widthOf : ByteArray := prog_8_method_20_code
abbrev y_Written_widthOf : MethodName := ⟨"FixityTrees$Written", "widthOf", "(I)I"⟩
theorem d_Written_widthOf_0 : decode b_Written_widthOf 0 = .ok (.iload_n 1, 1) := by decide +kernel
theorem d_Written_widthOf_1 : decode b_Written_widthOf 1 = .ok (.invokestatic 115, 3) := by decide +kernel
theorem d_Written_widthOf_4 : decode b_Written_widthOf 4 = .ok (.ifCond .eq 12, 3) := by decide +kernel
theorem d_Written_widthOf_7 : decode b_Written_widthOf 7 = .ok (.aload_n 0, 1) := by decide +kernel
theorem d_Written_widthOf_8 : decode b_Written_widthOf 8 = .ok (.getfield 29, 3) := by decide +kernel
theorem d_Written_widthOf_11 : decode b_Written_widthOf 11 = .ok (.iload_n 1, 1) := by decide +kernel
theorem d_Written_widthOf_12 : decode b_Written_widthOf 12 = .ok (.iaload, 1) := by decide +kernel
theorem d_Written_widthOf_13 : decode b_Written_widthOf 13 = .ok (.goto 4, 3) := by decide +kernel
theorem d_Written_widthOf_16 : decode b_Written_widthOf 16 = .ok (.iconst 0, 1) := by decide +kernel
theorem d_Written_widthOf_17 : decode b_Written_widthOf 17 = .ok (.ireturn, 1) := by decide +kernel
theorem hg_Written_widthOf : fx_mw fx_g "FixityTrees$Written" y_Written_widthOf b_Written_widthOf 2 (some .int) := ⟨fx_in 829 (by decide +kernel) (by decide +kernel), fx_inp 36 (by decide +kernel) (by decide +kernel), fx_in 8 (by decide +kernel) (by decide +kernel), fx_in 830 (by decide +kernel) (by decide +kernel)⟩
abbrev b_Written_setStart : ByteArray := prog_8_method_19_code
abbrev y_Written_setStart : MethodName := ⟨"FixityTrees$Written", "setStart", "(II)V"⟩
theorem d_Written_setStart_0 : decode b_Written_setStart 0 = .ok (.iload_n 1, 1) := by decide +kernel
theorem d_Written_setStart_1 : decode b_Written_setStart 1 = .ok (.invokestatic 115, 3) := by decide +kernel
theorem d_Written_setStart_4 : decode b_Written_setStart 4 = .ok (.ifCond .eq 10, 3) := by decide +kernel
theorem d_Written_setStart_7 : decode b_Written_setStart 7 = .ok (.aload_n 0, 1) := by decide +kernel
theorem d_Written_setStart_8 : decode b_Written_setStart 8 = .ok (.getfield 32, 3) := by decide +kernel
theorem d_Written_setStart_11 : decode b_Written_setStart 11 = .ok (.iload_n 1, 1) := by decide +kernel
theorem d_Written_setStart_12 : decode b_Written_setStart 12 = .ok (.iload_n 2, 1) := by decide +kernel
theorem d_Written_setStart_13 : decode b_Written_setStart 13 = .ok (.iastore, 1) := by decide +kernel
theorem d_Written_setStart_14 : decode b_Written_setStart 14 = .ok (.return_, 1) := by decide +kernel
theorem hg_Written_setStart : fx_mw fx_g "FixityTrees$Written" y_Written_setStart b_Written_setStart 3 none := ⟨fx_in 833 (by decide +kernel) (by decide +kernel), fx_inp 37 (by decide +kernel) (by decide +kernel), fx_in 8 (by decide +kernel) (by decide +kernel), fx_in 834 (by decide +kernel) (by decide +kernel)⟩
abbrev b_Written_has : ByteArray := prog_8_method_4_code
abbrev y_Written_has : MethodName := ⟨"FixityTrees$Written", "has", "(I)Z"⟩
theorem d_Written_has_0 : decode b_Written_has 0 = .ok (.iload_n 1, 1) := by decide +kernel
theorem d_Written_has_1 : decode b_Written_has 1 = .ok (.ifCond .lt 22, 3) := by decide +kernel
theorem d_Written_has_4 : decode b_Written_has 4 = .ok (.iload_n 1, 1) := by decide +kernel
theorem d_Written_has_5 : decode b_Written_has 5 = .ok (.aload_n 0, 1) := by decide +kernel
theorem d_Written_has_6 : decode b_Written_has 6 = .ok (.getfield 43, 3) := by decide +kernel
theorem d_Written_has_9 : decode b_Written_has 9 = .ok (.if_icmp .ge 14, 3) := by decide +kernel
theorem d_Written_has_12 : decode b_Written_has 12 = .ok (.iload_n 1, 1) := by decide +kernel
theorem d_Written_has_13 : decode b_Written_has 13 = .ok (.sipush 600, 3) := by decide +kernel
theorem d_Written_has_16 : decode b_Written_has 16 = .ok (.if_icmp .ge 7, 3) := by decide +kernel
theorem d_Written_has_19 : decode b_Written_has 19 = .ok (.iconst 1, 1) := by decide +kernel
theorem d_Written_has_20 : decode b_Written_has 20 = .ok (.goto 4, 3) := by decide +kernel
theorem d_Written_has_23 : decode b_Written_has 23 = .ok (.iconst 0, 1) := by decide +kernel
theorem d_Written_has_24 : decode b_Written_has 24 = .ok (.ireturn, 1) := by decide +kernel
theorem hg_Written_has : fx_mw fx_g "FixityTrees$Written" y_Written_has b_Written_has 2 (some .boolean) := ⟨fx_in 844 (by decide +kernel) (by decide +kernel), fx_in 845 (by decide +kernel) (by decide +kernel), fx_in 8 (by decide +kernel) (by decide +kernel), fx_in 846 (by decide +kernel) (by decide +kernel)⟩
abbrev b_Written_kindAt : ByteArray := prog_8_method_5_code
abbrev y_Written_kindAt : MethodName := ⟨"FixityTrees$Written", "kindAt", "(I)I"⟩
theorem d_Written_kindAt_0 : decode b_Written_kindAt 0 = .ok (.aload_n 0, 1) := by decide +kernel
theorem d_Written_kindAt_1 : decode b_Written_kindAt 1 = .ok (.iload_n 1, 1) := by decide +kernel
theorem d_Written_kindAt_2 : decode b_Written_kindAt 2 = .ok (.invokevirtual 50, 3) := by decide +kernel
theorem d_Written_kindAt_5 : decode b_Written_kindAt 5 = .ok (.ifCond .eq 12, 3) := by decide +kernel
theorem d_Written_kindAt_8 : decode b_Written_kindAt 8 = .ok (.aload_n 0, 1) := by decide +kernel
theorem d_Written_kindAt_9 : decode b_Written_kindAt 9 = .ok (.getfield 9, 3) := by decide +kernel
theorem d_Written_kindAt_12 : decode b_Written_kindAt 12 = .ok (.iload_n 1, 1) := by decide +kernel
theorem d_Written_kindAt_13 : decode b_Written_kindAt 13 = .ok (.iaload, 1) := by decide +kernel
theorem d_Written_kindAt_14 : decode b_Written_kindAt 14 = .ok (.goto 4, 3) := by decide +kernel
theorem d_Written_kindAt_17 : decode b_Written_kindAt 17 = .ok (.iconst (-1), 1) := by decide +kernel
theorem d_Written_kindAt_18 : decode b_Written_kindAt 18 = .ok (.ireturn, 1) := by decide +kernel
theorem hg_Written_kindAt : fx_mw fx_g "FixityTrees$Written" y_Written_kindAt b_Written_kindAt 2 (some .int) := ⟨fx_in 853 (by decide +kernel) (by decide +kernel), fx_in 854 (by decide +kernel) (by decide +kernel), fx_in 8 (by decide +kernel) (by decide +kernel), fx_in 855 (by decide +kernel) (by decide +kernel)⟩
abbrev b_Written_countOpen : ByteArray := prog_8_method_15_code
abbrev y_Written_countOpen : MethodName := ⟨"FixityTrees$Written", "countOpen", "()V"⟩
theorem d_Written_countOpen_0 : decode b_Written_countOpen 0 = .ok (.iconst 0, 1) := by decide +kernel
theorem d_Written_countOpen_1 : decode b_Written_countOpen 1 = .ok (.istore_n 1, 1) := by decide +kernel
theorem d_Written_countOpen_2 : decode b_Written_countOpen 2 = .ok (.aload_n 0, 1) := by decide +kernel
theorem d_Written_countOpen_3 : decode b_Written_countOpen 3 = .ok (.iconst 0, 1) := by decide +kernel
theorem d_Written_countOpen_4 : decode b_Written_countOpen 4 = .ok (.putfield 47, 3) := by decide +kernel
theorem d_Written_countOpen_7 : decode b_Written_countOpen 7 = .ok (.iconst 0, 1) := by decide +kernel
theorem d_Written_countOpen_8 : decode b_Written_countOpen 8 = .ok (.istore_n 2, 1) := by decide +kernel
theorem d_Written_countOpen_9 : decode b_Written_countOpen 9 = .ok (.iload_n 2, 1) := by decide +kernel
theorem d_Written_countOpen_10 : decode b_Written_countOpen 10 = .ok (.aload_n 0, 1) := by decide +kernel
theorem d_Written_countOpen_11 : decode b_Written_countOpen 11 = .ok (.getfield 43, 3) := by decide +kernel
theorem d_Written_countOpen_14 : decode b_Written_countOpen 14 = .ok (.if_icmp .ge 48, 3) := by decide +kernel
theorem d_Written_countOpen_17 : decode b_Written_countOpen 17 = .ok (.aload_n 0, 1) := by decide +kernel
theorem d_Written_countOpen_18 : decode b_Written_countOpen 18 = .ok (.iload_n 2, 1) := by decide +kernel
theorem d_Written_countOpen_19 : decode b_Written_countOpen 19 = .ok (.invokevirtual 126, 3) := by decide +kernel
theorem d_Written_countOpen_22 : decode b_Written_countOpen 22 = .ok (.iconst 3, 1) := by decide +kernel
theorem d_Written_countOpen_23 : decode b_Written_countOpen 23 = .ok (.if_icmp .ne 9, 3) := by decide +kernel
theorem d_Written_countOpen_26 : decode b_Written_countOpen 26 = .ok (.iinc 1 1, 3) := by decide +kernel
theorem d_Written_countOpen_29 : decode b_Written_countOpen 29 = .ok (.goto 15, 3) := by decide +kernel
theorem d_Written_countOpen_32 : decode b_Written_countOpen 32 = .ok (.aload_n 0, 1) := by decide +kernel
theorem d_Written_countOpen_33 : decode b_Written_countOpen 33 = .ok (.iload_n 2, 1) := by decide +kernel
theorem d_Written_countOpen_34 : decode b_Written_countOpen 34 = .ok (.invokevirtual 126, 3) := by decide +kernel
theorem d_Written_countOpen_37 : decode b_Written_countOpen 37 = .ok (.iconst 4, 1) := by decide +kernel
theorem d_Written_countOpen_38 : decode b_Written_countOpen 38 = .ok (.if_icmp .ne 6, 3) := by decide +kernel
theorem d_Written_countOpen_41 : decode b_Written_countOpen 41 = .ok (.iinc 1 (-1), 3) := by decide +kernel
theorem d_Written_countOpen_44 : decode b_Written_countOpen 44 = .ok (.aload_n 0, 1) := by decide +kernel
theorem d_Written_countOpen_45 : decode b_Written_countOpen 45 = .ok (.aload_n 0, 1) := by decide +kernel
theorem d_Written_countOpen_46 : decode b_Written_countOpen 46 = .ok (.getfield 47, 3) := by decide +kernel
theorem d_Written_countOpen_49 : decode b_Written_countOpen 49 = .ok (.iload_n 1, 1) := by decide +kernel
theorem d_Written_countOpen_50 : decode b_Written_countOpen 50 = .ok (.invokestatic 127, 3) := by decide +kernel
theorem d_Written_countOpen_53 : decode b_Written_countOpen 53 = .ok (.putfield 47, 3) := by decide +kernel
theorem d_Written_countOpen_56 : decode b_Written_countOpen 56 = .ok (.iinc 2 1, 3) := by decide +kernel
theorem d_Written_countOpen_59 : decode b_Written_countOpen 59 = .ok (.goto (-50), 3) := by decide +kernel
theorem d_Written_countOpen_62 : decode b_Written_countOpen 62 = .ok (.return_, 1) := by decide +kernel
theorem hg_Written_countOpen : fx_mw fx_g "FixityTrees$Written" y_Written_countOpen b_Written_countOpen 3 none := ⟨fx_in 850 (by decide +kernel) (by decide +kernel), fx_inp 40 (by decide +kernel) (by decide +kernel), fx_in 8 (by decide +kernel) (by decide +kernel), fx_in 851 (by decide +kernel) (by decide +kernel)⟩
abbrev b_Written_firstStandsLeft : ByteArray := prog_8_method_17_code
abbrev y_Written_firstStandsLeft : MethodName := ⟨"FixityTrees$Written", "firstStandsLeft", "(I)Z"⟩
theorem d_Written_firstStandsLeft_0 : decode b_Written_firstStandsLeft 0 = .ok (.aload_n 0, 1) := by decide +kernel
theorem d_Written_firstStandsLeft_1 : decode b_Written_firstStandsLeft 1 = .ok (.getfield 35, 3) := by decide +kernel
theorem d_Written_firstStandsLeft_4 : decode b_Written_firstStandsLeft 4 = .ok (.iload_n 1, 1) := by decide +kernel
theorem d_Written_firstStandsLeft_5 : decode b_Written_firstStandsLeft 5 = .ok (.invokevirtual 97, 3) := by decide +kernel
theorem d_Written_firstStandsLeft_8 : decode b_Written_firstStandsLeft 8 = .ok (.istore_n 2, 1) := by decide +kernel
theorem d_Written_firstStandsLeft_9 : decode b_Written_firstStandsLeft 9 = .ok (.iload_n 2, 1) := by decide +kernel
theorem d_Written_firstStandsLeft_10 : decode b_Written_firstStandsLeft 10 = .ok (.iconst 1, 1) := by decide +kernel
theorem d_Written_firstStandsLeft_11 : decode b_Written_firstStandsLeft 11 = .ok (.if_icmp .eq 8, 3) := by decide +kernel
theorem d_Written_firstStandsLeft_14 : decode b_Written_firstStandsLeft 14 = .ok (.iload_n 2, 1) := by decide +kernel
theorem d_Written_firstStandsLeft_15 : decode b_Written_firstStandsLeft 15 = .ok (.iconst 3, 1) := by decide +kernel
theorem d_Written_firstStandsLeft_16 : decode b_Written_firstStandsLeft 16 = .ok (.if_icmp .ne 7, 3) := by decide +kernel
theorem d_Written_firstStandsLeft_19 : decode b_Written_firstStandsLeft 19 = .ok (.iconst 1, 1) := by decide +kernel
theorem d_Written_firstStandsLeft_20 : decode b_Written_firstStandsLeft 20 = .ok (.goto 4, 3) := by decide +kernel
theorem d_Written_firstStandsLeft_23 : decode b_Written_firstStandsLeft 23 = .ok (.iconst 0, 1) := by decide +kernel
theorem d_Written_firstStandsLeft_24 : decode b_Written_firstStandsLeft 24 = .ok (.ireturn, 1) := by decide +kernel
theorem hg_Written_firstStandsLeft : fx_mw fx_g "FixityTrees$Written" y_Written_firstStandsLeft b_Written_firstStandsLeft 3 (some .boolean) := ⟨fx_in 809 (by decide +kernel) (by decide +kernel), fx_inp 32 (by decide +kernel) (by decide +kernel), fx_in 8 (by decide +kernel) (by decide +kernel), fx_in 810 (by decide +kernel) (by decide +kernel)⟩
abbrev b_Written_isSection : ByteArray := prog_8_method_16_code
abbrev y_Written_isSection : MethodName := ⟨"FixityTrees$Written", "isSection", "(I)Z"⟩
theorem d_Written_isSection_0 : decode b_Written_isSection 0 = .ok (.aload_n 0, 1) := by decide +kernel
theorem d_Written_isSection_1 : decode b_Written_isSection 1 = .ok (.getfield 35, 3) := by decide +kernel
theorem d_Written_isSection_4 : decode b_Written_isSection 4 = .ok (.iload_n 1, 1) := by decide +kernel
theorem d_Written_isSection_5 : decode b_Written_isSection 5 = .ok (.invokevirtual 97, 3) := by decide +kernel
theorem d_Written_isSection_8 : decode b_Written_isSection 8 = .ok (.istore_n 2, 1) := by decide +kernel
theorem d_Written_isSection_9 : decode b_Written_isSection 9 = .ok (.iload_n 2, 1) := by decide +kernel
theorem d_Written_isSection_10 : decode b_Written_isSection 10 = .ok (.iconst 3, 1) := by decide +kernel
theorem d_Written_isSection_11 : decode b_Written_isSection 11 = .ok (.if_icmp .eq 8, 3) := by decide +kernel
theorem d_Written_isSection_14 : decode b_Written_isSection 14 = .ok (.iload_n 2, 1) := by decide +kernel
theorem d_Written_isSection_15 : decode b_Written_isSection 15 = .ok (.iconst 4, 1) := by decide +kernel
theorem d_Written_isSection_16 : decode b_Written_isSection 16 = .ok (.if_icmp .ne 7, 3) := by decide +kernel
theorem d_Written_isSection_19 : decode b_Written_isSection 19 = .ok (.iconst 1, 1) := by decide +kernel
theorem d_Written_isSection_20 : decode b_Written_isSection 20 = .ok (.goto 4, 3) := by decide +kernel
theorem d_Written_isSection_23 : decode b_Written_isSection 23 = .ok (.iconst 0, 1) := by decide +kernel
theorem d_Written_isSection_24 : decode b_Written_isSection 24 = .ok (.ireturn, 1) := by decide +kernel
theorem hg_Written_isSection : fx_mw fx_g "FixityTrees$Written" y_Written_isSection b_Written_isSection 3 (some .boolean) := ⟨fx_in 796 (by decide +kernel) (by decide +kernel), fx_inp 30 (by decide +kernel) (by decide +kernel), fx_in 8 (by decide +kernel) (by decide +kernel), fx_in 797 (by decide +kernel) (by decide +kernel)⟩
abbrev b_Written_put : ByteArray := prog_8_method_14_code
abbrev y_Written_put : MethodName := ⟨"FixityTrees$Written", "put", "(IIIIJ)V"⟩
theorem d_Written_put_0 : decode b_Written_put 0 = .ok (.aload_n 0, 1) := by decide +kernel
theorem d_Written_put_1 : decode b_Written_put 1 = .ok (.iload_n 1, 1) := by decide +kernel
theorem d_Written_put_2 : decode b_Written_put 2 = .ok (.invokevirtual 50, 3) := by decide +kernel
theorem d_Written_put_5 : decode b_Written_put 5 = .ok (.ifCond .eq 33, 3) := by decide +kernel
theorem d_Written_put_8 : decode b_Written_put 8 = .ok (.aload_n 0, 1) := by decide +kernel
theorem d_Written_put_9 : decode b_Written_put 9 = .ok (.getfield 9, 3) := by decide +kernel
theorem d_Written_put_12 : decode b_Written_put 12 = .ok (.iload_n 1, 1) := by decide +kernel
theorem d_Written_put_13 : decode b_Written_put 13 = .ok (.iload_n 2, 1) := by decide +kernel
theorem d_Written_put_14 : decode b_Written_put 14 = .ok (.iastore, 1) := by decide +kernel
theorem d_Written_put_15 : decode b_Written_put 15 = .ok (.aload_n 0, 1) := by decide +kernel
theorem d_Written_put_16 : decode b_Written_put 16 = .ok (.getfield 15, 3) := by decide +kernel
theorem d_Written_put_19 : decode b_Written_put 19 = .ok (.iload_n 1, 1) := by decide +kernel
theorem d_Written_put_20 : decode b_Written_put 20 = .ok (.iload_n 3, 1) := by decide +kernel
theorem d_Written_put_21 : decode b_Written_put 21 = .ok (.iastore, 1) := by decide +kernel
theorem d_Written_put_22 : decode b_Written_put 22 = .ok (.aload_n 0, 1) := by decide +kernel
theorem d_Written_put_23 : decode b_Written_put 23 = .ok (.getfield 18, 3) := by decide +kernel
theorem d_Written_put_26 : decode b_Written_put 26 = .ok (.iload_n 1, 1) := by decide +kernel
theorem d_Written_put_27 : decode b_Written_put 27 = .ok (.iload 4, 2) := by decide +kernel
theorem d_Written_put_29 : decode b_Written_put 29 = .ok (.iastore, 1) := by decide +kernel
theorem d_Written_put_30 : decode b_Written_put 30 = .ok (.aload_n 0, 1) := by decide +kernel
theorem d_Written_put_31 : decode b_Written_put 31 = .ok (.getfield 21, 3) := by decide +kernel
theorem d_Written_put_34 : decode b_Written_put 34 = .ok (.iload_n 1, 1) := by decide +kernel
theorem d_Written_put_35 : decode b_Written_put 35 = .ok (.lload 5, 2) := by decide +kernel
theorem d_Written_put_37 : decode b_Written_put 37 = .ok (.lastore, 1) := by decide +kernel
theorem d_Written_put_38 : decode b_Written_put 38 = .ok (.return_, 1) := by decide +kernel
theorem hg_Written_put : fx_mw fx_g "FixityTrees$Written" y_Written_put b_Written_put 7 none := ⟨fx_in 841 (by decide +kernel) (by decide +kernel), fx_inp 39 (by decide +kernel) (by decide +kernel), fx_in 8 (by decide +kernel) (by decide +kernel), fx_in 842 (by decide +kernel) (by decide +kernel)⟩
abbrev b_Written_lay : ByteArray := prog_8_method_13_code
abbrev y_Written_lay : MethodName := ⟨"FixityTrees$Written", "lay", "(I)V"⟩
theorem d_Written_lay_0 : decode b_Written_lay 0 = .ok (.iload_n 1, 1) := by decide +kernel
theorem d_Written_lay_1 : decode b_Written_lay 1 = .ok (.invokestatic 115, 3) := by decide +kernel
theorem d_Written_lay_4 : decode b_Written_lay 4 = .ok (.ifCond .ne 4, 3) := by decide +kernel
theorem d_Written_lay_7 : decode b_Written_lay 7 = .ok (.return_, 1) := by decide +kernel
theorem d_Written_lay_8 : decode b_Written_lay 8 = .ok (.aload_n 0, 1) := by decide +kernel
theorem d_Written_lay_9 : decode b_Written_lay 9 = .ok (.getfield 32, 3) := by decide +kernel
theorem d_Written_lay_12 : decode b_Written_lay 12 = .ok (.iload_n 1, 1) := by decide +kernel
theorem d_Written_lay_13 : decode b_Written_lay 13 = .ok (.iaload, 1) := by decide +kernel
theorem d_Written_lay_14 : decode b_Written_lay 14 = .ok (.istore_n 2, 1) := by decide +kernel
theorem d_Written_lay_15 : decode b_Written_lay 15 = .ok (.aload_n 0, 1) := by decide +kernel
theorem d_Written_lay_16 : decode b_Written_lay 16 = .ok (.getfield 25, 3) := by decide +kernel
theorem d_Written_lay_19 : decode b_Written_lay 19 = .ok (.iload_n 1, 1) := by decide +kernel
theorem d_Written_lay_20 : decode b_Written_lay 20 = .ok (.baload, 1) := by decide +kernel
theorem d_Written_lay_21 : decode b_Written_lay 21 = .ok (.ifCond .eq 33, 3) := by decide +kernel
theorem d_Written_lay_24 : decode b_Written_lay 24 = .ok (.aload_n 0, 1) := by decide +kernel
theorem d_Written_lay_25 : decode b_Written_lay 25 = .ok (.iload_n 2, 1) := by decide +kernel
theorem d_Written_lay_26 : decode b_Written_lay 26 = .ok (.iconst 3, 1) := by decide +kernel
theorem d_Written_lay_27 : decode b_Written_lay 27 = .ok (.iconst (-1), 1) := by decide +kernel
theorem d_Written_lay_28 : decode b_Written_lay 28 = .ok (.iload_n 1, 1) := by decide +kernel
theorem d_Written_lay_29 : decode b_Written_lay 29 = .ok (.lconst 0, 1) := by decide +kernel
theorem d_Written_lay_30 : decode b_Written_lay 30 = .ok (.invokevirtual 118, 3) := by decide +kernel
theorem d_Written_lay_33 : decode b_Written_lay 33 = .ok (.aload_n 0, 1) := by decide +kernel
theorem d_Written_lay_34 : decode b_Written_lay 34 = .ok (.iload_n 2, 1) := by decide +kernel
theorem d_Written_lay_35 : decode b_Written_lay 35 = .ok (.aload_n 0, 1) := by decide +kernel
theorem d_Written_lay_36 : decode b_Written_lay 36 = .ok (.getfield 29, 3) := by decide +kernel
theorem d_Written_lay_39 : decode b_Written_lay 39 = .ok (.iload_n 1, 1) := by decide +kernel
theorem d_Written_lay_40 : decode b_Written_lay 40 = .ok (.iaload, 1) := by decide +kernel
theorem d_Written_lay_41 : decode b_Written_lay 41 = .ok (.iadd, 1) := by decide +kernel
theorem d_Written_lay_42 : decode b_Written_lay 42 = .ok (.iconst 1, 1) := by decide +kernel
theorem d_Written_lay_43 : decode b_Written_lay 43 = .ok (.isub, 1) := by decide +kernel
theorem d_Written_lay_44 : decode b_Written_lay 44 = .ok (.iconst 4, 1) := by decide +kernel
theorem d_Written_lay_45 : decode b_Written_lay 45 = .ok (.iconst (-1), 1) := by decide +kernel
theorem d_Written_lay_46 : decode b_Written_lay 46 = .ok (.iload_n 1, 1) := by decide +kernel
theorem d_Written_lay_47 : decode b_Written_lay 47 = .ok (.lconst 0, 1) := by decide +kernel
theorem d_Written_lay_48 : decode b_Written_lay 48 = .ok (.invokevirtual 118, 3) := by decide +kernel
theorem d_Written_lay_51 : decode b_Written_lay 51 = .ok (.iinc 2 1, 3) := by decide +kernel
theorem d_Written_lay_54 : decode b_Written_lay 54 = .ok (.aload_n 0, 1) := by decide +kernel
theorem d_Written_lay_55 : decode b_Written_lay 55 = .ok (.getfield 35, 3) := by decide +kernel
theorem d_Written_lay_58 : decode b_Written_lay 58 = .ok (.iload_n 1, 1) := by decide +kernel
theorem d_Written_lay_59 : decode b_Written_lay 59 = .ok (.invokevirtual 66, 3) := by decide +kernel
theorem d_Written_lay_62 : decode b_Written_lay 62 = .ok (.istore_n 3, 1) := by decide +kernel
theorem d_Written_lay_63 : decode b_Written_lay 63 = .ok (.aload_n 0, 1) := by decide +kernel
theorem d_Written_lay_64 : decode b_Written_lay 64 = .ok (.iload_n 1, 1) := by decide +kernel
theorem d_Written_lay_65 : decode b_Written_lay 65 = .ok (.invokevirtual 70, 3) := by decide +kernel
theorem d_Written_lay_68 : decode b_Written_lay 68 = .ok (.ifCond .eq 13, 3) := by decide +kernel
theorem d_Written_lay_71 : decode b_Written_lay 71 = .ok (.iload_n 2, 1) := by decide +kernel
theorem d_Written_lay_72 : decode b_Written_lay 72 = .ok (.aload_n 0, 1) := by decide +kernel
theorem d_Written_lay_73 : decode b_Written_lay 73 = .ok (.iload_n 3, 1) := by decide +kernel
theorem d_Written_lay_74 : decode b_Written_lay 74 = .ok (.invokevirtual 84, 3) := by decide +kernel
theorem d_Written_lay_77 : decode b_Written_lay 77 = .ok (.iadd, 1) := by decide +kernel
theorem d_Written_lay_78 : decode b_Written_lay 78 = .ok (.goto 4, 3) := by decide +kernel
theorem d_Written_lay_81 : decode b_Written_lay 81 = .ok (.iload_n 2, 1) := by decide +kernel
theorem d_Written_lay_82 : decode b_Written_lay 82 = .ok (.istore 4, 2) := by decide +kernel
theorem d_Written_lay_84 : decode b_Written_lay 84 = .ok (.aload_n 0, 1) := by decide +kernel
theorem d_Written_lay_85 : decode b_Written_lay 85 = .ok (.iload 4, 2) := by decide +kernel
theorem d_Written_lay_87 : decode b_Written_lay 87 = .ok (.aload_n 0, 1) := by decide +kernel
theorem d_Written_lay_88 : decode b_Written_lay 88 = .ok (.iload_n 1, 1) := by decide +kernel
theorem d_Written_lay_89 : decode b_Written_lay 89 = .ok (.invokevirtual 59, 3) := by decide +kernel
theorem d_Written_lay_92 : decode b_Written_lay 92 = .ok (.ifCond .eq 7, 3) := by decide +kernel
theorem d_Written_lay_95 : decode b_Written_lay 95 = .ok (.iconst 1, 1) := by decide +kernel
theorem d_Written_lay_96 : decode b_Written_lay 96 = .ok (.goto 11, 3) := by decide +kernel
theorem d_Written_lay_99 : decode b_Written_lay 99 = .ok (.aload_n 0, 1) := by decide +kernel
theorem d_Written_lay_100 : decode b_Written_lay 100 = .ok (.getfield 35, 3) := by decide +kernel
theorem d_Written_lay_103 : decode b_Written_lay 103 = .ok (.iload_n 1, 1) := by decide +kernel
theorem d_Written_lay_104 : decode b_Written_lay 104 = .ok (.invokevirtual 97, 3) := by decide +kernel
theorem d_Written_lay_107 : decode b_Written_lay 107 = .ok (.aload_n 0, 1) := by decide +kernel
theorem d_Written_lay_108 : decode b_Written_lay 108 = .ok (.getfield 35, 3) := by decide +kernel
theorem d_Written_lay_111 : decode b_Written_lay 111 = .ok (.iload_n 1, 1) := by decide +kernel
theorem d_Written_lay_112 : decode b_Written_lay 112 = .ok (.invokevirtual 100, 3) := by decide +kernel
theorem d_Written_lay_115 : decode b_Written_lay 115 = .ok (.iload_n 1, 1) := by decide +kernel
theorem d_Written_lay_116 : decode b_Written_lay 116 = .ok (.aload_n 0, 1) := by decide +kernel
theorem d_Written_lay_117 : decode b_Written_lay 117 = .ok (.getfield 35, 3) := by decide +kernel
theorem d_Written_lay_120 : decode b_Written_lay 120 = .ok (.iload_n 1, 1) := by decide +kernel
theorem d_Written_lay_121 : decode b_Written_lay 121 = .ok (.invokevirtual 122, 3) := by decide +kernel
theorem d_Written_lay_124 : decode b_Written_lay 124 = .ok (.invokevirtual 118, 3) := by decide +kernel
theorem d_Written_lay_127 : decode b_Written_lay 127 = .ok (.aload_n 0, 1) := by decide +kernel
theorem d_Written_lay_128 : decode b_Written_lay 128 = .ok (.iload_n 3, 1) := by decide +kernel
theorem d_Written_lay_129 : decode b_Written_lay 129 = .ok (.aload_n 0, 1) := by decide +kernel
theorem d_Written_lay_130 : decode b_Written_lay 130 = .ok (.iload_n 1, 1) := by decide +kernel
theorem d_Written_lay_131 : decode b_Written_lay 131 = .ok (.invokevirtual 70, 3) := by decide +kernel
theorem d_Written_lay_134 : decode b_Written_lay 134 = .ok (.ifCond .eq 7, 3) := by decide +kernel
theorem d_Written_lay_137 : decode b_Written_lay 137 = .ok (.iload_n 2, 1) := by decide +kernel
theorem d_Written_lay_138 : decode b_Written_lay 138 = .ok (.goto 7, 3) := by decide +kernel
theorem d_Written_lay_141 : decode b_Written_lay 141 = .ok (.iload 4, 2) := by decide +kernel
theorem d_Written_lay_143 : decode b_Written_lay 143 = .ok (.iconst 1, 1) := by decide +kernel
theorem d_Written_lay_144 : decode b_Written_lay 144 = .ok (.iadd, 1) := by decide +kernel
theorem d_Written_lay_145 : decode b_Written_lay 145 = .ok (.invokevirtual 87, 3) := by decide +kernel
theorem d_Written_lay_148 : decode b_Written_lay 148 = .ok (.aload_n 0, 1) := by decide +kernel
theorem d_Written_lay_149 : decode b_Written_lay 149 = .ok (.aload_n 0, 1) := by decide +kernel
theorem d_Written_lay_150 : decode b_Written_lay 150 = .ok (.getfield 35, 3) := by decide +kernel
theorem d_Written_lay_153 : decode b_Written_lay 153 = .ok (.iload_n 1, 1) := by decide +kernel
theorem d_Written_lay_154 : decode b_Written_lay 154 = .ok (.invokevirtual 77, 3) := by decide +kernel
theorem d_Written_lay_157 : decode b_Written_lay 157 = .ok (.iload 4, 2) := by decide +kernel
theorem d_Written_lay_159 : decode b_Written_lay 159 = .ok (.iconst 1, 1) := by decide +kernel
theorem d_Written_lay_160 : decode b_Written_lay 160 = .ok (.iadd, 1) := by decide +kernel
theorem d_Written_lay_161 : decode b_Written_lay 161 = .ok (.invokevirtual 87, 3) := by decide +kernel
theorem d_Written_lay_164 : decode b_Written_lay 164 = .ok (.return_, 1) := by decide +kernel
theorem hg_Written_lay : fx_mw fx_g "FixityTrees$Written" y_Written_lay b_Written_lay 5 none := ⟨fx_in 837 (by decide +kernel) (by decide +kernel), fx_inp 38 (by decide +kernel) (by decide +kernel), fx_in 8 (by decide +kernel) (by decide +kernel), fx_in 838 (by decide +kernel) (by decide +kernel)⟩
abbrev b_Written_measure : ByteArray := prog_8_method_12_code
abbrev y_Written_measure : MethodName := ⟨"FixityTrees$Written", "measure", "(I)V"⟩
theorem d_Written_measure_0 : decode b_Written_measure 0 = .ok (.iload_n 1, 1) := by decide +kernel
theorem d_Written_measure_1 : decode b_Written_measure 1 = .ok (.invokestatic 115, 3) := by decide +kernel
theorem d_Written_measure_4 : decode b_Written_measure 4 = .ok (.ifCond .eq 51, 3) := by decide +kernel
theorem d_Written_measure_7 : decode b_Written_measure 7 = .ok (.aload_n 0, 1) := by decide +kernel
theorem d_Written_measure_8 : decode b_Written_measure 8 = .ok (.getfield 25, 3) := by decide +kernel
theorem d_Written_measure_11 : decode b_Written_measure 11 = .ok (.iload_n 1, 1) := by decide +kernel
theorem d_Written_measure_12 : decode b_Written_measure 12 = .ok (.baload, 1) := by decide +kernel
theorem d_Written_measure_13 : decode b_Written_measure 13 = .ok (.ifCond .eq 7, 3) := by decide +kernel
theorem d_Written_measure_16 : decode b_Written_measure 16 = .ok (.iconst 3, 1) := by decide +kernel
theorem d_Written_measure_17 : decode b_Written_measure 17 = .ok (.goto 4, 3) := by decide +kernel
theorem d_Written_measure_20 : decode b_Written_measure 20 = .ok (.iconst 1, 1) := by decide +kernel
theorem d_Written_measure_21 : decode b_Written_measure 21 = .ok (.istore_n 2, 1) := by decide +kernel
theorem d_Written_measure_22 : decode b_Written_measure 22 = .ok (.aload_n 0, 1) := by decide +kernel
theorem d_Written_measure_23 : decode b_Written_measure 23 = .ok (.getfield 29, 3) := by decide +kernel
theorem d_Written_measure_26 : decode b_Written_measure 26 = .ok (.iload_n 1, 1) := by decide +kernel
theorem d_Written_measure_27 : decode b_Written_measure 27 = .ok (.iload_n 2, 1) := by decide +kernel
theorem d_Written_measure_28 : decode b_Written_measure 28 = .ok (.aload_n 0, 1) := by decide +kernel
theorem d_Written_measure_29 : decode b_Written_measure 29 = .ok (.aload_n 0, 1) := by decide +kernel
theorem d_Written_measure_30 : decode b_Written_measure 30 = .ok (.getfield 35, 3) := by decide +kernel
theorem d_Written_measure_33 : decode b_Written_measure 33 = .ok (.iload_n 1, 1) := by decide +kernel
theorem d_Written_measure_34 : decode b_Written_measure 34 = .ok (.invokevirtual 66, 3) := by decide +kernel
theorem d_Written_measure_37 : decode b_Written_measure 37 = .ok (.invokevirtual 84, 3) := by decide +kernel
theorem d_Written_measure_40 : decode b_Written_measure 40 = .ok (.iadd, 1) := by decide +kernel
theorem d_Written_measure_41 : decode b_Written_measure 41 = .ok (.aload_n 0, 1) := by decide +kernel
theorem d_Written_measure_42 : decode b_Written_measure 42 = .ok (.aload_n 0, 1) := by decide +kernel
theorem d_Written_measure_43 : decode b_Written_measure 43 = .ok (.getfield 35, 3) := by decide +kernel
theorem d_Written_measure_46 : decode b_Written_measure 46 = .ok (.iload_n 1, 1) := by decide +kernel
theorem d_Written_measure_47 : decode b_Written_measure 47 = .ok (.invokevirtual 77, 3) := by decide +kernel
theorem d_Written_measure_50 : decode b_Written_measure 50 = .ok (.invokevirtual 84, 3) := by decide +kernel
theorem d_Written_measure_53 : decode b_Written_measure 53 = .ok (.iadd, 1) := by decide +kernel
theorem d_Written_measure_54 : decode b_Written_measure 54 = .ok (.iastore, 1) := by decide +kernel
theorem d_Written_measure_55 : decode b_Written_measure 55 = .ok (.return_, 1) := by decide +kernel
theorem hg_Written_measure : fx_mw fx_g "FixityTrees$Written" y_Written_measure b_Written_measure 3 none := ⟨fx_in 825 (by decide +kernel) (by decide +kernel), fx_inp 35 (by decide +kernel) (by decide +kernel), fx_in 8 (by decide +kernel) (by decide +kernel), fx_in 826 (by decide +kernel) (by decide +kernel)⟩
abbrev b_Written_fits : ByteArray := prog_8_method_11_code
abbrev y_Written_fits : MethodName := ⟨"FixityTrees$Written", "fits", "(III)Z"⟩
theorem d_Written_fits_0 : decode b_Written_fits 0 = .ok (.aload_n 0, 1) := by decide +kernel
theorem d_Written_fits_1 : decode b_Written_fits 1 = .ok (.getfield 39, 3) := by decide +kernel
theorem d_Written_fits_4 : decode b_Written_fits 4 = .ok (.iload_n 1, 1) := by decide +kernel
theorem d_Written_fits_5 : decode b_Written_fits 5 = .ok (.invokevirtual 107, 3) := by decide +kernel
theorem d_Written_fits_8 : decode b_Written_fits 8 = .ok (.istore 4, 2) := by decide +kernel
theorem d_Written_fits_10 : decode b_Written_fits 10 = .ok (.aload_n 0, 1) := by decide +kernel
theorem d_Written_fits_11 : decode b_Written_fits 11 = .ok (.getfield 39, 3) := by decide +kernel
theorem d_Written_fits_14 : decode b_Written_fits 14 = .ok (.iload_n 2, 1) := by decide +kernel
theorem d_Written_fits_15 : decode b_Written_fits 15 = .ok (.invokevirtual 107, 3) := by decide +kernel
theorem d_Written_fits_18 : decode b_Written_fits 18 = .ok (.istore 5, 2) := by decide +kernel
theorem d_Written_fits_20 : decode b_Written_fits 20 = .ok (.iload 4, 2) := by decide +kernel
theorem d_Written_fits_22 : decode b_Written_fits 22 = .ok (.iload 5, 2) := by decide +kernel
theorem d_Written_fits_24 : decode b_Written_fits 24 = .ok (.if_icmp .eq 16, 3) := by decide +kernel
theorem d_Written_fits_27 : decode b_Written_fits 27 = .ok (.iload 4, 2) := by decide +kernel
theorem d_Written_fits_29 : decode b_Written_fits 29 = .ok (.iload 5, 2) := by decide +kernel
theorem d_Written_fits_31 : decode b_Written_fits 31 = .ok (.if_icmp .le 7, 3) := by decide +kernel
theorem d_Written_fits_34 : decode b_Written_fits 34 = .ok (.iconst 1, 1) := by decide +kernel
theorem d_Written_fits_35 : decode b_Written_fits 35 = .ok (.goto 4, 3) := by decide +kernel
theorem d_Written_fits_38 : decode b_Written_fits 38 = .ok (.iconst 0, 1) := by decide +kernel
theorem d_Written_fits_39 : decode b_Written_fits 39 = .ok (.ireturn, 1) := by decide +kernel
theorem d_Written_fits_40 : decode b_Written_fits 40 = .ok (.aload_n 0, 1) := by decide +kernel
theorem d_Written_fits_41 : decode b_Written_fits 41 = .ok (.getfield 39, 3) := by decide +kernel
theorem d_Written_fits_44 : decode b_Written_fits 44 = .ok (.iload_n 1, 1) := by decide +kernel
theorem d_Written_fits_45 : decode b_Written_fits 45 = .ok (.invokevirtual 112, 3) := by decide +kernel
theorem d_Written_fits_48 : decode b_Written_fits 48 = .ok (.iload_n 3, 1) := by decide +kernel
theorem d_Written_fits_49 : decode b_Written_fits 49 = .ok (.if_icmp .ne 19, 3) := by decide +kernel
theorem d_Written_fits_52 : decode b_Written_fits 52 = .ok (.aload_n 0, 1) := by decide +kernel
theorem d_Written_fits_53 : decode b_Written_fits 53 = .ok (.getfield 39, 3) := by decide +kernel
theorem d_Written_fits_56 : decode b_Written_fits 56 = .ok (.iload_n 2, 1) := by decide +kernel
theorem d_Written_fits_57 : decode b_Written_fits 57 = .ok (.invokevirtual 112, 3) := by decide +kernel
theorem d_Written_fits_60 : decode b_Written_fits 60 = .ok (.iload_n 3, 1) := by decide +kernel
theorem d_Written_fits_61 : decode b_Written_fits 61 = .ok (.if_icmp .ne 7, 3) := by decide +kernel
theorem d_Written_fits_64 : decode b_Written_fits 64 = .ok (.iconst 1, 1) := by decide +kernel
theorem d_Written_fits_65 : decode b_Written_fits 65 = .ok (.goto 4, 3) := by decide +kernel
theorem d_Written_fits_68 : decode b_Written_fits 68 = .ok (.iconst 0, 1) := by decide +kernel
theorem d_Written_fits_69 : decode b_Written_fits 69 = .ok (.ireturn, 1) := by decide +kernel
theorem hg_Written_fits : fx_mw fx_g "FixityTrees$Written" y_Written_fits b_Written_fits 6 (some .boolean) := ⟨fx_in 818 (by decide +kernel) (by decide +kernel), fx_inp 34 (by decide +kernel) (by decide +kernel), fx_in 8 (by decide +kernel) (by decide +kernel), fx_in 819 (by decide +kernel) (by decide +kernel)⟩
abbrev b_Written_setBrackets : ByteArray := prog_8_method_18_code
abbrev y_Written_setBrackets : MethodName := ⟨"FixityTrees$Written", "setBrackets", "(IZ)V"⟩
theorem d_Written_setBrackets_0 : decode b_Written_setBrackets 0 = .ok (.iload_n 1, 1) := by decide +kernel
theorem d_Written_setBrackets_1 : decode b_Written_setBrackets 1 = .ok (.invokestatic 115, 3) := by decide +kernel
theorem d_Written_setBrackets_4 : decode b_Written_setBrackets 4 = .ok (.ifCond .eq 10, 3) := by decide +kernel
theorem d_Written_setBrackets_7 : decode b_Written_setBrackets 7 = .ok (.aload_n 0, 1) := by decide +kernel
theorem d_Written_setBrackets_8 : decode b_Written_setBrackets 8 = .ok (.getfield 25, 3) := by decide +kernel
theorem d_Written_setBrackets_11 : decode b_Written_setBrackets 11 = .ok (.iload_n 1, 1) := by decide +kernel
theorem d_Written_setBrackets_12 : decode b_Written_setBrackets 12 = .ok (.iload_n 2, 1) := by decide +kernel
theorem d_Written_setBrackets_13 : decode b_Written_setBrackets 13 = .ok (.bastore, 1) := by decide +kernel
theorem d_Written_setBrackets_14 : decode b_Written_setBrackets 14 = .ok (.return_, 1) := by decide +kernel
theorem hg_Written_setBrackets : fx_mw fx_g "FixityTrees$Written" y_Written_setBrackets b_Written_setBrackets 3 none := ⟨fx_in 801 (by decide +kernel) (by decide +kernel), fx_inp 31 (by decide +kernel) (by decide +kernel), fx_in 8 (by decide +kernel) (by decide +kernel), fx_in 802 (by decide +kernel) (by decide +kernel)⟩
abbrev b_Written_bracketUnlessFit : ByteArray := prog_8_method_10_code
abbrev y_Written_bracketUnlessFit : MethodName := ⟨"FixityTrees$Written", "bracketUnlessFit", "(III)V"⟩
theorem d_Written_bracketUnlessFit_0 : decode b_Written_bracketUnlessFit 0 = .ok (.aload_n 0, 1) := by decide +kernel
theorem d_Written_bracketUnlessFit_1 : decode b_Written_bracketUnlessFit 1 = .ok (.getfield 35, 3) := by decide +kernel
theorem d_Written_bracketUnlessFit_4 : decode b_Written_bracketUnlessFit 4 = .ok (.iload_n 2, 1) := by decide +kernel
theorem d_Written_bracketUnlessFit_5 : decode b_Written_bracketUnlessFit 5 = .ok (.invokevirtual 97, 3) := by decide +kernel
theorem d_Written_bracketUnlessFit_8 : decode b_Written_bracketUnlessFit 8 = .ok (.istore 4, 2) := by decide +kernel
theorem d_Written_bracketUnlessFit_10 : decode b_Written_bracketUnlessFit 10 = .ok (.iload 4, 2) := by decide +kernel
theorem d_Written_bracketUnlessFit_12 : decode b_Written_bracketUnlessFit 12 = .ok (.iconst 1, 1) := by decide +kernel
theorem d_Written_bracketUnlessFit_13 : decode b_Written_bracketUnlessFit 13 = .ok (.if_icmp .eq 9, 3) := by decide +kernel
theorem d_Written_bracketUnlessFit_16 : decode b_Written_bracketUnlessFit 16 = .ok (.iload 4, 2) := by decide +kernel
theorem d_Written_bracketUnlessFit_18 : decode b_Written_bracketUnlessFit 18 = .ok (.iconst 2, 1) := by decide +kernel
theorem d_Written_bracketUnlessFit_19 : decode b_Written_bracketUnlessFit 19 = .ok (.if_icmp .ne 37, 3) := by decide +kernel
theorem d_Written_bracketUnlessFit_22 : decode b_Written_bracketUnlessFit 22 = .ok (.aload_n 0, 1) := by decide +kernel
theorem d_Written_bracketUnlessFit_23 : decode b_Written_bracketUnlessFit 23 = .ok (.iload_n 2, 1) := by decide +kernel
theorem d_Written_bracketUnlessFit_24 : decode b_Written_bracketUnlessFit 24 = .ok (.aload_n 0, 1) := by decide +kernel
theorem d_Written_bracketUnlessFit_25 : decode b_Written_bracketUnlessFit 25 = .ok (.aload_n 0, 1) := by decide +kernel
theorem d_Written_bracketUnlessFit_26 : decode b_Written_bracketUnlessFit 26 = .ok (.getfield 35, 3) := by decide +kernel
theorem d_Written_bracketUnlessFit_29 : decode b_Written_bracketUnlessFit 29 = .ok (.iload_n 2, 1) := by decide +kernel
theorem d_Written_bracketUnlessFit_30 : decode b_Written_bracketUnlessFit 30 = .ok (.invokevirtual 100, 3) := by decide +kernel
theorem d_Written_bracketUnlessFit_33 : decode b_Written_bracketUnlessFit 33 = .ok (.aload_n 0, 1) := by decide +kernel
theorem d_Written_bracketUnlessFit_34 : decode b_Written_bracketUnlessFit 34 = .ok (.getfield 35, 3) := by decide +kernel
theorem d_Written_bracketUnlessFit_37 : decode b_Written_bracketUnlessFit 37 = .ok (.iload_n 1, 1) := by decide +kernel
theorem d_Written_bracketUnlessFit_38 : decode b_Written_bracketUnlessFit 38 = .ok (.invokevirtual 100, 3) := by decide +kernel
theorem d_Written_bracketUnlessFit_41 : decode b_Written_bracketUnlessFit 41 = .ok (.iload_n 3, 1) := by decide +kernel
theorem d_Written_bracketUnlessFit_42 : decode b_Written_bracketUnlessFit 42 = .ok (.invokevirtual 103, 3) := by decide +kernel
theorem d_Written_bracketUnlessFit_45 : decode b_Written_bracketUnlessFit 45 = .ok (.ifCond .ne 7, 3) := by decide +kernel
theorem d_Written_bracketUnlessFit_48 : decode b_Written_bracketUnlessFit 48 = .ok (.iconst 1, 1) := by decide +kernel
theorem d_Written_bracketUnlessFit_49 : decode b_Written_bracketUnlessFit 49 = .ok (.goto 4, 3) := by decide +kernel
theorem d_Written_bracketUnlessFit_52 : decode b_Written_bracketUnlessFit 52 = .ok (.iconst 0, 1) := by decide +kernel
theorem d_Written_bracketUnlessFit_53 : decode b_Written_bracketUnlessFit 53 = .ok (.invokevirtual 62, 3) := by decide +kernel
theorem d_Written_bracketUnlessFit_56 : decode b_Written_bracketUnlessFit 56 = .ok (.return_, 1) := by decide +kernel
theorem hg_Written_bracketUnlessFit : fx_mw fx_g "FixityTrees$Written" y_Written_bracketUnlessFit b_Written_bracketUnlessFit 5 none := ⟨fx_in 813 (by decide +kernel) (by decide +kernel), fx_inp 33 (by decide +kernel) (by decide +kernel), fx_in 8 (by decide +kernel) (by decide +kernel), fx_in 814 (by decide +kernel) (by decide +kernel)⟩
abbrev b_Written_fill : ByteArray := prog_8_method_9_code
abbrev y_Written_fill : MethodName := ⟨"FixityTrees$Written", "fill", "()V"⟩
theorem d_Written_fill_0 : decode b_Written_fill 0 = .ok (.iconst 0, 1) := by decide +kernel
theorem d_Written_fill_1 : decode b_Written_fill 1 = .ok (.istore_n 1, 1) := by decide +kernel
theorem d_Written_fill_2 : decode b_Written_fill 2 = .ok (.iload_n 1, 1) := by decide +kernel
theorem d_Written_fill_3 : decode b_Written_fill 3 = .ok (.aload_n 0, 1) := by decide +kernel
theorem d_Written_fill_4 : decode b_Written_fill 4 = .ok (.getfield 35, 3) := by decide +kernel
theorem d_Written_fill_7 : decode b_Written_fill 7 = .ok (.invokevirtual 54, 3) := by decide +kernel
theorem d_Written_fill_10 : decode b_Written_fill 10 = .ok (.if_icmp .ge 19, 3) := by decide +kernel
theorem d_Written_fill_13 : decode b_Written_fill 13 = .ok (.aload_n 0, 1) := by decide +kernel
theorem d_Written_fill_14 : decode b_Written_fill 14 = .ok (.iload_n 1, 1) := by decide +kernel
theorem d_Written_fill_15 : decode b_Written_fill 15 = .ok (.aload_n 0, 1) := by decide +kernel
theorem d_Written_fill_16 : decode b_Written_fill 16 = .ok (.iload_n 1, 1) := by decide +kernel
theorem d_Written_fill_17 : decode b_Written_fill 17 = .ok (.invokevirtual 59, 3) := by decide +kernel
theorem d_Written_fill_20 : decode b_Written_fill 20 = .ok (.invokevirtual 62, 3) := by decide +kernel
theorem d_Written_fill_23 : decode b_Written_fill 23 = .ok (.iinc 1 1, 3) := by decide +kernel
theorem d_Written_fill_26 : decode b_Written_fill 26 = .ok (.goto (-24), 3) := by decide +kernel
theorem d_Written_fill_29 : decode b_Written_fill 29 = .ok (.iconst 0, 1) := by decide +kernel
theorem d_Written_fill_30 : decode b_Written_fill 30 = .ok (.istore_n 1, 1) := by decide +kernel
theorem d_Written_fill_31 : decode b_Written_fill 31 = .ok (.iload_n 1, 1) := by decide +kernel
theorem d_Written_fill_32 : decode b_Written_fill 32 = .ok (.aload_n 0, 1) := by decide +kernel
theorem d_Written_fill_33 : decode b_Written_fill 33 = .ok (.getfield 35, 3) := by decide +kernel
theorem d_Written_fill_36 : decode b_Written_fill 36 = .ok (.invokevirtual 54, 3) := by decide +kernel
theorem d_Written_fill_39 : decode b_Written_fill 39 = .ok (.if_icmp .ge 49, 3) := by decide +kernel
theorem d_Written_fill_42 : decode b_Written_fill 42 = .ok (.aload_n 0, 1) := by decide +kernel
theorem d_Written_fill_43 : decode b_Written_fill 43 = .ok (.iload_n 1, 1) := by decide +kernel
theorem d_Written_fill_44 : decode b_Written_fill 44 = .ok (.aload_n 0, 1) := by decide +kernel
theorem d_Written_fill_45 : decode b_Written_fill 45 = .ok (.getfield 35, 3) := by decide +kernel
theorem d_Written_fill_48 : decode b_Written_fill 48 = .ok (.iload_n 1, 1) := by decide +kernel
theorem d_Written_fill_49 : decode b_Written_fill 49 = .ok (.invokevirtual 66, 3) := by decide +kernel
theorem d_Written_fill_52 : decode b_Written_fill 52 = .ok (.aload_n 0, 1) := by decide +kernel
theorem d_Written_fill_53 : decode b_Written_fill 53 = .ok (.iload_n 1, 1) := by decide +kernel
theorem d_Written_fill_54 : decode b_Written_fill 54 = .ok (.invokevirtual 70, 3) := by decide +kernel
theorem d_Written_fill_57 : decode b_Written_fill 57 = .ok (.ifCond .eq 7, 3) := by decide +kernel
theorem d_Written_fill_60 : decode b_Written_fill 60 = .ok (.iconst 0, 1) := by decide +kernel
theorem d_Written_fill_61 : decode b_Written_fill 61 = .ok (.goto 4, 3) := by decide +kernel
theorem d_Written_fill_64 : decode b_Written_fill 64 = .ok (.iconst 1, 1) := by decide +kernel
theorem d_Written_fill_65 : decode b_Written_fill 65 = .ok (.invokevirtual 73, 3) := by decide +kernel
theorem d_Written_fill_68 : decode b_Written_fill 68 = .ok (.aload_n 0, 1) := by decide +kernel
theorem d_Written_fill_69 : decode b_Written_fill 69 = .ok (.iload_n 1, 1) := by decide +kernel
theorem d_Written_fill_70 : decode b_Written_fill 70 = .ok (.aload_n 0, 1) := by decide +kernel
theorem d_Written_fill_71 : decode b_Written_fill 71 = .ok (.getfield 35, 3) := by decide +kernel
theorem d_Written_fill_74 : decode b_Written_fill 74 = .ok (.iload_n 1, 1) := by decide +kernel
theorem d_Written_fill_75 : decode b_Written_fill 75 = .ok (.invokevirtual 77, 3) := by decide +kernel
theorem d_Written_fill_78 : decode b_Written_fill 78 = .ok (.iconst 1, 1) := by decide +kernel
theorem d_Written_fill_79 : decode b_Written_fill 79 = .ok (.invokevirtual 73, 3) := by decide +kernel
theorem d_Written_fill_82 : decode b_Written_fill 82 = .ok (.iinc 1 1, 3) := by decide +kernel
theorem d_Written_fill_85 : decode b_Written_fill 85 = .ok (.goto (-54), 3) := by decide +kernel
theorem d_Written_fill_88 : decode b_Written_fill 88 = .ok (.aload_n 0, 1) := by decide +kernel
theorem d_Written_fill_89 : decode b_Written_fill 89 = .ok (.getfield 35, 3) := by decide +kernel
theorem d_Written_fill_92 : decode b_Written_fill 92 = .ok (.invokevirtual 54, 3) := by decide +kernel
theorem d_Written_fill_95 : decode b_Written_fill 95 = .ok (.iconst 1, 1) := by decide +kernel
theorem d_Written_fill_96 : decode b_Written_fill 96 = .ok (.isub, 1) := by decide +kernel
theorem d_Written_fill_97 : decode b_Written_fill 97 = .ok (.istore_n 1, 1) := by decide +kernel
theorem d_Written_fill_98 : decode b_Written_fill 98 = .ok (.iload_n 1, 1) := by decide +kernel
theorem d_Written_fill_99 : decode b_Written_fill 99 = .ok (.ifCond .lt 14, 3) := by decide +kernel
theorem d_Written_fill_102 : decode b_Written_fill 102 = .ok (.aload_n 0, 1) := by decide +kernel
theorem d_Written_fill_103 : decode b_Written_fill 103 = .ok (.iload_n 1, 1) := by decide +kernel
theorem d_Written_fill_104 : decode b_Written_fill 104 = .ok (.invokevirtual 80, 3) := by decide +kernel
theorem d_Written_fill_107 : decode b_Written_fill 107 = .ok (.iinc 1 (-1), 3) := by decide +kernel
theorem d_Written_fill_110 : decode b_Written_fill 110 = .ok (.goto (-12), 3) := by decide +kernel
theorem d_Written_fill_113 : decode b_Written_fill 113 = .ok (.aload_n 0, 1) := by decide +kernel
theorem d_Written_fill_114 : decode b_Written_fill 114 = .ok (.aload_n 0, 1) := by decide +kernel
theorem d_Written_fill_115 : decode b_Written_fill 115 = .ok (.iconst 0, 1) := by decide +kernel
theorem d_Written_fill_116 : decode b_Written_fill 116 = .ok (.invokevirtual 84, 3) := by decide +kernel
theorem d_Written_fill_119 : decode b_Written_fill 119 = .ok (.putfield 43, 3) := by decide +kernel
theorem d_Written_fill_122 : decode b_Written_fill 122 = .ok (.aload_n 0, 1) := by decide +kernel
theorem d_Written_fill_123 : decode b_Written_fill 123 = .ok (.iconst 0, 1) := by decide +kernel
theorem d_Written_fill_124 : decode b_Written_fill 124 = .ok (.iconst 0, 1) := by decide +kernel
theorem d_Written_fill_125 : decode b_Written_fill 125 = .ok (.invokevirtual 87, 3) := by decide +kernel
theorem d_Written_fill_128 : decode b_Written_fill 128 = .ok (.iconst 0, 1) := by decide +kernel
theorem d_Written_fill_129 : decode b_Written_fill 129 = .ok (.istore_n 1, 1) := by decide +kernel
theorem d_Written_fill_130 : decode b_Written_fill 130 = .ok (.iload_n 1, 1) := by decide +kernel
theorem d_Written_fill_131 : decode b_Written_fill 131 = .ok (.aload_n 0, 1) := by decide +kernel
theorem d_Written_fill_132 : decode b_Written_fill 132 = .ok (.getfield 35, 3) := by decide +kernel
theorem d_Written_fill_135 : decode b_Written_fill 135 = .ok (.invokevirtual 54, 3) := by decide +kernel
theorem d_Written_fill_138 : decode b_Written_fill 138 = .ok (.if_icmp .ge 14, 3) := by decide +kernel
theorem d_Written_fill_141 : decode b_Written_fill 141 = .ok (.aload_n 0, 1) := by decide +kernel
theorem d_Written_fill_142 : decode b_Written_fill 142 = .ok (.iload_n 1, 1) := by decide +kernel
theorem d_Written_fill_143 : decode b_Written_fill 143 = .ok (.invokevirtual 91, 3) := by decide +kernel
theorem d_Written_fill_146 : decode b_Written_fill 146 = .ok (.iinc 1 1, 3) := by decide +kernel
theorem d_Written_fill_149 : decode b_Written_fill 149 = .ok (.goto (-19), 3) := by decide +kernel
theorem d_Written_fill_152 : decode b_Written_fill 152 = .ok (.aload_n 0, 1) := by decide +kernel
theorem d_Written_fill_153 : decode b_Written_fill 153 = .ok (.invokevirtual 94, 3) := by decide +kernel
theorem d_Written_fill_156 : decode b_Written_fill 156 = .ok (.return_, 1) := by decide +kernel
theorem hg_Written_fill : fx_mw fx_g "FixityTrees$Written" y_Written_fill b_Written_fill 2 none := ⟨fx_in 790 (by decide +kernel) (by decide +kernel), fx_in 791 (by decide +kernel) (by decide +kernel), fx_in 8 (by decide +kernel) (by decide +kernel), fx_in 792 (by decide +kernel) (by decide +kernel)⟩
abbrev b_Written_size : ByteArray := prog_8_method_2_code
abbrev y_Written_size : MethodName := ⟨"FixityTrees$Written", "size", "()I"⟩
theorem d_Written_size_0 : decode b_Written_size 0 = .ok (.aload_n 0, 1) := by decide +kernel
theorem d_Written_size_1 : decode b_Written_size 1 = .ok (.getfield 43, 3) := by decide +kernel
theorem d_Written_size_4 : decode b_Written_size 4 = .ok (.ireturn, 1) := by decide +kernel
theorem hg_Written_size : fx_mw fx_g "FixityTrees$Written" y_Written_size b_Written_size 1 (some .int) := ⟨fx_in 858 (by decide +kernel) (by decide +kernel), fx_in 859 (by decide +kernel) (by decide +kernel), fx_in 8 (by decide +kernel) (by decide +kernel), fx_in 860 (by decide +kernel) (by decide +kernel)⟩
abbrev b_FixityTrees_write : ByteArray := prog_1_method_14_code
abbrev y_FixityTrees_write : MethodName := ⟨"FixityTrees", "write", "(I)I"⟩
theorem d_FixityTrees_write_0 : decode b_FixityTrees_write 0 = .ok (.aload_n 0, 1) := by decide +kernel
theorem d_FixityTrees_write_1 : decode b_FixityTrees_write 1 = .ok (.iload_n 1, 1) := by decide +kernel
theorem d_FixityTrees_write_2 : decode b_FixityTrees_write 2 = .ok (.invokevirtual 68, 3) := by decide +kernel
theorem d_FixityTrees_write_5 : decode b_FixityTrees_write 5 = .ok (.aload_n 0, 1) := by decide +kernel
theorem d_FixityTrees_write_6 : decode b_FixityTrees_write 6 = .ok (.invokevirtual 212, 3) := by decide +kernel
theorem d_FixityTrees_write_9 : decode b_FixityTrees_write 9 = .ok (.aload_n 0, 1) := by decide +kernel
theorem d_FixityTrees_write_10 : decode b_FixityTrees_write 10 = .ok (.getfield 19, 3) := by decide +kernel
theorem d_FixityTrees_write_13 : decode b_FixityTrees_write 13 = .ok (.aload_n 0, 1) := by decide +kernel
theorem d_FixityTrees_write_14 : decode b_FixityTrees_write 14 = .ok (.getfield 12, 3) := by decide +kernel
theorem d_FixityTrees_write_17 : decode b_FixityTrees_write 17 = .ok (.iload_n 1, 1) := by decide +kernel
theorem d_FixityTrees_write_18 : decode b_FixityTrees_write 18 = .ok (.invokevirtual 155, 3) := by decide +kernel
theorem d_FixityTrees_write_21 : decode b_FixityTrees_write 21 = .ok (.aload_n 0, 1) := by decide +kernel
theorem d_FixityTrees_write_22 : decode b_FixityTrees_write 22 = .ok (.getfield 54, 3) := by decide +kernel
theorem d_FixityTrees_write_25 : decode b_FixityTrees_write 25 = .ok (.invokevirtual 215, 3) := by decide +kernel
theorem d_FixityTrees_write_28 : decode b_FixityTrees_write 28 = .ok (.aload_n 0, 1) := by decide +kernel
theorem d_FixityTrees_write_29 : decode b_FixityTrees_write 29 = .ok (.getfield 54, 3) := by decide +kernel
theorem d_FixityTrees_write_32 : decode b_FixityTrees_write 32 = .ok (.invokevirtual 218, 3) := by decide +kernel
theorem d_FixityTrees_write_35 : decode b_FixityTrees_write 35 = .ok (.ireturn, 1) := by decide +kernel
theorem hg_FixityTrees_write : fx_mw fx_g "FixityTrees" y_FixityTrees_write b_FixityTrees_write 2 (some .int) := ⟨fx_in 781 (by decide +kernel) (by decide +kernel), fx_in 782 (by decide +kernel) (by decide +kernel), fx_in 1 (by decide +kernel) (by decide +kernel), fx_in 783 (by decide +kernel) (by decide +kernel)⟩
abbrev b_Written_operatorAt : ByteArray := prog_8_method_6_code
abbrev y_Written_operatorAt : MethodName := ⟨"FixityTrees$Written", "operatorAt", "(I)I"⟩
theorem d_Written_operatorAt_0 : decode b_Written_operatorAt 0 = .ok (.aload_n 0, 1) := by decide +kernel
theorem d_Written_operatorAt_1 : decode b_Written_operatorAt 1 = .ok (.iload_n 1, 1) := by decide +kernel
theorem d_Written_operatorAt_2 : decode b_Written_operatorAt 2 = .ok (.invokevirtual 50, 3) := by decide +kernel
theorem d_Written_operatorAt_5 : decode b_Written_operatorAt 5 = .ok (.ifCond .eq 12, 3) := by decide +kernel
theorem d_Written_operatorAt_8 : decode b_Written_operatorAt 8 = .ok (.aload_n 0, 1) := by decide +kernel
theorem d_Written_operatorAt_9 : decode b_Written_operatorAt 9 = .ok (.getfield 15, 3) := by decide +kernel
theorem d_Written_operatorAt_12 : decode b_Written_operatorAt 12 = .ok (.iload_n 1, 1) := by decide +kernel
theorem d_Written_operatorAt_13 : decode b_Written_operatorAt 13 = .ok (.iaload, 1) := by decide +kernel
theorem d_Written_operatorAt_14 : decode b_Written_operatorAt 14 = .ok (.goto 4, 3) := by decide +kernel
theorem d_Written_operatorAt_17 : decode b_Written_operatorAt 17 = .ok (.iconst (-1), 1) := by decide +kernel
theorem d_Written_operatorAt_18 : decode b_Written_operatorAt 18 = .ok (.ireturn, 1) := by decide +kernel
theorem hg_Written_operatorAt : fx_mw fx_g "FixityTrees$Written" y_Written_operatorAt b_Written_operatorAt 2 (some .int) := ⟨fx_in 872 (by decide +kernel) (by decide +kernel), fx_in 873 (by decide +kernel) (by decide +kernel), fx_in 8 (by decide +kernel) (by decide +kernel), fx_in 874 (by decide +kernel) (by decide +kernel)⟩
abbrev b_Written_nodeAt : ByteArray := prog_8_method_7_code
abbrev y_Written_nodeAt : MethodName := ⟨"FixityTrees$Written", "nodeAt", "(I)I"⟩
theorem d_Written_nodeAt_0 : decode b_Written_nodeAt 0 = .ok (.aload_n 0, 1) := by decide +kernel
theorem d_Written_nodeAt_1 : decode b_Written_nodeAt 1 = .ok (.iload_n 1, 1) := by decide +kernel
theorem d_Written_nodeAt_2 : decode b_Written_nodeAt 2 = .ok (.invokevirtual 50, 3) := by decide +kernel
theorem d_Written_nodeAt_5 : decode b_Written_nodeAt 5 = .ok (.ifCond .eq 12, 3) := by decide +kernel
theorem d_Written_nodeAt_8 : decode b_Written_nodeAt 8 = .ok (.aload_n 0, 1) := by decide +kernel
theorem d_Written_nodeAt_9 : decode b_Written_nodeAt 9 = .ok (.getfield 18, 3) := by decide +kernel
theorem d_Written_nodeAt_12 : decode b_Written_nodeAt 12 = .ok (.iload_n 1, 1) := by decide +kernel
theorem d_Written_nodeAt_13 : decode b_Written_nodeAt 13 = .ok (.iaload, 1) := by decide +kernel
theorem d_Written_nodeAt_14 : decode b_Written_nodeAt 14 = .ok (.goto 4, 3) := by decide +kernel
theorem d_Written_nodeAt_17 : decode b_Written_nodeAt 17 = .ok (.iconst (-1), 1) := by decide +kernel
theorem d_Written_nodeAt_18 : decode b_Written_nodeAt 18 = .ok (.ireturn, 1) := by decide +kernel
theorem hg_Written_nodeAt : fx_mw fx_g "FixityTrees$Written" y_Written_nodeAt b_Written_nodeAt 2 (some .int) := ⟨fx_in 876 (by decide +kernel) (by decide +kernel), fx_in 877 (by decide +kernel) (by decide +kernel), fx_in 8 (by decide +kernel) (by decide +kernel), fx_in 878 (by decide +kernel) (by decide +kernel)⟩
abbrev b_FixityTrees_written : ByteArray := prog_1_method_15_code
abbrev y_FixityTrees_written : MethodName := ⟨"FixityTrees", "written", "(II)I"⟩
theorem d_FixityTrees_written_0 : decode b_FixityTrees_written 0 = .ok (.aload_n 0, 1) := by decide +kernel
theorem d_FixityTrees_written_1 : decode b_FixityTrees_written 1 = .ok (.getfield 54, 3) := by decide +kernel
theorem d_FixityTrees_written_4 : decode b_FixityTrees_written 4 = .ok (.iload_n 1, 1) := by decide +kernel
theorem d_FixityTrees_written_5 : decode b_FixityTrees_written 5 = .ok (.invokevirtual 219, 3) := by decide +kernel
theorem d_FixityTrees_written_8 : decode b_FixityTrees_written 8 = .ok (.ifCond .ne 13, 3) := by decide +kernel
theorem d_FixityTrees_written_11 : decode b_FixityTrees_written 11 = .ok (.new 184, 3) := by decide +kernel
theorem d_FixityTrees_written_14 : decode b_FixityTrees_written 14 = .ok (.dup, 1) := by decide +kernel
theorem d_FixityTrees_written_15 : decode b_FixityTrees_written 15 = .ok (.ldc 220, 2) := by decide +kernel
theorem d_FixityTrees_written_17 : decode b_FixityTrees_written 17 = .ok (.invokespecial 188, 3) := by decide +kernel
theorem d_FixityTrees_written_20 : decode b_FixityTrees_written 20 = .ok (.athrow, 1) := by decide +kernel
theorem d_FixityTrees_written_21 : decode b_FixityTrees_written 21 = .ok (.iload_n 2, 1) := by decide +kernel
theorem d_FixityTrees_written_22 : decode b_FixityTrees_written 22 = .ok (.tableswitch 53 0 2 #[26, 35, 44], 26) := by decide +kernel
theorem d_FixityTrees_written_48 : decode b_FixityTrees_written 48 = .ok (.aload_n 0, 1) := by decide +kernel
theorem d_FixityTrees_written_49 : decode b_FixityTrees_written 49 = .ok (.getfield 54, 3) := by decide +kernel
theorem d_FixityTrees_written_52 : decode b_FixityTrees_written 52 = .ok (.iload_n 1, 1) := by decide +kernel
theorem d_FixityTrees_written_53 : decode b_FixityTrees_written 53 = .ok (.invokevirtual 222, 3) := by decide +kernel
theorem d_FixityTrees_written_56 : decode b_FixityTrees_written 56 = .ok (.ireturn, 1) := by decide +kernel
theorem d_FixityTrees_written_57 : decode b_FixityTrees_written 57 = .ok (.aload_n 0, 1) := by decide +kernel
theorem d_FixityTrees_written_58 : decode b_FixityTrees_written 58 = .ok (.getfield 54, 3) := by decide +kernel
theorem d_FixityTrees_written_61 : decode b_FixityTrees_written 61 = .ok (.iload_n 1, 1) := by decide +kernel
theorem d_FixityTrees_written_62 : decode b_FixityTrees_written 62 = .ok (.invokevirtual 223, 3) := by decide +kernel
theorem d_FixityTrees_written_65 : decode b_FixityTrees_written 65 = .ok (.ireturn, 1) := by decide +kernel
theorem d_FixityTrees_written_66 : decode b_FixityTrees_written 66 = .ok (.aload_n 0, 1) := by decide +kernel
theorem d_FixityTrees_written_67 : decode b_FixityTrees_written 67 = .ok (.getfield 54, 3) := by decide +kernel
theorem d_FixityTrees_written_70 : decode b_FixityTrees_written 70 = .ok (.iload_n 1, 1) := by decide +kernel
theorem d_FixityTrees_written_71 : decode b_FixityTrees_written 71 = .ok (.invokevirtual 224, 3) := by decide +kernel
theorem d_FixityTrees_written_74 : decode b_FixityTrees_written 74 = .ok (.ireturn, 1) := by decide +kernel
theorem d_FixityTrees_written_75 : decode b_FixityTrees_written 75 = .ok (.new 98, 3) := by decide +kernel
theorem d_FixityTrees_written_78 : decode b_FixityTrees_written 78 = .ok (.dup, 1) := by decide +kernel
theorem d_FixityTrees_written_79 : decode b_FixityTrees_written 79 = .ok (.ldc 119, 2) := by decide +kernel
theorem d_FixityTrees_written_81 : decode b_FixityTrees_written 81 = .ok (.invokespecial 102, 3) := by decide +kernel
theorem d_FixityTrees_written_84 : decode b_FixityTrees_written 84 = .ok (.athrow, 1) := by decide +kernel
theorem hg_FixityTrees_written : fx_mw fx_g "FixityTrees" y_FixityTrees_written b_FixityTrees_written 3 (some .int) := ⟨fx_in 865 (by decide +kernel) (by decide +kernel), fx_in 866 (by decide +kernel) (by decide +kernel), fx_in 1 (by decide +kernel) (by decide +kernel), fx_in 867 (by decide +kernel) (by decide +kernel)⟩
abbrev b_Written_mostOpen : ByteArray := prog_8_method_3_code
abbrev y_Written_mostOpen : MethodName := ⟨"FixityTrees$Written", "mostOpen", "()I"⟩
theorem d_Written_mostOpen_0 : decode b_Written_mostOpen 0 = .ok (.aload_n 0, 1) := by decide +kernel
theorem d_Written_mostOpen_1 : decode b_Written_mostOpen 1 = .ok (.getfield 47, 3) := by decide +kernel
theorem d_Written_mostOpen_4 : decode b_Written_mostOpen 4 = .ok (.ireturn, 1) := by decide +kernel
theorem hg_Written_mostOpen : fx_mw fx_g "FixityTrees$Written" y_Written_mostOpen b_Written_mostOpen 1 (some .int) := ⟨fx_in 888 (by decide +kernel) (by decide +kernel), fx_in 889 (by decide +kernel) (by decide +kernel), fx_in 8 (by decide +kernel) (by decide +kernel), fx_in 890 (by decide +kernel) (by decide +kernel)⟩
abbrev b_Written_numberAt : ByteArray := prog_8_method_8_code
abbrev y_Written_numberAt : MethodName := ⟨"FixityTrees$Written", "numberAt", "(I)J"⟩
theorem d_Written_numberAt_0 : decode b_Written_numberAt 0 = .ok (.aload_n 0, 1) := by decide +kernel
theorem d_Written_numberAt_1 : decode b_Written_numberAt 1 = .ok (.iload_n 1, 1) := by decide +kernel
theorem d_Written_numberAt_2 : decode b_Written_numberAt 2 = .ok (.invokevirtual 50, 3) := by decide +kernel
theorem d_Written_numberAt_5 : decode b_Written_numberAt 5 = .ok (.ifCond .eq 12, 3) := by decide +kernel
theorem d_Written_numberAt_8 : decode b_Written_numberAt 8 = .ok (.aload_n 0, 1) := by decide +kernel
theorem d_Written_numberAt_9 : decode b_Written_numberAt 9 = .ok (.getfield 21, 3) := by decide +kernel
theorem d_Written_numberAt_12 : decode b_Written_numberAt 12 = .ok (.iload_n 1, 1) := by decide +kernel
theorem d_Written_numberAt_13 : decode b_Written_numberAt 13 = .ok (.laload, 1) := by decide +kernel
theorem d_Written_numberAt_14 : decode b_Written_numberAt 14 = .ok (.goto 4, 3) := by decide +kernel
theorem d_Written_numberAt_17 : decode b_Written_numberAt 17 = .ok (.lconst 0, 1) := by decide +kernel
theorem d_Written_numberAt_18 : decode b_Written_numberAt 18 = .ok (.lreturn, 1) := by decide +kernel
theorem hg_Written_numberAt : fx_mw fx_g "FixityTrees$Written" y_Written_numberAt b_Written_numberAt 2 (some .long) := ⟨fx_in 893 (by decide +kernel) (by decide +kernel), fx_in 894 (by decide +kernel) (by decide +kernel), fx_in 8 (by decide +kernel) (by decide +kernel), fx_in 895 (by decide +kernel) (by decide +kernel)⟩
abbrev b_FixityTrees_take : ByteArray := prog_1_method_16_code
abbrev y_FixityTrees_take : MethodName := ⟨"FixityTrees", "take", "()I"⟩
theorem d_FixityTrees_take_0 : decode b_FixityTrees_take 0 = .ok (.aload_n 0, 1) := by decide +kernel
theorem d_FixityTrees_take_1 : decode b_FixityTrees_take 1 = .ok (.getfield 54, 3) := by decide +kernel
theorem d_FixityTrees_take_4 : decode b_FixityTrees_take 4 = .ok (.invokevirtual 218, 3) := by decide +kernel
theorem d_FixityTrees_take_7 : decode b_FixityTrees_take 7 = .ok (.ifCond .ne 13, 3) := by decide +kernel
theorem d_FixityTrees_take_10 : decode b_FixityTrees_take 10 = .ok (.new 76, 3) := by decide +kernel
theorem d_FixityTrees_take_13 : decode b_FixityTrees_take 13 = .ok (.dup, 1) := by decide +kernel
theorem d_FixityTrees_take_14 : decode b_FixityTrees_take 14 = .ok (.ldc 227, 2) := by decide +kernel
theorem d_FixityTrees_take_16 : decode b_FixityTrees_take 16 = .ok (.invokespecial 80, 3) := by decide +kernel
theorem d_FixityTrees_take_19 : decode b_FixityTrees_take 19 = .ok (.athrow, 1) := by decide +kernel
theorem d_FixityTrees_take_20 : decode b_FixityTrees_take 20 = .ok (.aload_n 0, 1) := by decide +kernel
theorem d_FixityTrees_take_21 : decode b_FixityTrees_take 21 = .ok (.getfield 54, 3) := by decide +kernel
theorem d_FixityTrees_take_24 : decode b_FixityTrees_take 24 = .ok (.invokevirtual 218, 3) := by decide +kernel
theorem d_FixityTrees_take_27 : decode b_FixityTrees_take 27 = .ok (.sipush 200, 3) := by decide +kernel
theorem d_FixityTrees_take_30 : decode b_FixityTrees_take 30 = .ok (.if_icmp .gt 15, 3) := by decide +kernel
theorem d_FixityTrees_take_33 : decode b_FixityTrees_take 33 = .ok (.aload_n 0, 1) := by decide +kernel
theorem d_FixityTrees_take_34 : decode b_FixityTrees_take 34 = .ok (.getfield 54, 3) := by decide +kernel
theorem d_FixityTrees_take_37 : decode b_FixityTrees_take 37 = .ok (.invokevirtual 229, 3) := by decide +kernel
theorem d_FixityTrees_take_40 : decode b_FixityTrees_take 40 = .ok (.bipush 40, 2) := by decide +kernel
theorem d_FixityTrees_take_42 : decode b_FixityTrees_take 42 = .ok (.if_icmp .le 13, 3) := by decide +kernel
theorem d_FixityTrees_take_45 : decode b_FixityTrees_take 45 = .ok (.new 76, 3) := by decide +kernel
theorem d_FixityTrees_take_48 : decode b_FixityTrees_take 48 = .ok (.dup, 1) := by decide +kernel
theorem d_FixityTrees_take_49 : decode b_FixityTrees_take 49 = .ok (.ldc 232, 2) := by decide +kernel
theorem d_FixityTrees_take_51 : decode b_FixityTrees_take 51 = .ok (.invokespecial 80, 3) := by decide +kernel
theorem d_FixityTrees_take_54 : decode b_FixityTrees_take 54 = .ok (.athrow, 1) := by decide +kernel
theorem d_FixityTrees_take_55 : decode b_FixityTrees_take 55 = .ok (.aload_n 0, 1) := by decide +kernel
theorem d_FixityTrees_take_56 : decode b_FixityTrees_take 56 = .ok (.getfield 26, 3) := by decide +kernel
theorem d_FixityTrees_take_59 : decode b_FixityTrees_take 59 = .ok (.iconst 0, 1) := by decide +kernel
theorem d_FixityTrees_take_60 : decode b_FixityTrees_take 60 = .ok (.invokevirtual 121, 3) := by decide +kernel
theorem d_FixityTrees_take_63 : decode b_FixityTrees_take 63 = .ok (.iconst 0, 1) := by decide +kernel
theorem d_FixityTrees_take_64 : decode b_FixityTrees_take 64 = .ok (.istore_n 1, 1) := by decide +kernel
theorem d_FixityTrees_take_65 : decode b_FixityTrees_take 65 = .ok (.iload_n 1, 1) := by decide +kernel
theorem d_FixityTrees_take_66 : decode b_FixityTrees_take 66 = .ok (.aload_n 0, 1) := by decide +kernel
theorem d_FixityTrees_take_67 : decode b_FixityTrees_take 67 = .ok (.getfield 54, 3) := by decide +kernel
theorem d_FixityTrees_take_70 : decode b_FixityTrees_take 70 = .ok (.invokevirtual 218, 3) := by decide +kernel
theorem d_FixityTrees_take_73 : decode b_FixityTrees_take 73 = .ok (.if_icmp .ge 40, 3) := by decide +kernel
theorem d_FixityTrees_take_76 : decode b_FixityTrees_take 76 = .ok (.aload_n 0, 1) := by decide +kernel
theorem d_FixityTrees_take_77 : decode b_FixityTrees_take 77 = .ok (.getfield 26, 3) := by decide +kernel
theorem d_FixityTrees_take_80 : decode b_FixityTrees_take 80 = .ok (.aload_n 0, 1) := by decide +kernel
theorem d_FixityTrees_take_81 : decode b_FixityTrees_take 81 = .ok (.getfield 54, 3) := by decide +kernel
theorem d_FixityTrees_take_84 : decode b_FixityTrees_take 84 = .ok (.iload_n 1, 1) := by decide +kernel
theorem d_FixityTrees_take_85 : decode b_FixityTrees_take 85 = .ok (.invokevirtual 222, 3) := by decide +kernel
theorem d_FixityTrees_take_88 : decode b_FixityTrees_take 88 = .ok (.aload_n 0, 1) := by decide +kernel
theorem d_FixityTrees_take_89 : decode b_FixityTrees_take 89 = .ok (.getfield 54, 3) := by decide +kernel
theorem d_FixityTrees_take_92 : decode b_FixityTrees_take 92 = .ok (.iload_n 1, 1) := by decide +kernel
theorem d_FixityTrees_take_93 : decode b_FixityTrees_take 93 = .ok (.invokevirtual 223, 3) := by decide +kernel
theorem d_FixityTrees_take_96 : decode b_FixityTrees_take 96 = .ok (.aload_n 0, 1) := by decide +kernel
theorem d_FixityTrees_take_97 : decode b_FixityTrees_take 97 = .ok (.getfield 54, 3) := by decide +kernel
theorem d_FixityTrees_take_100 : decode b_FixityTrees_take 100 = .ok (.iload_n 1, 1) := by decide +kernel
theorem d_FixityTrees_take_101 : decode b_FixityTrees_take 101 = .ok (.invokevirtual 234, 3) := by decide +kernel
theorem d_FixityTrees_take_104 : decode b_FixityTrees_take 104 = .ok (.invokevirtual 130, 3) := by decide +kernel
theorem d_FixityTrees_take_107 : decode b_FixityTrees_take 107 = .ok (.iinc 1 1, 3) := by decide +kernel
theorem d_FixityTrees_take_110 : decode b_FixityTrees_take 110 = .ok (.goto (-45), 3) := by decide +kernel
theorem d_FixityTrees_take_113 : decode b_FixityTrees_take 113 = .ok (.aload_n 0, 1) := by decide +kernel
theorem d_FixityTrees_take_114 : decode b_FixityTrees_take 114 = .ok (.getfield 26, 3) := by decide +kernel
theorem d_FixityTrees_take_117 : decode b_FixityTrees_take 117 = .ok (.invokevirtual 133, 3) := by decide +kernel
theorem d_FixityTrees_take_120 : decode b_FixityTrees_take 120 = .ok (.ireturn, 1) := by decide +kernel
theorem hg_FixityTrees_take : fx_mw fx_g "FixityTrees" y_FixityTrees_take b_FixityTrees_take 2 (some .int) := ⟨fx_in 883 (by decide +kernel) (by decide +kernel), fx_in 884 (by decide +kernel) (by decide +kernel), fx_in 1 (by decide +kernel) (by decide +kernel), fx_in 885 (by decide +kernel) (by decide +kernel)⟩
abbrev b_Tree_isLike : ByteArray := prog_7_method_15_code
abbrev y_Tree_isLike : MethodName := ⟨"FixityTrees$Tree", "isLike", "(LFixityTrees$Tree;)Z"⟩
theorem d_Tree_isLike_0 : decode b_Tree_isLike 0 = .ok (.aload_n 0, 1) := by decide +kernel
theorem d_Tree_isLike_1 : decode b_Tree_isLike 1 = .ok (.getfield 31, 3) := by decide +kernel
theorem d_Tree_isLike_4 : decode b_Tree_isLike 4 = .ok (.aload_n 1, 1) := by decide +kernel
theorem d_Tree_isLike_5 : decode b_Tree_isLike 5 = .ok (.invokevirtual 42, 3) := by decide +kernel
theorem d_Tree_isLike_8 : decode b_Tree_isLike 8 = .ok (.if_icmp .eq 5, 3) := by decide +kernel
theorem d_Tree_isLike_11 : decode b_Tree_isLike 11 = .ok (.iconst 0, 1) := by decide +kernel
theorem d_Tree_isLike_12 : decode b_Tree_isLike 12 = .ok (.ireturn, 1) := by decide +kernel
theorem d_Tree_isLike_13 : decode b_Tree_isLike 13 = .ok (.iconst 0, 1) := by decide +kernel
theorem d_Tree_isLike_14 : decode b_Tree_isLike 14 = .ok (.istore_n 2, 1) := by decide +kernel
theorem d_Tree_isLike_15 : decode b_Tree_isLike 15 = .ok (.iload_n 2, 1) := by decide +kernel
theorem d_Tree_isLike_16 : decode b_Tree_isLike 16 = .ok (.aload_n 0, 1) := by decide +kernel
theorem d_Tree_isLike_17 : decode b_Tree_isLike 17 = .ok (.getfield 31, 3) := by decide +kernel
theorem d_Tree_isLike_20 : decode b_Tree_isLike 20 = .ok (.if_icmp .ge 51, 3) := by decide +kernel
theorem d_Tree_isLike_23 : decode b_Tree_isLike 23 = .ok (.aload_n 0, 1) := by decide +kernel
theorem d_Tree_isLike_24 : decode b_Tree_isLike 24 = .ok (.iload_n 2, 1) := by decide +kernel
theorem d_Tree_isLike_25 : decode b_Tree_isLike 25 = .ok (.invokevirtual 45, 3) := by decide +kernel
theorem d_Tree_isLike_28 : decode b_Tree_isLike 28 = .ok (.aload_n 1, 1) := by decide +kernel
theorem d_Tree_isLike_29 : decode b_Tree_isLike 29 = .ok (.iload_n 2, 1) := by decide +kernel
theorem d_Tree_isLike_30 : decode b_Tree_isLike 30 = .ok (.invokevirtual 45, 3) := by decide +kernel
theorem d_Tree_isLike_33 : decode b_Tree_isLike 33 = .ok (.if_icmp .ne 30, 3) := by decide +kernel
theorem d_Tree_isLike_36 : decode b_Tree_isLike 36 = .ok (.aload_n 0, 1) := by decide +kernel
theorem d_Tree_isLike_37 : decode b_Tree_isLike 37 = .ok (.iload_n 2, 1) := by decide +kernel
theorem d_Tree_isLike_38 : decode b_Tree_isLike 38 = .ok (.invokevirtual 49, 3) := by decide +kernel
theorem d_Tree_isLike_41 : decode b_Tree_isLike 41 = .ok (.aload_n 1, 1) := by decide +kernel
theorem d_Tree_isLike_42 : decode b_Tree_isLike 42 = .ok (.iload_n 2, 1) := by decide +kernel
theorem d_Tree_isLike_43 : decode b_Tree_isLike 43 = .ok (.invokevirtual 49, 3) := by decide +kernel
theorem d_Tree_isLike_46 : decode b_Tree_isLike 46 = .ok (.if_icmp .ne 17, 3) := by decide +kernel
theorem d_Tree_isLike_49 : decode b_Tree_isLike 49 = .ok (.aload_n 0, 1) := by decide +kernel
theorem d_Tree_isLike_50 : decode b_Tree_isLike 50 = .ok (.iload_n 2, 1) := by decide +kernel
theorem d_Tree_isLike_51 : decode b_Tree_isLike 51 = .ok (.invokevirtual 52, 3) := by decide +kernel
theorem d_Tree_isLike_54 : decode b_Tree_isLike 54 = .ok (.aload_n 1, 1) := by decide +kernel
theorem d_Tree_isLike_55 : decode b_Tree_isLike 55 = .ok (.iload_n 2, 1) := by decide +kernel
theorem d_Tree_isLike_56 : decode b_Tree_isLike 56 = .ok (.invokevirtual 52, 3) := by decide +kernel
theorem d_Tree_isLike_59 : decode b_Tree_isLike 59 = .ok (.lcmp, 1) := by decide +kernel
theorem d_Tree_isLike_60 : decode b_Tree_isLike 60 = .ok (.ifCond .eq 5, 3) := by decide +kernel
theorem d_Tree_isLike_63 : decode b_Tree_isLike 63 = .ok (.iconst 0, 1) := by decide +kernel
theorem d_Tree_isLike_64 : decode b_Tree_isLike 64 = .ok (.ireturn, 1) := by decide +kernel
theorem d_Tree_isLike_65 : decode b_Tree_isLike 65 = .ok (.iinc 2 1, 3) := by decide +kernel
theorem d_Tree_isLike_68 : decode b_Tree_isLike 68 = .ok (.goto (-53), 3) := by decide +kernel
theorem d_Tree_isLike_71 : decode b_Tree_isLike 71 = .ok (.iconst 1, 1) := by decide +kernel
theorem d_Tree_isLike_72 : decode b_Tree_isLike 72 = .ok (.ireturn, 1) := by decide +kernel
theorem hg_Tree_isLike : fx_mw fx_g "FixityTrees$Tree" y_Tree_isLike b_Tree_isLike 3 (some .boolean) := ⟨fx_in 904 (by decide +kernel) (by decide +kernel), fx_in 905 (by decide +kernel) (by decide +kernel), fx_in 7 (by decide +kernel) (by decide +kernel), fx_in 906 (by decide +kernel) (by decide +kernel)⟩
abbrev b_FixityTrees_same : ByteArray := prog_1_method_17_code
abbrev y_FixityTrees_same : MethodName := ⟨"FixityTrees", "same", "(I)Z"⟩
theorem d_FixityTrees_same_0 : decode b_FixityTrees_same 0 = .ok (.aload_n 0, 1) := by decide +kernel
theorem d_FixityTrees_same_1 : decode b_FixityTrees_same 1 = .ok (.iload_n 1, 1) := by decide +kernel
theorem d_FixityTrees_same_2 : decode b_FixityTrees_same 2 = .ok (.invokevirtual 68, 3) := by decide +kernel
theorem d_FixityTrees_same_5 : decode b_FixityTrees_same 5 = .ok (.aload_n 0, 1) := by decide +kernel
theorem d_FixityTrees_same_6 : decode b_FixityTrees_same 6 = .ok (.invokevirtual 152, 3) := by decide +kernel
theorem d_FixityTrees_same_9 : decode b_FixityTrees_same 9 = .ok (.aload_n 0, 1) := by decide +kernel
theorem d_FixityTrees_same_10 : decode b_FixityTrees_same 10 = .ok (.invokevirtual 212, 3) := by decide +kernel
theorem d_FixityTrees_same_13 : decode b_FixityTrees_same 13 = .ok (.aload_n 0, 1) := by decide +kernel
theorem d_FixityTrees_same_14 : decode b_FixityTrees_same 14 = .ok (.getfield 19, 3) := by decide +kernel
theorem d_FixityTrees_same_17 : decode b_FixityTrees_same 17 = .ok (.aload_n 0, 1) := by decide +kernel
theorem d_FixityTrees_same_18 : decode b_FixityTrees_same 18 = .ok (.getfield 12, 3) := by decide +kernel
theorem d_FixityTrees_same_21 : decode b_FixityTrees_same 21 = .ok (.iload_n 1, 1) := by decide +kernel
theorem d_FixityTrees_same_22 : decode b_FixityTrees_same 22 = .ok (.invokevirtual 155, 3) := by decide +kernel
theorem d_FixityTrees_same_25 : decode b_FixityTrees_same 25 = .ok (.aload_n 0, 1) := by decide +kernel
theorem d_FixityTrees_same_26 : decode b_FixityTrees_same 26 = .ok (.getfield 35, 3) := by decide +kernel
theorem d_FixityTrees_same_29 : decode b_FixityTrees_same 29 = .ok (.invokevirtual 159, 3) := by decide +kernel
theorem d_FixityTrees_same_32 : decode b_FixityTrees_same 32 = .ok (.aload_n 0, 1) := by decide +kernel
theorem d_FixityTrees_same_33 : decode b_FixityTrees_same 33 = .ok (.getfield 35, 3) := by decide +kernel
theorem d_FixityTrees_same_36 : decode b_FixityTrees_same 36 = .ok (.invokevirtual 162, 3) := by decide +kernel
theorem d_FixityTrees_same_39 : decode b_FixityTrees_same 39 = .ok (.iconst (-1), 1) := by decide +kernel
theorem d_FixityTrees_same_40 : decode b_FixityTrees_same 40 = .ok (.if_icmp .eq 5, 3) := by decide +kernel
theorem d_FixityTrees_same_43 : decode b_FixityTrees_same 43 = .ok (.iconst 0, 1) := by decide +kernel
theorem d_FixityTrees_same_44 : decode b_FixityTrees_same 44 = .ok (.ireturn, 1) := by decide +kernel
theorem d_FixityTrees_same_45 : decode b_FixityTrees_same 45 = .ok (.aload_n 0, 1) := by decide +kernel
theorem d_FixityTrees_same_46 : decode b_FixityTrees_same 46 = .ok (.getfield 35, 3) := by decide +kernel
theorem d_FixityTrees_same_49 : decode b_FixityTrees_same 49 = .ok (.aload_n 0, 1) := by decide +kernel
theorem d_FixityTrees_same_50 : decode b_FixityTrees_same 50 = .ok (.getfield 46, 3) := by decide +kernel
theorem d_FixityTrees_same_53 : decode b_FixityTrees_same 53 = .ok (.invokevirtual 170, 3) := by decide +kernel
theorem d_FixityTrees_same_56 : decode b_FixityTrees_same 56 = .ok (.aload_n 0, 1) := by decide +kernel
theorem d_FixityTrees_same_57 : decode b_FixityTrees_same 57 = .ok (.getfield 46, 3) := by decide +kernel
theorem d_FixityTrees_same_60 : decode b_FixityTrees_same 60 = .ok (.aload_n 0, 1) := by decide +kernel
theorem d_FixityTrees_same_61 : decode b_FixityTrees_same 61 = .ok (.getfield 42, 3) := by decide +kernel
theorem d_FixityTrees_same_64 : decode b_FixityTrees_same 64 = .ok (.invokevirtual 235, 3) := by decide +kernel
theorem d_FixityTrees_same_67 : decode b_FixityTrees_same 67 = .ok (.ireturn, 1) := by decide +kernel
theorem hg_FixityTrees_same : fx_mw fx_g "FixityTrees" y_FixityTrees_same b_FixityTrees_same 2 (some .boolean) := ⟨fx_in 900 (by decide +kernel) (by decide +kernel), fx_in 901 (by decide +kernel) (by decide +kernel), fx_in 1 (by decide +kernel) (by decide +kernel), fx_in 902 (by decide +kernel) (by decide +kernel)⟩
abbrev b_Scopes_size : ByteArray := prog_6_method_2_code
abbrev y_Scopes_size : MethodName := ⟨"FixityTrees$Scopes", "size", "()I"⟩
theorem d_Scopes_size_0 : decode b_Scopes_size 0 = .ok (.aload_n 0, 1) := by decide +kernel
theorem d_Scopes_size_1 : decode b_Scopes_size 1 = .ok (.getfield 18, 3) := by decide +kernel
theorem d_Scopes_size_4 : decode b_Scopes_size 4 = .ok (.ireturn, 1) := by decide +kernel
theorem hg_Scopes_size : fx_mw fx_g "FixityTrees$Scopes" y_Scopes_size b_Scopes_size 1 (some .int) := ⟨fx_in 919 (by decide +kernel) (by decide +kernel), fx_in 920 (by decide +kernel) (by decide +kernel), fx_in 2 (by decide +kernel) (by decide +kernel), fx_in 921 (by decide +kernel) (by decide +kernel)⟩
abbrev b_Tree_height : ByteArray := prog_7_method_7_code
abbrev y_Tree_height : MethodName := ⟨"FixityTrees$Tree", "height", "()I"⟩
theorem d_Tree_height_0 : decode b_Tree_height 0 = .ok (.aload_n 0, 1) := by decide +kernel
theorem d_Tree_height_1 : decode b_Tree_height 1 = .ok (.getfield 35, 3) := by decide +kernel
theorem d_Tree_height_4 : decode b_Tree_height 4 = .ok (.ireturn, 1) := by decide +kernel
theorem hg_Tree_height : fx_mw fx_g "FixityTrees$Tree" y_Tree_height b_Tree_height 1 (some .int) := ⟨fx_in 923 (by decide +kernel) (by decide +kernel), fx_in 924 (by decide +kernel) (by decide +kernel), fx_in 7 (by decide +kernel) (by decide +kernel), fx_in 925 (by decide +kernel) (by decide +kernel)⟩
abbrev b_FixityTrees_told : ByteArray := prog_1_method_18_code
abbrev y_FixityTrees_told : MethodName := ⟨"FixityTrees", "told", "(I)I"⟩
theorem d_FixityTrees_told_0 : decode b_FixityTrees_told 0 = .ok (.iload_n 1, 1) := by decide +kernel
theorem d_FixityTrees_told_1 : decode b_FixityTrees_told 1 = .ok (.tableswitch 104 0 6 #[43, 51, 59, 75, 83, 91, 96], 43) := by decide +kernel
theorem d_FixityTrees_told_44 : decode b_FixityTrees_told 44 = .ok (.aload_n 0, 1) := by decide +kernel
theorem d_FixityTrees_told_45 : decode b_FixityTrees_told 45 = .ok (.getfield 26, 3) := by decide +kernel
theorem d_FixityTrees_told_48 : decode b_FixityTrees_told 48 = .ok (.invokevirtual 133, 3) := by decide +kernel
theorem d_FixityTrees_told_51 : decode b_FixityTrees_told 51 = .ok (.ireturn, 1) := by decide +kernel
theorem d_FixityTrees_told_52 : decode b_FixityTrees_told 52 = .ok (.aload_n 0, 1) := by decide +kernel
theorem d_FixityTrees_told_53 : decode b_FixityTrees_told 53 = .ok (.getfield 26, 3) := by decide +kernel
theorem d_FixityTrees_told_56 : decode b_FixityTrees_told 56 = .ok (.invokevirtual 239, 3) := by decide +kernel
theorem d_FixityTrees_told_59 : decode b_FixityTrees_told 59 = .ok (.ireturn, 1) := by decide +kernel
theorem d_FixityTrees_told_60 : decode b_FixityTrees_told 60 = .ok (.aload_n 0, 1) := by decide +kernel
theorem d_FixityTrees_told_61 : decode b_FixityTrees_told 61 = .ok (.getfield 26, 3) := by decide +kernel
theorem d_FixityTrees_told_64 : decode b_FixityTrees_told 64 = .ok (.invokevirtual 242, 3) := by decide +kernel
theorem d_FixityTrees_told_67 : decode b_FixityTrees_told 67 = .ok (.ifCond .eq 7, 3) := by decide +kernel
theorem d_FixityTrees_told_70 : decode b_FixityTrees_told 70 = .ok (.iconst 1, 1) := by decide +kernel
theorem d_FixityTrees_told_71 : decode b_FixityTrees_told 71 = .ok (.goto 4, 3) := by decide +kernel
theorem d_FixityTrees_told_74 : decode b_FixityTrees_told 74 = .ok (.iconst 0, 1) := by decide +kernel
theorem d_FixityTrees_told_75 : decode b_FixityTrees_told 75 = .ok (.ireturn, 1) := by decide +kernel
theorem d_FixityTrees_told_76 : decode b_FixityTrees_told 76 = .ok (.aload_n 0, 1) := by decide +kernel
theorem d_FixityTrees_told_77 : decode b_FixityTrees_told 77 = .ok (.getfield 12, 3) := by decide +kernel
theorem d_FixityTrees_told_80 : decode b_FixityTrees_told 80 = .ok (.invokevirtual 245, 3) := by decide +kernel
theorem d_FixityTrees_told_83 : decode b_FixityTrees_told 83 = .ok (.ireturn, 1) := by decide +kernel
theorem d_FixityTrees_told_84 : decode b_FixityTrees_told 84 = .ok (.aload_n 0, 1) := by decide +kernel
theorem d_FixityTrees_told_85 : decode b_FixityTrees_told 85 = .ok (.getfield 42, 3) := by decide +kernel
theorem d_FixityTrees_told_88 : decode b_FixityTrees_told 88 = .ok (.invokevirtual 179, 3) := by decide +kernel
theorem d_FixityTrees_told_91 : decode b_FixityTrees_told 91 = .ok (.ireturn, 1) := by decide +kernel
theorem d_FixityTrees_told_92 : decode b_FixityTrees_told 92 = .ok (.aload_n 0, 1) := by decide +kernel
theorem d_FixityTrees_told_93 : decode b_FixityTrees_told 93 = .ok (.getfield 177, 3) := by decide +kernel
theorem d_FixityTrees_told_96 : decode b_FixityTrees_told 96 = .ok (.ireturn, 1) := by decide +kernel
theorem d_FixityTrees_told_97 : decode b_FixityTrees_told 97 = .ok (.aload_n 0, 1) := by decide +kernel
theorem d_FixityTrees_told_98 : decode b_FixityTrees_told 98 = .ok (.getfield 42, 3) := by decide +kernel
theorem d_FixityTrees_told_101 : decode b_FixityTrees_told 101 = .ok (.invokevirtual 246, 3) := by decide +kernel
theorem d_FixityTrees_told_104 : decode b_FixityTrees_told 104 = .ok (.ireturn, 1) := by decide +kernel
theorem d_FixityTrees_told_105 : decode b_FixityTrees_told 105 = .ok (.new 98, 3) := by decide +kernel
theorem d_FixityTrees_told_108 : decode b_FixityTrees_told 108 = .ok (.dup, 1) := by decide +kernel
theorem d_FixityTrees_told_109 : decode b_FixityTrees_told 109 = .ok (.ldc 249, 2) := by decide +kernel
theorem d_FixityTrees_told_111 : decode b_FixityTrees_told 111 = .ok (.invokespecial 102, 3) := by decide +kernel
theorem d_FixityTrees_told_114 : decode b_FixityTrees_told 114 = .ok (.athrow, 1) := by decide +kernel
theorem hg_FixityTrees_told : fx_mw fx_g "FixityTrees" y_FixityTrees_told b_FixityTrees_told 2 (some .int) := ⟨fx_in 915 (by decide +kernel) (by decide +kernel), fx_in 916 (by decide +kernel) (by decide +kernel), fx_in 1 (by decide +kernel) (by decide +kernel), fx_in 917 (by decide +kernel) (by decide +kernel)⟩
