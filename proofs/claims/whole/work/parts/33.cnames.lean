abbrev b_FixityTrees_init : ByteArray := prog_1_method_1_code
abbrev y_FixityTrees_init : MethodName := ⟨"FixityTrees", "<init>", "()V"⟩
theorem d_FixityTrees_init_0 : decode b_FixityTrees_init 0 = .ok (.aload_n 0, 1) := by decide +kernel
theorem d_FixityTrees_init_1 : decode b_FixityTrees_init 1 = .ok (.invokespecial 3, 3) := by decide +kernel
theorem d_FixityTrees_init_4 : decode b_FixityTrees_init 4 = .ok (.aload_n 0, 1) := by decide +kernel
theorem d_FixityTrees_init_5 : decode b_FixityTrees_init 5 = .ok (.new 9, 3) := by decide +kernel
theorem d_FixityTrees_init_8 : decode b_FixityTrees_init 8 = .ok (.dup, 1) := by decide +kernel
theorem d_FixityTrees_init_9 : decode b_FixityTrees_init 9 = .ok (.invokespecial 11, 3) := by decide +kernel
theorem d_FixityTrees_init_12 : decode b_FixityTrees_init 12 = .ok (.putfield 12, 3) := by decide +kernel
theorem d_FixityTrees_init_15 : decode b_FixityTrees_init 15 = .ok (.aload_n 0, 1) := by decide +kernel
theorem d_FixityTrees_init_16 : decode b_FixityTrees_init 16 = .ok (.new 16, 3) := by decide +kernel
theorem d_FixityTrees_init_19 : decode b_FixityTrees_init 19 = .ok (.dup, 1) := by decide +kernel
theorem d_FixityTrees_init_20 : decode b_FixityTrees_init 20 = .ok (.invokespecial 18, 3) := by decide +kernel
theorem d_FixityTrees_init_23 : decode b_FixityTrees_init 23 = .ok (.putfield 19, 3) := by decide +kernel
theorem d_FixityTrees_init_26 : decode b_FixityTrees_init 26 = .ok (.aload_n 0, 1) := by decide +kernel
theorem d_FixityTrees_init_27 : decode b_FixityTrees_init 27 = .ok (.new 23, 3) := by decide +kernel
theorem d_FixityTrees_init_30 : decode b_FixityTrees_init 30 = .ok (.dup, 1) := by decide +kernel
theorem d_FixityTrees_init_31 : decode b_FixityTrees_init 31 = .ok (.invokespecial 25, 3) := by decide +kernel
theorem d_FixityTrees_init_34 : decode b_FixityTrees_init 34 = .ok (.putfield 26, 3) := by decide +kernel
theorem d_FixityTrees_init_37 : decode b_FixityTrees_init 37 = .ok (.aload_n 0, 1) := by decide +kernel
theorem d_FixityTrees_init_38 : decode b_FixityTrees_init 38 = .ok (.new 30, 3) := by decide +kernel
theorem d_FixityTrees_init_41 : decode b_FixityTrees_init 41 = .ok (.dup, 1) := by decide +kernel
theorem d_FixityTrees_init_42 : decode b_FixityTrees_init 42 = .ok (.aload_n 0, 1) := by decide +kernel
theorem d_FixityTrees_init_43 : decode b_FixityTrees_init 43 = .ok (.getfield 26, 3) := by decide +kernel
theorem d_FixityTrees_init_46 : decode b_FixityTrees_init 46 = .ok (.aload_n 0, 1) := by decide +kernel
theorem d_FixityTrees_init_47 : decode b_FixityTrees_init 47 = .ok (.getfield 19, 3) := by decide +kernel
theorem d_FixityTrees_init_50 : decode b_FixityTrees_init 50 = .ok (.invokespecial 32, 3) := by decide +kernel
theorem d_FixityTrees_init_53 : decode b_FixityTrees_init 53 = .ok (.putfield 35, 3) := by decide +kernel
theorem d_FixityTrees_init_56 : decode b_FixityTrees_init 56 = .ok (.aload_n 0, 1) := by decide +kernel
theorem d_FixityTrees_init_57 : decode b_FixityTrees_init 57 = .ok (.new 39, 3) := by decide +kernel
theorem d_FixityTrees_init_60 : decode b_FixityTrees_init 60 = .ok (.dup, 1) := by decide +kernel
theorem d_FixityTrees_init_61 : decode b_FixityTrees_init 61 = .ok (.invokespecial 41, 3) := by decide +kernel
theorem d_FixityTrees_init_64 : decode b_FixityTrees_init 64 = .ok (.putfield 42, 3) := by decide +kernel
theorem d_FixityTrees_init_67 : decode b_FixityTrees_init 67 = .ok (.aload_n 0, 1) := by decide +kernel
theorem d_FixityTrees_init_68 : decode b_FixityTrees_init 68 = .ok (.new 39, 3) := by decide +kernel
theorem d_FixityTrees_init_71 : decode b_FixityTrees_init 71 = .ok (.dup, 1) := by decide +kernel
theorem d_FixityTrees_init_72 : decode b_FixityTrees_init 72 = .ok (.invokespecial 41, 3) := by decide +kernel
theorem d_FixityTrees_init_75 : decode b_FixityTrees_init 75 = .ok (.putfield 46, 3) := by decide +kernel
theorem d_FixityTrees_init_78 : decode b_FixityTrees_init 78 = .ok (.aload_n 0, 1) := by decide +kernel
theorem d_FixityTrees_init_79 : decode b_FixityTrees_init 79 = .ok (.new 49, 3) := by decide +kernel
theorem d_FixityTrees_init_82 : decode b_FixityTrees_init 82 = .ok (.dup, 1) := by decide +kernel
theorem d_FixityTrees_init_83 : decode b_FixityTrees_init 83 = .ok (.aload_n 0, 1) := by decide +kernel
theorem d_FixityTrees_init_84 : decode b_FixityTrees_init 84 = .ok (.getfield 42, 3) := by decide +kernel
theorem d_FixityTrees_init_87 : decode b_FixityTrees_init 87 = .ok (.aload_n 0, 1) := by decide +kernel
theorem d_FixityTrees_init_88 : decode b_FixityTrees_init 88 = .ok (.getfield 19, 3) := by decide +kernel
theorem d_FixityTrees_init_91 : decode b_FixityTrees_init 91 = .ok (.invokespecial 51, 3) := by decide +kernel
theorem d_FixityTrees_init_94 : decode b_FixityTrees_init 94 = .ok (.putfield 54, 3) := by decide +kernel
theorem d_FixityTrees_init_97 : decode b_FixityTrees_init 97 = .ok (.aload_n 0, 1) := by decide +kernel
theorem d_FixityTrees_init_98 : decode b_FixityTrees_init 98 = .ok (.iconst (-1), 1) := by decide +kernel
theorem d_FixityTrees_init_99 : decode b_FixityTrees_init 99 = .ok (.putfield 58, 3) := by decide +kernel
theorem d_FixityTrees_init_102 : decode b_FixityTrees_init 102 = .ok (.aload_n 0, 1) := by decide +kernel
theorem d_FixityTrees_init_103 : decode b_FixityTrees_init 103 = .ok (.iconst (-1), 1) := by decide +kernel
theorem d_FixityTrees_init_104 : decode b_FixityTrees_init 104 = .ok (.putfield 62, 3) := by decide +kernel
theorem d_FixityTrees_init_107 : decode b_FixityTrees_init 107 = .ok (.aload_n 0, 1) := by decide +kernel
theorem d_FixityTrees_init_108 : decode b_FixityTrees_init 108 = .ok (.iconst (-1), 1) := by decide +kernel
theorem d_FixityTrees_init_109 : decode b_FixityTrees_init 109 = .ok (.putfield 65, 3) := by decide +kernel
theorem d_FixityTrees_init_112 : decode b_FixityTrees_init 112 = .ok (.return_, 1) := by decide +kernel
theorem hc_FixityTrees_init : Cond.instanceMethod y_FixityTrees_init ∈ fx_g ∧ Cond.initialized "FixityTrees" ∈ fx_g ∧ Cond.code y_FixityTrees_init b_FixityTrees_init 1 none ∈ fx_g := ⟨fx_in 20 (by decide +kernel) (by decide +kernel), fx_in 1 (by decide +kernel) (by decide +kernel), fx_in 21 (by decide +kernel) (by decide +kernel)⟩
abbrev b_Scopes_init : ByteArray := prog_6_method_1_code
abbrev y_Scopes_init : MethodName := ⟨"FixityTrees$Scopes", "<init>", "()V"⟩
theorem d_Scopes_init_0 : decode b_Scopes_init 0 = .ok (.aload_n 0, 1) := by decide +kernel
theorem d_Scopes_init_1 : decode b_Scopes_init 1 = .ok (.invokespecial 3, 3) := by decide +kernel
theorem d_Scopes_init_4 : decode b_Scopes_init 4 = .ok (.aload_n 0, 1) := by decide +kernel
theorem d_Scopes_init_5 : decode b_Scopes_init 5 = .ok (.bipush 30, 2) := by decide +kernel
theorem d_Scopes_init_7 : decode b_Scopes_init 7 = .ok (.newarray .int, 2) := by decide +kernel
theorem d_Scopes_init_9 : decode b_Scopes_init 9 = .ok (.putfield 9, 3) := by decide +kernel
theorem d_Scopes_init_12 : decode b_Scopes_init 12 = .ok (.aload_n 0, 1) := by decide +kernel
theorem d_Scopes_init_13 : decode b_Scopes_init 13 = .ok (.sipush 1230, 3) := by decide +kernel
theorem d_Scopes_init_16 : decode b_Scopes_init 16 = .ok (.newarray .int, 2) := by decide +kernel
theorem d_Scopes_init_18 : decode b_Scopes_init 18 = .ok (.putfield 15, 3) := by decide +kernel
theorem d_Scopes_init_21 : decode b_Scopes_init 21 = .ok (.aload_n 0, 1) := by decide +kernel
theorem d_Scopes_init_22 : decode b_Scopes_init 22 = .ok (.getfield 9, 3) := by decide +kernel
theorem d_Scopes_init_25 : decode b_Scopes_init 25 = .ok (.iconst 0, 1) := by decide +kernel
theorem d_Scopes_init_26 : decode b_Scopes_init 26 = .ok (.iconst (-1), 1) := by decide +kernel
theorem d_Scopes_init_27 : decode b_Scopes_init 27 = .ok (.iastore, 1) := by decide +kernel
theorem d_Scopes_init_28 : decode b_Scopes_init 28 = .ok (.aload_n 0, 1) := by decide +kernel
theorem d_Scopes_init_29 : decode b_Scopes_init 29 = .ok (.iconst 1, 1) := by decide +kernel
theorem d_Scopes_init_30 : decode b_Scopes_init 30 = .ok (.putfield 18, 3) := by decide +kernel
theorem d_Scopes_init_33 : decode b_Scopes_init 33 = .ok (.return_, 1) := by decide +kernel
theorem hc_Scopes_init : Cond.instanceMethod y_Scopes_init ∈ fx_g ∧ Cond.initialized "FixityTrees$Scopes" ∈ fx_g ∧ Cond.code y_Scopes_init b_Scopes_init 1 none ∈ fx_g := ⟨fx_in 28 (by decide +kernel) (by decide +kernel), fx_in 2 (by decide +kernel) (by decide +kernel), fx_in 29 (by decide +kernel) (by decide +kernel)⟩
abbrev b_Fixities_init : ByteArray := prog_2_method_1_code
abbrev y_Fixities_init : MethodName := ⟨"FixityTrees$Fixities", "<init>", "()V"⟩
theorem d_Fixities_init_0 : decode b_Fixities_init 0 = .ok (.aload_n 0, 1) := by decide +kernel
theorem d_Fixities_init_1 : decode b_Fixities_init 1 = .ok (.invokespecial 3, 3) := by decide +kernel
theorem d_Fixities_init_4 : decode b_Fixities_init 4 = .ok (.aload_n 0, 1) := by decide +kernel
theorem d_Fixities_init_5 : decode b_Fixities_init 5 = .ok (.bipush 41, 2) := by decide +kernel
theorem d_Fixities_init_7 : decode b_Fixities_init 7 = .ok (.newarray .int, 2) := by decide +kernel
theorem d_Fixities_init_9 : decode b_Fixities_init 9 = .ok (.putfield 9, 3) := by decide +kernel
theorem d_Fixities_init_12 : decode b_Fixities_init 12 = .ok (.aload_n 0, 1) := by decide +kernel
theorem d_Fixities_init_13 : decode b_Fixities_init 13 = .ok (.bipush 41, 2) := by decide +kernel
theorem d_Fixities_init_15 : decode b_Fixities_init 15 = .ok (.newarray .int, 2) := by decide +kernel
theorem d_Fixities_init_17 : decode b_Fixities_init 17 = .ok (.putfield 15, 3) := by decide +kernel
theorem d_Fixities_init_20 : decode b_Fixities_init 20 = .ok (.return_, 1) := by decide +kernel
theorem hc_Fixities_init : Cond.instanceMethod y_Fixities_init ∈ fx_g ∧ Cond.initialized "FixityTrees$Fixities" ∈ fx_g ∧ Cond.code y_Fixities_init b_Fixities_init 1 none ∈ fx_g := ⟨fx_in 45 (by decide +kernel) (by decide +kernel), fx_in 3 (by decide +kernel) (by decide +kernel), fx_in 46 (by decide +kernel) (by decide +kernel)⟩
abbrev b_Row_init : ByteArray := prog_5_method_1_code
abbrev y_Row_init : MethodName := ⟨"FixityTrees$Row", "<init>", "()V"⟩
theorem d_Row_init_0 : decode b_Row_init 0 = .ok (.aload_n 0, 1) := by decide +kernel
theorem d_Row_init_1 : decode b_Row_init 1 = .ok (.invokespecial 3, 3) := by decide +kernel
theorem d_Row_init_4 : decode b_Row_init 4 = .ok (.aload_n 0, 1) := by decide +kernel
theorem d_Row_init_5 : decode b_Row_init 5 = .ok (.sipush 200, 3) := by decide +kernel
theorem d_Row_init_8 : decode b_Row_init 8 = .ok (.newarray .int, 2) := by decide +kernel
theorem d_Row_init_10 : decode b_Row_init 10 = .ok (.putfield 9, 3) := by decide +kernel
theorem d_Row_init_13 : decode b_Row_init 13 = .ok (.aload_n 0, 1) := by decide +kernel
theorem d_Row_init_14 : decode b_Row_init 14 = .ok (.sipush 200, 3) := by decide +kernel
theorem d_Row_init_17 : decode b_Row_init 17 = .ok (.newarray .int, 2) := by decide +kernel
theorem d_Row_init_19 : decode b_Row_init 19 = .ok (.putfield 15, 3) := by decide +kernel
theorem d_Row_init_22 : decode b_Row_init 22 = .ok (.aload_n 0, 1) := by decide +kernel
theorem d_Row_init_23 : decode b_Row_init 23 = .ok (.sipush 200, 3) := by decide +kernel
theorem d_Row_init_26 : decode b_Row_init 26 = .ok (.newarray .int, 2) := by decide +kernel
theorem d_Row_init_28 : decode b_Row_init 28 = .ok (.putfield 18, 3) := by decide +kernel
theorem d_Row_init_31 : decode b_Row_init 31 = .ok (.aload_n 0, 1) := by decide +kernel
theorem d_Row_init_32 : decode b_Row_init 32 = .ok (.sipush 200, 3) := by decide +kernel
theorem d_Row_init_35 : decode b_Row_init 35 = .ok (.newarray .long, 2) := by decide +kernel
theorem d_Row_init_37 : decode b_Row_init 37 = .ok (.putfield 21, 3) := by decide +kernel
theorem d_Row_init_40 : decode b_Row_init 40 = .ok (.aload_n 0, 1) := by decide +kernel
theorem d_Row_init_41 : decode b_Row_init 41 = .ok (.bipush 40, 2) := by decide +kernel
theorem d_Row_init_43 : decode b_Row_init 43 = .ok (.newarray .boolean, 2) := by decide +kernel
theorem d_Row_init_45 : decode b_Row_init 45 = .ok (.putfield 25, 3) := by decide +kernel
theorem d_Row_init_48 : decode b_Row_init 48 = .ok (.return_, 1) := by decide +kernel
theorem hc_Row_init : Cond.instanceMethod y_Row_init ∈ fx_g ∧ Cond.initialized "FixityTrees$Row" ∈ fx_g ∧ Cond.code y_Row_init b_Row_init 1 none ∈ fx_g := ⟨fx_in 58 (by decide +kernel) (by decide +kernel), fx_in 4 (by decide +kernel) (by decide +kernel), fx_in 59 (by decide +kernel) (by decide +kernel)⟩
abbrev b_Resolver_init : ByteArray := prog_4_method_1_code
abbrev y_Resolver_init : MethodName := ⟨"FixityTrees$Resolver", "<init>", "(LFixityTrees$Row;LFixityTrees$Fixities;)V"⟩
theorem d_Resolver_init_0 : decode b_Resolver_init 0 = .ok (.aload_n 0, 1) := by decide +kernel
theorem d_Resolver_init_1 : decode b_Resolver_init 1 = .ok (.invokespecial 3, 3) := by decide +kernel
theorem d_Resolver_init_4 : decode b_Resolver_init 4 = .ok (.aload_n 0, 1) := by decide +kernel
theorem d_Resolver_init_5 : decode b_Resolver_init 5 = .ok (.new 9, 3) := by decide +kernel
theorem d_Resolver_init_8 : decode b_Resolver_init 8 = .ok (.dup, 1) := by decide +kernel
theorem d_Resolver_init_9 : decode b_Resolver_init 9 = .ok (.invokespecial 11, 3) := by decide +kernel
theorem d_Resolver_init_12 : decode b_Resolver_init 12 = .ok (.putfield 12, 3) := by decide +kernel
theorem d_Resolver_init_15 : decode b_Resolver_init 15 = .ok (.aload_n 0, 1) := by decide +kernel
theorem d_Resolver_init_16 : decode b_Resolver_init 16 = .ok (.new 9, 3) := by decide +kernel
theorem d_Resolver_init_19 : decode b_Resolver_init 19 = .ok (.dup, 1) := by decide +kernel
theorem d_Resolver_init_20 : decode b_Resolver_init 20 = .ok (.invokespecial 11, 3) := by decide +kernel
theorem d_Resolver_init_23 : decode b_Resolver_init 23 = .ok (.putfield 18, 3) := by decide +kernel
theorem d_Resolver_init_26 : decode b_Resolver_init 26 = .ok (.aload_n 0, 1) := by decide +kernel
theorem d_Resolver_init_27 : decode b_Resolver_init 27 = .ok (.new 9, 3) := by decide +kernel
theorem d_Resolver_init_30 : decode b_Resolver_init 30 = .ok (.dup, 1) := by decide +kernel
theorem d_Resolver_init_31 : decode b_Resolver_init 31 = .ok (.invokespecial 11, 3) := by decide +kernel
theorem d_Resolver_init_34 : decode b_Resolver_init 34 = .ok (.putfield 21, 3) := by decide +kernel
theorem d_Resolver_init_37 : decode b_Resolver_init 37 = .ok (.aload_n 0, 1) := by decide +kernel
theorem d_Resolver_init_38 : decode b_Resolver_init 38 = .ok (.new 9, 3) := by decide +kernel
theorem d_Resolver_init_41 : decode b_Resolver_init 41 = .ok (.dup, 1) := by decide +kernel
theorem d_Resolver_init_42 : decode b_Resolver_init 42 = .ok (.invokespecial 11, 3) := by decide +kernel
theorem d_Resolver_init_45 : decode b_Resolver_init 45 = .ok (.putfield 24, 3) := by decide +kernel
theorem d_Resolver_init_48 : decode b_Resolver_init 48 = .ok (.aload_n 0, 1) := by decide +kernel
theorem d_Resolver_init_49 : decode b_Resolver_init 49 = .ok (.sipush 200, 3) := by decide +kernel
theorem d_Resolver_init_52 : decode b_Resolver_init 52 = .ok (.newarray .int, 2) := by decide +kernel
theorem d_Resolver_init_54 : decode b_Resolver_init 54 = .ok (.putfield 27, 3) := by decide +kernel
theorem d_Resolver_init_57 : decode b_Resolver_init 57 = .ok (.aload_n 0, 1) := by decide +kernel
theorem d_Resolver_init_58 : decode b_Resolver_init 58 = .ok (.sipush 200, 3) := by decide +kernel
theorem d_Resolver_init_61 : decode b_Resolver_init 61 = .ok (.newarray .int, 2) := by decide +kernel
theorem d_Resolver_init_63 : decode b_Resolver_init 63 = .ok (.putfield 31, 3) := by decide +kernel
theorem d_Resolver_init_66 : decode b_Resolver_init 66 = .ok (.aload_n 0, 1) := by decide +kernel
theorem d_Resolver_init_67 : decode b_Resolver_init 67 = .ok (.sipush 200, 3) := by decide +kernel
theorem d_Resolver_init_70 : decode b_Resolver_init 70 = .ok (.newarray .int, 2) := by decide +kernel
theorem d_Resolver_init_72 : decode b_Resolver_init 72 = .ok (.putfield 34, 3) := by decide +kernel
theorem d_Resolver_init_75 : decode b_Resolver_init 75 = .ok (.aload_n 0, 1) := by decide +kernel
theorem d_Resolver_init_76 : decode b_Resolver_init 76 = .ok (.sipush 200, 3) := by decide +kernel
theorem d_Resolver_init_79 : decode b_Resolver_init 79 = .ok (.newarray .int, 2) := by decide +kernel
theorem d_Resolver_init_81 : decode b_Resolver_init 81 = .ok (.putfield 37, 3) := by decide +kernel
theorem d_Resolver_init_84 : decode b_Resolver_init 84 = .ok (.aload_n 0, 1) := by decide +kernel
theorem d_Resolver_init_85 : decode b_Resolver_init 85 = .ok (.aload_n 1, 1) := by decide +kernel
theorem d_Resolver_init_86 : decode b_Resolver_init 86 = .ok (.putfield 40, 3) := by decide +kernel
theorem d_Resolver_init_89 : decode b_Resolver_init 89 = .ok (.aload_n 0, 1) := by decide +kernel
theorem d_Resolver_init_90 : decode b_Resolver_init 90 = .ok (.aload_n 2, 1) := by decide +kernel
theorem d_Resolver_init_91 : decode b_Resolver_init 91 = .ok (.putfield 44, 3) := by decide +kernel
theorem d_Resolver_init_94 : decode b_Resolver_init 94 = .ok (.return_, 1) := by decide +kernel
theorem hc_Resolver_init : Cond.instanceMethod y_Resolver_init ∈ fx_g ∧ Cond.initialized "FixityTrees$Resolver" ∈ fx_g ∧ Cond.code y_Resolver_init b_Resolver_init 3 none ∈ fx_g := ⟨fx_in 91 (by decide +kernel) (by decide +kernel), fx_in 5 (by decide +kernel) (by decide +kernel), fx_in 92 (by decide +kernel) (by decide +kernel)⟩
abbrev b_IntStack_init : ByteArray := prog_3_method_1_code
abbrev y_IntStack_init : MethodName := ⟨"FixityTrees$IntStack", "<init>", "()V"⟩
theorem d_IntStack_init_0 : decode b_IntStack_init 0 = .ok (.aload_n 0, 1) := by decide +kernel
theorem d_IntStack_init_1 : decode b_IntStack_init 1 = .ok (.invokespecial 3, 3) := by decide +kernel
theorem d_IntStack_init_4 : decode b_IntStack_init 4 = .ok (.aload_n 0, 1) := by decide +kernel
theorem d_IntStack_init_5 : decode b_IntStack_init 5 = .ok (.sipush 200, 3) := by decide +kernel
theorem d_IntStack_init_8 : decode b_IntStack_init 8 = .ok (.newarray .int, 2) := by decide +kernel
theorem d_IntStack_init_10 : decode b_IntStack_init 10 = .ok (.putfield 9, 3) := by decide +kernel
theorem d_IntStack_init_13 : decode b_IntStack_init 13 = .ok (.return_, 1) := by decide +kernel
theorem hc_IntStack_init : Cond.instanceMethod y_IntStack_init ∈ fx_g ∧ Cond.initialized "FixityTrees$IntStack" ∈ fx_g ∧ Cond.code y_IntStack_init b_IntStack_init 1 none ∈ fx_g := ⟨fx_in 97 (by decide +kernel) (by decide +kernel), fx_in 6 (by decide +kernel) (by decide +kernel), fx_in 98 (by decide +kernel) (by decide +kernel)⟩
abbrev b_Tree_init : ByteArray := prog_7_method_1_code
abbrev y_Tree_init : MethodName := ⟨"FixityTrees$Tree", "<init>", "()V"⟩
theorem d_Tree_init_0 : decode b_Tree_init 0 = .ok (.aload_n 0, 1) := by decide +kernel
theorem d_Tree_init_1 : decode b_Tree_init 1 = .ok (.invokespecial 3, 3) := by decide +kernel
theorem d_Tree_init_4 : decode b_Tree_init 4 = .ok (.aload_n 0, 1) := by decide +kernel
theorem d_Tree_init_5 : decode b_Tree_init 5 = .ok (.sipush 200, 3) := by decide +kernel
theorem d_Tree_init_8 : decode b_Tree_init 8 = .ok (.newarray .int, 2) := by decide +kernel
theorem d_Tree_init_10 : decode b_Tree_init 10 = .ok (.putfield 9, 3) := by decide +kernel
theorem d_Tree_init_13 : decode b_Tree_init 13 = .ok (.aload_n 0, 1) := by decide +kernel
theorem d_Tree_init_14 : decode b_Tree_init 14 = .ok (.sipush 200, 3) := by decide +kernel
theorem d_Tree_init_17 : decode b_Tree_init 17 = .ok (.newarray .int, 2) := by decide +kernel
theorem d_Tree_init_19 : decode b_Tree_init 19 = .ok (.putfield 15, 3) := by decide +kernel
theorem d_Tree_init_22 : decode b_Tree_init 22 = .ok (.aload_n 0, 1) := by decide +kernel
theorem d_Tree_init_23 : decode b_Tree_init 23 = .ok (.sipush 200, 3) := by decide +kernel
theorem d_Tree_init_26 : decode b_Tree_init 26 = .ok (.newarray .int, 2) := by decide +kernel
theorem d_Tree_init_28 : decode b_Tree_init 28 = .ok (.putfield 18, 3) := by decide +kernel
theorem d_Tree_init_31 : decode b_Tree_init 31 = .ok (.aload_n 0, 1) := by decide +kernel
theorem d_Tree_init_32 : decode b_Tree_init 32 = .ok (.sipush 200, 3) := by decide +kernel
theorem d_Tree_init_35 : decode b_Tree_init 35 = .ok (.newarray .int, 2) := by decide +kernel
theorem d_Tree_init_37 : decode b_Tree_init 37 = .ok (.putfield 21, 3) := by decide +kernel
theorem d_Tree_init_40 : decode b_Tree_init 40 = .ok (.aload_n 0, 1) := by decide +kernel
theorem d_Tree_init_41 : decode b_Tree_init 41 = .ok (.sipush 200, 3) := by decide +kernel
theorem d_Tree_init_44 : decode b_Tree_init 44 = .ok (.newarray .int, 2) := by decide +kernel
theorem d_Tree_init_46 : decode b_Tree_init 46 = .ok (.putfield 24, 3) := by decide +kernel
theorem d_Tree_init_49 : decode b_Tree_init 49 = .ok (.aload_n 0, 1) := by decide +kernel
theorem d_Tree_init_50 : decode b_Tree_init 50 = .ok (.sipush 200, 3) := by decide +kernel
theorem d_Tree_init_53 : decode b_Tree_init 53 = .ok (.newarray .long, 2) := by decide +kernel
theorem d_Tree_init_55 : decode b_Tree_init 55 = .ok (.putfield 27, 3) := by decide +kernel
theorem d_Tree_init_58 : decode b_Tree_init 58 = .ok (.return_, 1) := by decide +kernel
theorem hc_Tree_init : Cond.instanceMethod y_Tree_init ∈ fx_g ∧ Cond.initialized "FixityTrees$Tree" ∈ fx_g ∧ Cond.code y_Tree_init b_Tree_init 1 none ∈ fx_g := ⟨fx_in 153 (by decide +kernel) (by decide +kernel), fx_in 7 (by decide +kernel) (by decide +kernel), fx_in 154 (by decide +kernel) (by decide +kernel)⟩
abbrev b_Written_init : ByteArray := prog_8_method_1_code
abbrev y_Written_init : MethodName := ⟨"FixityTrees$Written", "<init>", "(LFixityTrees$Tree;LFixityTrees$Fixities;)V"⟩
theorem d_Written_init_0 : decode b_Written_init 0 = .ok (.aload_n 0, 1) := by decide +kernel
theorem d_Written_init_1 : decode b_Written_init 1 = .ok (.invokespecial 3, 3) := by decide +kernel
theorem d_Written_init_4 : decode b_Written_init 4 = .ok (.aload_n 0, 1) := by decide +kernel
theorem d_Written_init_5 : decode b_Written_init 5 = .ok (.sipush 600, 3) := by decide +kernel
theorem d_Written_init_8 : decode b_Written_init 8 = .ok (.newarray .int, 2) := by decide +kernel
theorem d_Written_init_10 : decode b_Written_init 10 = .ok (.putfield 9, 3) := by decide +kernel
theorem d_Written_init_13 : decode b_Written_init 13 = .ok (.aload_n 0, 1) := by decide +kernel
theorem d_Written_init_14 : decode b_Written_init 14 = .ok (.sipush 600, 3) := by decide +kernel
theorem d_Written_init_17 : decode b_Written_init 17 = .ok (.newarray .int, 2) := by decide +kernel
theorem d_Written_init_19 : decode b_Written_init 19 = .ok (.putfield 15, 3) := by decide +kernel
theorem d_Written_init_22 : decode b_Written_init 22 = .ok (.aload_n 0, 1) := by decide +kernel
theorem d_Written_init_23 : decode b_Written_init 23 = .ok (.sipush 600, 3) := by decide +kernel
theorem d_Written_init_26 : decode b_Written_init 26 = .ok (.newarray .int, 2) := by decide +kernel
theorem d_Written_init_28 : decode b_Written_init 28 = .ok (.putfield 18, 3) := by decide +kernel
theorem d_Written_init_31 : decode b_Written_init 31 = .ok (.aload_n 0, 1) := by decide +kernel
theorem d_Written_init_32 : decode b_Written_init 32 = .ok (.sipush 600, 3) := by decide +kernel
theorem d_Written_init_35 : decode b_Written_init 35 = .ok (.newarray .long, 2) := by decide +kernel
theorem d_Written_init_37 : decode b_Written_init 37 = .ok (.putfield 21, 3) := by decide +kernel
theorem d_Written_init_40 : decode b_Written_init 40 = .ok (.aload_n 0, 1) := by decide +kernel
theorem d_Written_init_41 : decode b_Written_init 41 = .ok (.sipush 200, 3) := by decide +kernel
theorem d_Written_init_44 : decode b_Written_init 44 = .ok (.newarray .boolean, 2) := by decide +kernel
theorem d_Written_init_46 : decode b_Written_init 46 = .ok (.putfield 25, 3) := by decide +kernel
theorem d_Written_init_49 : decode b_Written_init 49 = .ok (.aload_n 0, 1) := by decide +kernel
theorem d_Written_init_50 : decode b_Written_init 50 = .ok (.sipush 200, 3) := by decide +kernel
theorem d_Written_init_53 : decode b_Written_init 53 = .ok (.newarray .int, 2) := by decide +kernel
theorem d_Written_init_55 : decode b_Written_init 55 = .ok (.putfield 29, 3) := by decide +kernel
theorem d_Written_init_58 : decode b_Written_init 58 = .ok (.aload_n 0, 1) := by decide +kernel
theorem d_Written_init_59 : decode b_Written_init 59 = .ok (.sipush 200, 3) := by decide +kernel
theorem d_Written_init_62 : decode b_Written_init 62 = .ok (.newarray .int, 2) := by decide +kernel
theorem d_Written_init_64 : decode b_Written_init 64 = .ok (.putfield 32, 3) := by decide +kernel
theorem d_Written_init_67 : decode b_Written_init 67 = .ok (.aload_n 0, 1) := by decide +kernel
theorem d_Written_init_68 : decode b_Written_init 68 = .ok (.aload_n 1, 1) := by decide +kernel
theorem d_Written_init_69 : decode b_Written_init 69 = .ok (.putfield 35, 3) := by decide +kernel
theorem d_Written_init_72 : decode b_Written_init 72 = .ok (.aload_n 0, 1) := by decide +kernel
theorem d_Written_init_73 : decode b_Written_init 73 = .ok (.aload_n 2, 1) := by decide +kernel
theorem d_Written_init_74 : decode b_Written_init 74 = .ok (.putfield 39, 3) := by decide +kernel
theorem d_Written_init_77 : decode b_Written_init 77 = .ok (.return_, 1) := by decide +kernel
theorem hc_Written_init : Cond.instanceMethod y_Written_init ∈ fx_g ∧ Cond.initialized "FixityTrees$Written" ∈ fx_g ∧ Cond.code y_Written_init b_Written_init 3 none ∈ fx_g := ⟨fx_in 184 (by decide +kernel) (by decide +kernel), fx_in 8 (by decide +kernel) (by decide +kernel), fx_in 185 (by decide +kernel) (by decide +kernel)⟩
theorem lc_FixityTrees_3 : Cond.methodLink "FixityTrees" 3 ⟨"java/lang/Object", "<init>", "()V"⟩ ∈ fx_g := fx_in 22 (by decide +kernel) (by decide +kernel)
theorem lc_FixityTrees_9 : Cond.classLink "FixityTrees" 9 "FixityTrees$Scopes" ∈ fx_g := fx_in 25 (by decide +kernel) (by decide +kernel)
theorem lc_Scopes_3 : Cond.methodLink "FixityTrees$Scopes" 3 ⟨"java/lang/Object", "<init>", "()V"⟩ ∈ fx_g := fx_in 30 (by decide +kernel) (by decide +kernel)
theorem lc_Scopes_9 : Cond.fieldLink "FixityTrees$Scopes" 9 "FixityTrees$Scopes" "outers" "[I" ∈ fx_g := fx_in 31 (by decide +kernel) (by decide +kernel)
theorem lc_Scopes_15 : Cond.fieldLink "FixityTrees$Scopes" 15 "FixityTrees$Scopes" "codes" "[I" ∈ fx_g := fx_in 32 (by decide +kernel) (by decide +kernel)
theorem lc_Scopes_18 : Cond.fieldLink "FixityTrees$Scopes" 18 "FixityTrees$Scopes" "size" "I" ∈ fx_g := fx_in 33 (by decide +kernel) (by decide +kernel)
theorem lc_FixityTrees_11 : Cond.methodLink "FixityTrees" 11 ⟨"FixityTrees$Scopes", "<init>", "()V"⟩ ∈ fx_g := fx_in 27 (by decide +kernel) (by decide +kernel)
theorem lc_FixityTrees_12 : Cond.fieldLink "FixityTrees" 12 "FixityTrees" "scopes" "LFixityTrees$Scopes;" ∈ fx_g := fx_in 221 (by decide +kernel) (by decide +kernel)
theorem lc_FixityTrees_16 : Cond.classLink "FixityTrees" 16 "FixityTrees$Fixities" ∈ fx_g := fx_in 42 (by decide +kernel) (by decide +kernel)
theorem lc_Fixities_3 : Cond.methodLink "FixityTrees$Fixities" 3 ⟨"java/lang/Object", "<init>", "()V"⟩ ∈ fx_g := fx_in 47 (by decide +kernel) (by decide +kernel)
theorem lc_Fixities_9 : Cond.fieldLink "FixityTrees$Fixities" 9 "FixityTrees$Fixities" "sides" "[I" ∈ fx_g := fx_in 48 (by decide +kernel) (by decide +kernel)
theorem lc_Fixities_15 : Cond.fieldLink "FixityTrees$Fixities" 15 "FixityTrees$Fixities" "ranks" "[I" ∈ fx_g := fx_in 49 (by decide +kernel) (by decide +kernel)
theorem lc_FixityTrees_19 : Cond.fieldLink "FixityTrees" 19 "FixityTrees" "fixities" "LFixityTrees$Fixities;" ∈ fx_g := fx_in 222 (by decide +kernel) (by decide +kernel)
theorem lc_FixityTrees_23 : Cond.classLink "FixityTrees" 23 "FixityTrees$Row" ∈ fx_g := fx_in 55 (by decide +kernel) (by decide +kernel)
theorem lc_Row_3 : Cond.methodLink "FixityTrees$Row" 3 ⟨"java/lang/Object", "<init>", "()V"⟩ ∈ fx_g := fx_in 60 (by decide +kernel) (by decide +kernel)
theorem lc_Row_9 : Cond.fieldLink "FixityTrees$Row" 9 "FixityTrees$Row" "kinds" "[I" ∈ fx_g := fx_in 61 (by decide +kernel) (by decide +kernel)
theorem lc_Row_15 : Cond.fieldLink "FixityTrees$Row" 15 "FixityTrees$Row" "nodeKinds" "[I" ∈ fx_g := fx_in 62 (by decide +kernel) (by decide +kernel)
theorem lc_Row_18 : Cond.fieldLink "FixityTrees$Row" 18 "FixityTrees$Row" "operators" "[I" ∈ fx_g := fx_in 63 (by decide +kernel) (by decide +kernel)
theorem lc_Row_21 : Cond.fieldLink "FixityTrees$Row" 21 "FixityTrees$Row" "numbers" "[J" ∈ fx_g := fx_in 64 (by decide +kernel) (by decide +kernel)
theorem lc_Row_25 : Cond.fieldLink "FixityTrees$Row" 25 "FixityTrees$Row" "rightSections" "[Z" ∈ fx_g := fx_in 65 (by decide +kernel) (by decide +kernel)
theorem lc_FixityTrees_26 : Cond.fieldLink "FixityTrees" 26 "FixityTrees" "row" "LFixityTrees$Row;" ∈ fx_g := fx_in 223 (by decide +kernel) (by decide +kernel)
theorem lc_FixityTrees_30 : Cond.classLink "FixityTrees" 30 "FixityTrees$Resolver" ∈ fx_g := fx_in 88 (by decide +kernel) (by decide +kernel)
theorem lc_Resolver_3 : Cond.methodLink "FixityTrees$Resolver" 3 ⟨"java/lang/Object", "<init>", "()V"⟩ ∈ fx_g := fx_in 93 (by decide +kernel) (by decide +kernel)
theorem lc_Resolver_9 : Cond.classLink "FixityTrees$Resolver" 9 "FixityTrees$IntStack" ∈ fx_g := fx_in 94 (by decide +kernel) (by decide +kernel)
theorem lc_IntStack_3 : Cond.methodLink "FixityTrees$IntStack" 3 ⟨"java/lang/Object", "<init>", "()V"⟩ ∈ fx_g := fx_in 99 (by decide +kernel) (by decide +kernel)
theorem lc_IntStack_9 : Cond.fieldLink "FixityTrees$IntStack" 9 "FixityTrees$IntStack" "values" "[I" ∈ fx_g := fx_in 100 (by decide +kernel) (by decide +kernel)
theorem lc_Resolver_12 : Cond.fieldLink "FixityTrees$Resolver" 12 "FixityTrees$Resolver" "waiting" "LFixityTrees$IntStack;" ∈ fx_g := fx_in 109 (by decide +kernel) (by decide +kernel)
theorem lc_Resolver_18 : Cond.fieldLink "FixityTrees$Resolver" 18 "FixityTrees$Resolver" "waitingBefore" "LFixityTrees$IntStack;" ∈ fx_g := fx_in 110 (by decide +kernel) (by decide +kernel)
theorem lc_Resolver_21 : Cond.fieldLink "FixityTrees$Resolver" 21 "FixityTrees$Resolver" "ready" "LFixityTrees$IntStack;" ∈ fx_g := fx_in 111 (by decide +kernel) (by decide +kernel)
theorem lc_Resolver_24 : Cond.fieldLink "FixityTrees$Resolver" 24 "FixityTrees$Resolver" "unnumbered" "LFixityTrees$IntStack;" ∈ fx_g := fx_in 112 (by decide +kernel) (by decide +kernel)
theorem lc_Resolver_27 : Cond.fieldLink "FixityTrees$Resolver" 27 "FixityTrees$Resolver" "firsts" "[I" ∈ fx_g := fx_in 113 (by decide +kernel) (by decide +kernel)
theorem lc_Resolver_31 : Cond.fieldLink "FixityTrees$Resolver" 31 "FixityTrees$Resolver" "seconds" "[I" ∈ fx_g := fx_in 114 (by decide +kernel) (by decide +kernel)
theorem lc_Resolver_34 : Cond.fieldLink "FixityTrees$Resolver" 34 "FixityTrees$Resolver" "sizes" "[I" ∈ fx_g := fx_in 115 (by decide +kernel) (by decide +kernel)
theorem lc_Resolver_37 : Cond.fieldLink "FixityTrees$Resolver" 37 "FixityTrees$Resolver" "heights" "[I" ∈ fx_g := fx_in 116 (by decide +kernel) (by decide +kernel)
theorem lc_Resolver_40 : Cond.fieldLink "FixityTrees$Resolver" 40 "FixityTrees$Resolver" "row" "LFixityTrees$Row;" ∈ fx_g := fx_in 107 (by decide +kernel) (by decide +kernel)
theorem lc_Resolver_44 : Cond.fieldLink "FixityTrees$Resolver" 44 "FixityTrees$Resolver" "fixities" "LFixityTrees$Fixities;" ∈ fx_g := fx_in 108 (by decide +kernel) (by decide +kernel)
theorem lc_FixityTrees_32 : Cond.methodLink "FixityTrees" 32 ⟨"FixityTrees$Resolver", "<init>", "(LFixityTrees$Row;LFixityTrees$Fixities;)V"⟩ ∈ fx_g := fx_in 90 (by decide +kernel) (by decide +kernel)
theorem lc_FixityTrees_35 : Cond.fieldLink "FixityTrees" 35 "FixityTrees" "resolver" "LFixityTrees$Resolver;" ∈ fx_g := fx_in 224 (by decide +kernel) (by decide +kernel)
theorem lc_FixityTrees_39 : Cond.classLink "FixityTrees" 39 "FixityTrees$Tree" ∈ fx_g := fx_in 150 (by decide +kernel) (by decide +kernel)
theorem lc_Tree_3 : Cond.methodLink "FixityTrees$Tree" 3 ⟨"java/lang/Object", "<init>", "()V"⟩ ∈ fx_g := fx_in 155 (by decide +kernel) (by decide +kernel)
theorem lc_Tree_9 : Cond.fieldLink "FixityTrees$Tree" 9 "FixityTrees$Tree" "kinds" "[I" ∈ fx_g := fx_in 156 (by decide +kernel) (by decide +kernel)
theorem lc_Tree_15 : Cond.fieldLink "FixityTrees$Tree" 15 "FixityTrees$Tree" "operators" "[I" ∈ fx_g := fx_in 157 (by decide +kernel) (by decide +kernel)
theorem lc_Tree_18 : Cond.fieldLink "FixityTrees$Tree" 18 "FixityTrees$Tree" "firsts" "[I" ∈ fx_g := fx_in 158 (by decide +kernel) (by decide +kernel)
theorem lc_Tree_21 : Cond.fieldLink "FixityTrees$Tree" 21 "FixityTrees$Tree" "seconds" "[I" ∈ fx_g := fx_in 159 (by decide +kernel) (by decide +kernel)
theorem lc_Tree_24 : Cond.fieldLink "FixityTrees$Tree" 24 "FixityTrees$Tree" "places" "[I" ∈ fx_g := fx_in 160 (by decide +kernel) (by decide +kernel)
theorem lc_Tree_27 : Cond.fieldLink "FixityTrees$Tree" 27 "FixityTrees$Tree" "numbers" "[J" ∈ fx_g := fx_in 161 (by decide +kernel) (by decide +kernel)
theorem lc_FixityTrees_42 : Cond.fieldLink "FixityTrees" 42 "FixityTrees" "tree" "LFixityTrees$Tree;" ∈ fx_g := fx_in 225 (by decide +kernel) (by decide +kernel)
theorem lc_FixityTrees_46 : Cond.fieldLink "FixityTrees" 46 "FixityTrees" "trial" "LFixityTrees$Tree;" ∈ fx_g := fx_in 226 (by decide +kernel) (by decide +kernel)
theorem lc_FixityTrees_49 : Cond.classLink "FixityTrees" 49 "FixityTrees$Written" ∈ fx_g := fx_in 181 (by decide +kernel) (by decide +kernel)
theorem lc_Written_3 : Cond.methodLink "FixityTrees$Written" 3 ⟨"java/lang/Object", "<init>", "()V"⟩ ∈ fx_g := fx_in 186 (by decide +kernel) (by decide +kernel)
theorem lc_Written_9 : Cond.fieldLink "FixityTrees$Written" 9 "FixityTrees$Written" "kinds" "[I" ∈ fx_g := fx_in 189 (by decide +kernel) (by decide +kernel)
theorem lc_Written_15 : Cond.fieldLink "FixityTrees$Written" 15 "FixityTrees$Written" "operators" "[I" ∈ fx_g := fx_in 190 (by decide +kernel) (by decide +kernel)
theorem lc_Written_18 : Cond.fieldLink "FixityTrees$Written" 18 "FixityTrees$Written" "nodes" "[I" ∈ fx_g := fx_in 191 (by decide +kernel) (by decide +kernel)
theorem lc_Written_21 : Cond.fieldLink "FixityTrees$Written" 21 "FixityTrees$Written" "numbers" "[J" ∈ fx_g := fx_in 192 (by decide +kernel) (by decide +kernel)
theorem lc_Written_25 : Cond.fieldLink "FixityTrees$Written" 25 "FixityTrees$Written" "bracketed" "[Z" ∈ fx_g := fx_in 195 (by decide +kernel) (by decide +kernel)
theorem lc_Written_29 : Cond.fieldLink "FixityTrees$Written" 29 "FixityTrees$Written" "widths" "[I" ∈ fx_g := fx_in 196 (by decide +kernel) (by decide +kernel)
theorem lc_Written_32 : Cond.fieldLink "FixityTrees$Written" 32 "FixityTrees$Written" "starts" "[I" ∈ fx_g := fx_in 197 (by decide +kernel) (by decide +kernel)
theorem lc_Written_35 : Cond.fieldLink "FixityTrees$Written" 35 "FixityTrees$Written" "tree" "LFixityTrees$Tree;" ∈ fx_g := fx_in 187 (by decide +kernel) (by decide +kernel)
theorem lc_Written_39 : Cond.fieldLink "FixityTrees$Written" 39 "FixityTrees$Written" "fixities" "LFixityTrees$Fixities;" ∈ fx_g := fx_in 188 (by decide +kernel) (by decide +kernel)
theorem lc_FixityTrees_51 : Cond.methodLink "FixityTrees" 51 ⟨"FixityTrees$Written", "<init>", "(LFixityTrees$Tree;LFixityTrees$Fixities;)V"⟩ ∈ fx_g := fx_in 183 (by decide +kernel) (by decide +kernel)
theorem lc_FixityTrees_54 : Cond.fieldLink "FixityTrees" 54 "FixityTrees" "latest" "LFixityTrees$Written;" ∈ fx_g := fx_in 227 (by decide +kernel) (by decide +kernel)
theorem lc_FixityTrees_58 : Cond.fieldLink "FixityTrees" 58 "FixityTrees" "clashKind" "I" ∈ fx_g := fx_in 228 (by decide +kernel) (by decide +kernel)
theorem lc_FixityTrees_62 : Cond.fieldLink "FixityTrees" 62 "FixityTrees" "clashWaiting" "I" ∈ fx_g := fx_in 229 (by decide +kernel) (by decide +kernel)
theorem lc_FixityTrees_65 : Cond.fieldLink "FixityTrees" 65 "FixityTrees" "clashOther" "I" ∈ fx_g := fx_in 230 (by decide +kernel) (by decide +kernel)
theorem fx_obg : cx_ob fx_g := ⟨fx_in 23 (by decide +kernel) (by decide +kernel), fx_in 24 (by decide +kernel) (by decide +kernel)⟩
