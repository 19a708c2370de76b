set_option maxRecDepth 100000 in
theorem hr_scope (l : Launch) (D : va_G) (h : Nat → Nat) (cA : Nat → ClassId) (ho : Nat) (hlt : l.stackTraces = false) (p1 : Int32) {σ σ' : fx_S} {f : Nat → Int64} {r : Int32} (hF : F_FixityTrees_scope p1 σ = some (.inl r, σ')) : lh_M l y_Lw_scope b_Lw_scope 4 [(0, 9, 12, 13), (0, 9, 15, 15)] { frames := 8, cells := 0, slots := 0, locals := 133 } D h cA ho [.ref (h 0), .int p1, .ref ho] σ f 0 σ' (vp_updL f 0 r.toInt64) 0 := by
  refine lh_start (by decide) (Nat.le_of_ble_eq_true rfl) ?_
  intro p e s m args below meth c A ls Q X htab hHW hw hl hend
  have hx := X.1.1
  have hb := X.1.2.1
  have hl : lv_has ls 4 [(0, .ref (h 0)), (1, .int p1), (2, .ref ho)] := hl
  have Xc : fx_X p m c b_Lw_scope 4 s args "FixityTreesLaw" D fx_cl (fx_tys cA) fx_g fx_G A := ⟨X.1, X.2.1, X.2.2.1, fx_G_ok, X.2.2.2.2.1⟩
  refine lv_aload_n hx hb d_Lw_scope_0 rfl (lv_at hl 2 rfl) ?_
  refine lv_iconst (v := 0) hx hb d_Lw_scope_1 (by decide) ?_
  refine lv_aload_n hx hb d_Lw_scope_2 rfl (lv_at hl 0 rfl) ?_
  refine lv_iload_n hx hb d_Lw_scope_3 rfl (lv_at hl 1 rfl) ?_
  refine lx_callR_i (As := [.int p1]) Xc hHW hw (c_FixityTrees_scope l D h cA hlt p1) hF (fx_cwV Xc ll_7 hg_FixityTrees_scope fx_gok (rm := fx_r0 { frames := 7, cells := 0, slots := 0, locals := 112 }) rfl rfl (by decide +kernel) ⟨Nat.le_of_ble_eq_true rfl, Nat.le_of_ble_eq_true rfl⟩) (va_recv X.2.1 (lx_split hw).1 (ci := 0) (q0 := 0) rfl rfl) (n := 1) rfl d_Lw_scope_4 hl.1 rfl (lv_room (Nat.le_of_ble_eq_true rfl)) ⟨Nat.zero_le _, Nat.zero_le _⟩ (fun H locs hw => ?_)
  refine lv_i2l hx hb d_Lw_scope_7 rfl ?_
  refine va_last hx hb X.2.1 hw.1 hw.2.1 hw.2.2 48 1 rfl rfl (by show ¬ ((0 : Int32) < 0 ∨ 1 ≤ (0 : Int32).toNatClampNeg); decide) d_Lw_scope_8 (fun H locs hP hD hS => ?_)
  have hw : cx_B D fx_cl A s.heap ([] ++ (fx_ws h cA σ' ++ [(ho, .inl (cA 1, 1, .inr (.inl (vp_updL f 0 r.toInt64))))])) H locs := ⟨hP, hD, hS⟩
  refine lv_goto (tgt := 18) hx hb d_Lw_scope_9 (by decide) ?_
  refine lv_iconst (v := 0) hx hb d_Lw_scope_18 (by decide) ?_
  exact hend _ _ _ _ _ _ (Nat.le_of_ble_eq_true rfl) (Nat.le_of_ble_eq_true rfl) d_Lw_scope_19 hw
set_option maxRecDepth 100000 in
theorem hx_scope_0 (l : Launch) (D : va_G) (h : Nat → Nat) (cA : Nat → ClassId) (ho : Nat) (hlt : l.stackTraces = false) (p1 : Int32) {σ σ' : fx_S} {f : Nat → Int64} (hF : F_FixityTrees_scope p1 σ = some (.inr 0, σ')) : lh_M l y_Lw_scope b_Lw_scope 4 [(0, 9, 12, 13), (0, 9, 15, 15)] { frames := 8, cells := 0, slots := 0, locals := 133 } D h cA ho [.ref (h 0), .int p1, .ref ho] σ f 1 σ' f 1 := by
  refine lh_start (by decide) (Nat.le_of_ble_eq_true rfl) ?_
  intro p e s m args below meth c A ls Q X htab hHW hw hl hend
  have hx := X.1.1
  have hb := X.1.2.1
  have hl : lv_has ls 4 [(0, .ref (h 0)), (1, .int p1), (2, .ref ho)] := hl
  have Xc : fx_X p m c b_Lw_scope 4 s args "FixityTreesLaw" D fx_cl (fx_tys cA) fx_g fx_G A := ⟨X.1, X.2.1, X.2.2.1, fx_G_ok, X.2.2.2.2.1⟩
  refine lv_aload_n hx hb d_Lw_scope_0 rfl (lv_at hl 2 rfl) ?_
  refine lv_iconst (v := 0) hx hb d_Lw_scope_1 (by decide) ?_
  refine lv_aload_n hx hb d_Lw_scope_2 rfl (lv_at hl 0 rfl) ?_
  refine lv_iload_n hx hb d_Lw_scope_3 rfl (lv_at hl 1 rfl) ?_
  refine lx_callT (As := [.int p1]) Xc hHW hw (x_FixityTrees_scope l D h cA hlt p1) hF (fx_cwV Xc ll_7 hg_FixityTrees_scope fx_gok (rm := fx_r1 { frames := 7, cells := 0, slots := 0, locals := 112 }) rfl rfl (by decide +kernel) ⟨Nat.le_of_ble_eq_true rfl, Nat.le_of_ble_eq_true rfl⟩) (va_recv X.2.1 (lx_split hw).1 (ci := 0) (q0 := 0) rfl rfl) (n := 1) rfl d_Lw_scope_4 hl.1 rfl (lv_room (Nat.le_of_ble_eq_true rfl)) ⟨Nat.le_of_ble_eq_true rfl, Nat.le_of_ble_eq_true rfl⟩ (fun H locs q9 ce hw hce hcv hcl => ?_)
  refine lx_catch X (pre := []) (x := ⟨0, 9, 12, 13⟩) (suf := [⟨0, 9, 15, 15⟩]) htab (fun _ h9 => absurd h9 List.not_mem_nil) (by decide) (by decide) (fx_in 266 (by decide +kernel) (by decide +kernel)) X.2.2.2.2.1.2.2.2.2.2.2.1 hce hcv hcl ?_
  refine lv_astore_n (lv' := [(3, .ref q9), (0, .ref (h 0)), (1, .int p1), (2, .ref ho)]) hx hb d_Lw_scope_12 rfl hl (by decide) rfl (fun ls hl => ?_)
  refine lv_iconst (v := 1) hx hb d_Lw_scope_13 (by decide) ?_
  exact hend _ _ _ _ _ _ (Nat.le_of_ble_eq_true rfl) (Nat.le_of_ble_eq_true rfl) d_Lw_scope_14 hw
set_option maxRecDepth 100000 in
theorem hx_scope_1 (l : Launch) (D : va_G) (h : Nat → Nat) (cA : Nat → ClassId) (ho : Nat) (hlt : l.stackTraces = false) (p1 : Int32) {σ σ' : fx_S} {f : Nat → Int64} (hF : F_FixityTrees_scope p1 σ = some (.inr 1, σ')) : lh_M l y_Lw_scope b_Lw_scope 4 [(0, 9, 12, 13), (0, 9, 15, 15)] { frames := 8, cells := 0, slots := 0, locals := 133 } D h cA ho [.ref (h 0), .int p1, .ref ho] σ f 2 σ' f 1 := by
  refine lh_start (by decide) (Nat.le_of_ble_eq_true rfl) ?_
  intro p e s m args below meth c A ls Q X htab hHW hw hl hend
  have hx := X.1.1
  have hb := X.1.2.1
  have hl : lv_has ls 4 [(0, .ref (h 0)), (1, .int p1), (2, .ref ho)] := hl
  have Xc : fx_X p m c b_Lw_scope 4 s args "FixityTreesLaw" D fx_cl (fx_tys cA) fx_g fx_G A := ⟨X.1, X.2.1, X.2.2.1, fx_G_ok, X.2.2.2.2.1⟩
  refine lv_aload_n hx hb d_Lw_scope_0 rfl (lv_at hl 2 rfl) ?_
  refine lv_iconst (v := 0) hx hb d_Lw_scope_1 (by decide) ?_
  refine lv_aload_n hx hb d_Lw_scope_2 rfl (lv_at hl 0 rfl) ?_
  refine lv_iload_n hx hb d_Lw_scope_3 rfl (lv_at hl 1 rfl) ?_
  refine lx_callT (As := [.int p1]) Xc hHW hw (x_FixityTrees_scope l D h cA hlt p1) hF (fx_cwV Xc ll_7 hg_FixityTrees_scope fx_gok (rm := fx_r1 { frames := 7, cells := 0, slots := 0, locals := 112 }) rfl rfl (by decide +kernel) ⟨Nat.le_of_ble_eq_true rfl, Nat.le_of_ble_eq_true rfl⟩) (va_recv X.2.1 (lx_split hw).1 (ci := 0) (q0 := 0) rfl rfl) (n := 1) rfl d_Lw_scope_4 hl.1 rfl (lv_room (Nat.le_of_ble_eq_true rfl)) ⟨Nat.le_of_ble_eq_true rfl, Nat.le_of_ble_eq_true rfl⟩ (fun H locs q9 ce hw hce hcv hcl => ?_)
  refine lx_catch X (pre := [⟨0, 9, 12, 13⟩]) (x := ⟨0, 9, 15, 15⟩) (suf := []) htab (List.forall_mem_cons.mpr ⟨⟨(by decide), fx_ex 0, fx_in 266 (by decide +kernel) (by decide +kernel), X.2.2.2.2.2.1⟩, (fun _ h9 => absurd h9 List.not_mem_nil)⟩) (by decide) (by decide) (fx_in 267 (by decide +kernel) (by decide +kernel)) X.2.2.2.2.1.2.2.2.2.2.2.2.1 hce hcv hcl ?_
  refine lv_astore_n (lv' := [(3, .ref q9), (0, .ref (h 0)), (1, .int p1), (2, .ref ho)]) hx hb d_Lw_scope_15 rfl hl (by decide) rfl (fun ls hl => ?_)
  refine lv_iconst (v := 2) hx hb d_Lw_scope_16 (by decide) ?_
  exact hend _ _ _ _ _ _ (Nat.le_of_ble_eq_true rfl) (Nat.le_of_ble_eq_true rfl) d_Lw_scope_17 hw
set_option maxRecDepth 100000 in
theorem hr_fixity (l : Launch) (D : va_G) (h : Nat → Nat) (cA : Nat → ClassId) (ho : Nat) (hlt : l.stackTraces = false) (p1 : Int32) (p2 : Int32) (p3 : Int32) (p4 : Int32) {σ σ' : fx_S} {f : Nat → Int64} (hF : F_FixityTrees_fixity p1 p2 p3 p4 σ = some (.inl (), σ')) : lh_M l y_Lw_fixity b_Lw_fixity 6 [(0, 9, 12, 13), (0, 9, 16, 15), (0, 9, 20, 21)] { frames := 8, cells := 0, slots := 0, locals := 136 } D h cA ho [.ref (h 0), .int p1, .int p2, .int p3, .int p4] σ f 0 σ' f 0 := by
  refine lh_start (by decide) (Nat.le_of_ble_eq_true rfl) ?_
  intro p e s m args below meth c A ls Q X htab hHW hw hl hend
  have hx := X.1.1
  have hb := X.1.2.1
  have hl : lv_has ls 6 [(0, .ref (h 0)), (1, .int p1), (2, .int p2), (3, .int p3), (4, .int p4)] := hl
  have Xc : fx_X p m c b_Lw_fixity 6 s args "FixityTreesLaw" D fx_cl (fx_tys cA) fx_g fx_G A := ⟨X.1, X.2.1, X.2.2.1, fx_G_ok, X.2.2.2.2.1⟩
  refine lv_aload_n hx hb d_Lw_fixity_0 rfl (lv_at hl 0 rfl) ?_
  refine lv_iload_n hx hb d_Lw_fixity_1 rfl (lv_at hl 1 rfl) ?_
  refine lv_iload_n hx hb d_Lw_fixity_2 rfl (lv_at hl 2 rfl) ?_
  refine lv_iload_n hx hb d_Lw_fixity_3 rfl (lv_at hl 3 rfl) ?_
  refine lv_iload hx hb d_Lw_fixity_4 (lv_at hl 4 rfl) ?_
  refine lx_callR_v (As := [.int p1, .int p2, .int p3, .int p4]) Xc hHW hw (c_FixityTrees_fixity l D h cA hlt p1 p2 p3 p4) hF (fx_cwV Xc ll_17 hg_FixityTrees_fixity fx_gok (rm := fx_r0 { frames := 7, cells := 0, slots := 0, locals := 112 }) rfl rfl (by decide +kernel) ⟨Nat.le_of_ble_eq_true rfl, Nat.le_of_ble_eq_true rfl⟩) (va_recv X.2.1 (lx_split hw).1 (ci := 0) (q0 := 0) rfl rfl) (n := 4) rfl d_Lw_fixity_6 hl.1 rfl (lv_room (Nat.le_of_ble_eq_true rfl)) ⟨Nat.zero_le _, Nat.zero_le _⟩ (fun H locs hw => ?_)
  refine lv_goto (tgt := 24) hx hb d_Lw_fixity_9 (by decide) ?_
  refine lv_iconst (v := 0) hx hb d_Lw_fixity_24 (by decide) ?_
  exact hend _ _ _ _ _ _ (Nat.le_of_ble_eq_true rfl) (Nat.le_of_ble_eq_true rfl) d_Lw_fixity_25 hw
set_option maxRecDepth 100000 in
theorem hx_fixity_0 (l : Launch) (D : va_G) (h : Nat → Nat) (cA : Nat → ClassId) (ho : Nat) (hlt : l.stackTraces = false) (p1 : Int32) (p2 : Int32) (p3 : Int32) (p4 : Int32) {σ σ' : fx_S} {f : Nat → Int64} (hF : F_FixityTrees_fixity p1 p2 p3 p4 σ = some (.inr 0, σ')) : lh_M l y_Lw_fixity b_Lw_fixity 6 [(0, 9, 12, 13), (0, 9, 16, 15), (0, 9, 20, 21)] { frames := 8, cells := 0, slots := 0, locals := 136 } D h cA ho [.ref (h 0), .int p1, .int p2, .int p3, .int p4] σ f 1 σ' f 1 := by
  refine lh_start (by decide) (Nat.le_of_ble_eq_true rfl) ?_
  intro p e s m args below meth c A ls Q X htab hHW hw hl hend
  have hx := X.1.1
  have hb := X.1.2.1
  have hl : lv_has ls 6 [(0, .ref (h 0)), (1, .int p1), (2, .int p2), (3, .int p3), (4, .int p4)] := hl
  have Xc : fx_X p m c b_Lw_fixity 6 s args "FixityTreesLaw" D fx_cl (fx_tys cA) fx_g fx_G A := ⟨X.1, X.2.1, X.2.2.1, fx_G_ok, X.2.2.2.2.1⟩
  refine lv_aload_n hx hb d_Lw_fixity_0 rfl (lv_at hl 0 rfl) ?_
  refine lv_iload_n hx hb d_Lw_fixity_1 rfl (lv_at hl 1 rfl) ?_
  refine lv_iload_n hx hb d_Lw_fixity_2 rfl (lv_at hl 2 rfl) ?_
  refine lv_iload_n hx hb d_Lw_fixity_3 rfl (lv_at hl 3 rfl) ?_
  refine lv_iload hx hb d_Lw_fixity_4 (lv_at hl 4 rfl) ?_
  refine lx_callT (As := [.int p1, .int p2, .int p3, .int p4]) Xc hHW hw (x_FixityTrees_fixity l D h cA hlt p1 p2 p3 p4) hF (fx_cwV Xc ll_17 hg_FixityTrees_fixity fx_gok (rm := fx_r1 { frames := 7, cells := 0, slots := 0, locals := 112 }) rfl rfl (by decide +kernel) ⟨Nat.le_of_ble_eq_true rfl, Nat.le_of_ble_eq_true rfl⟩) (va_recv X.2.1 (lx_split hw).1 (ci := 0) (q0 := 0) rfl rfl) (n := 4) rfl d_Lw_fixity_6 hl.1 rfl (lv_room (Nat.le_of_ble_eq_true rfl)) ⟨Nat.le_of_ble_eq_true rfl, Nat.le_of_ble_eq_true rfl⟩ (fun H locs q9 ce hw hce hcv hcl => ?_)
  refine lx_catch X (pre := []) (x := ⟨0, 9, 12, 13⟩) (suf := [⟨0, 9, 16, 15⟩, ⟨0, 9, 20, 21⟩]) htab (fun _ h9 => absurd h9 List.not_mem_nil) (by decide) (by decide) (fx_in 266 (by decide +kernel) (by decide +kernel)) X.2.2.2.2.1.2.2.2.2.2.2.1 hce hcv hcl ?_
  refine lv_astore (lv' := [(5, .ref q9), (0, .ref (h 0)), (1, .int p1), (2, .int p2), (3, .int p3), (4, .int p4)]) hx hb d_Lw_fixity_12 hl (by decide) rfl (fun ls hl => ?_)
  refine lv_iconst (v := 1) hx hb d_Lw_fixity_14 (by decide) ?_
  exact hend _ _ _ _ _ _ (Nat.le_of_ble_eq_true rfl) (Nat.le_of_ble_eq_true rfl) d_Lw_fixity_15 hw
set_option maxRecDepth 100000 in
theorem hx_fixity_1 (l : Launch) (D : va_G) (h : Nat → Nat) (cA : Nat → ClassId) (ho : Nat) (hlt : l.stackTraces = false) (p1 : Int32) (p2 : Int32) (p3 : Int32) (p4 : Int32) {σ σ' : fx_S} {f : Nat → Int64} (hF : F_FixityTrees_fixity p1 p2 p3 p4 σ = some (.inr 1, σ')) : lh_M l y_Lw_fixity b_Lw_fixity 6 [(0, 9, 12, 13), (0, 9, 16, 15), (0, 9, 20, 21)] { frames := 8, cells := 0, slots := 0, locals := 136 } D h cA ho [.ref (h 0), .int p1, .int p2, .int p3, .int p4] σ f 2 σ' f 1 := by
  refine lh_start (by decide) (Nat.le_of_ble_eq_true rfl) ?_
  intro p e s m args below meth c A ls Q X htab hHW hw hl hend
  have hx := X.1.1
  have hb := X.1.2.1
  have hl : lv_has ls 6 [(0, .ref (h 0)), (1, .int p1), (2, .int p2), (3, .int p3), (4, .int p4)] := hl
  have Xc : fx_X p m c b_Lw_fixity 6 s args "FixityTreesLaw" D fx_cl (fx_tys cA) fx_g fx_G A := ⟨X.1, X.2.1, X.2.2.1, fx_G_ok, X.2.2.2.2.1⟩
  refine lv_aload_n hx hb d_Lw_fixity_0 rfl (lv_at hl 0 rfl) ?_
  refine lv_iload_n hx hb d_Lw_fixity_1 rfl (lv_at hl 1 rfl) ?_
  refine lv_iload_n hx hb d_Lw_fixity_2 rfl (lv_at hl 2 rfl) ?_
  refine lv_iload_n hx hb d_Lw_fixity_3 rfl (lv_at hl 3 rfl) ?_
  refine lv_iload hx hb d_Lw_fixity_4 (lv_at hl 4 rfl) ?_
  refine lx_callT (As := [.int p1, .int p2, .int p3, .int p4]) Xc hHW hw (x_FixityTrees_fixity l D h cA hlt p1 p2 p3 p4) hF (fx_cwV Xc ll_17 hg_FixityTrees_fixity fx_gok (rm := fx_r1 { frames := 7, cells := 0, slots := 0, locals := 112 }) rfl rfl (by decide +kernel) ⟨Nat.le_of_ble_eq_true rfl, Nat.le_of_ble_eq_true rfl⟩) (va_recv X.2.1 (lx_split hw).1 (ci := 0) (q0 := 0) rfl rfl) (n := 4) rfl d_Lw_fixity_6 hl.1 rfl (lv_room (Nat.le_of_ble_eq_true rfl)) ⟨Nat.le_of_ble_eq_true rfl, Nat.le_of_ble_eq_true rfl⟩ (fun H locs q9 ce hw hce hcv hcl => ?_)
  refine lx_catch X (pre := [⟨0, 9, 12, 13⟩]) (x := ⟨0, 9, 16, 15⟩) (suf := [⟨0, 9, 20, 21⟩]) htab (List.forall_mem_cons.mpr ⟨⟨(by decide), fx_ex 0, fx_in 266 (by decide +kernel) (by decide +kernel), X.2.2.2.2.2.1⟩, (fun _ h9 => absurd h9 List.not_mem_nil)⟩) (by decide) (by decide) (fx_in 267 (by decide +kernel) (by decide +kernel)) X.2.2.2.2.1.2.2.2.2.2.2.2.1 hce hcv hcl ?_
  refine lv_astore (lv' := [(5, .ref q9), (0, .ref (h 0)), (1, .int p1), (2, .int p2), (3, .int p3), (4, .int p4)]) hx hb d_Lw_fixity_16 hl (by decide) rfl (fun ls hl => ?_)
  refine lv_iconst (v := 2) hx hb d_Lw_fixity_18 (by decide) ?_
  exact hend _ _ _ _ _ _ (Nat.le_of_ble_eq_true rfl) (Nat.le_of_ble_eq_true rfl) d_Lw_fixity_19 hw
set_option maxRecDepth 100000 in
theorem hx_fixity_2 (l : Launch) (D : va_G) (h : Nat → Nat) (cA : Nat → ClassId) (ho : Nat) (hlt : l.stackTraces = false) (p1 : Int32) (p2 : Int32) (p3 : Int32) (p4 : Int32) {σ σ' : fx_S} {f : Nat → Int64} (hF : F_FixityTrees_fixity p1 p2 p3 p4 σ = some (.inr 2, σ')) : lh_M l y_Lw_fixity b_Lw_fixity 6 [(0, 9, 12, 13), (0, 9, 16, 15), (0, 9, 20, 21)] { frames := 8, cells := 0, slots := 0, locals := 136 } D h cA ho [.ref (h 0), .int p1, .int p2, .int p3, .int p4] σ f 3 σ' f 1 := by
  refine lh_start (by decide) (Nat.le_of_ble_eq_true rfl) ?_
  intro p e s m args below meth c A ls Q X htab hHW hw hl hend
  have hx := X.1.1
  have hb := X.1.2.1
  have hl : lv_has ls 6 [(0, .ref (h 0)), (1, .int p1), (2, .int p2), (3, .int p3), (4, .int p4)] := hl
  have Xc : fx_X p m c b_Lw_fixity 6 s args "FixityTreesLaw" D fx_cl (fx_tys cA) fx_g fx_G A := ⟨X.1, X.2.1, X.2.2.1, fx_G_ok, X.2.2.2.2.1⟩
  refine lv_aload_n hx hb d_Lw_fixity_0 rfl (lv_at hl 0 rfl) ?_
  refine lv_iload_n hx hb d_Lw_fixity_1 rfl (lv_at hl 1 rfl) ?_
  refine lv_iload_n hx hb d_Lw_fixity_2 rfl (lv_at hl 2 rfl) ?_
  refine lv_iload_n hx hb d_Lw_fixity_3 rfl (lv_at hl 3 rfl) ?_
  refine lv_iload hx hb d_Lw_fixity_4 (lv_at hl 4 rfl) ?_
  refine lx_callT (As := [.int p1, .int p2, .int p3, .int p4]) Xc hHW hw (x_FixityTrees_fixity l D h cA hlt p1 p2 p3 p4) hF (fx_cwV Xc ll_17 hg_FixityTrees_fixity fx_gok (rm := fx_r1 { frames := 7, cells := 0, slots := 0, locals := 112 }) rfl rfl (by decide +kernel) ⟨Nat.le_of_ble_eq_true rfl, Nat.le_of_ble_eq_true rfl⟩) (va_recv X.2.1 (lx_split hw).1 (ci := 0) (q0 := 0) rfl rfl) (n := 4) rfl d_Lw_fixity_6 hl.1 rfl (lv_room (Nat.le_of_ble_eq_true rfl)) ⟨Nat.le_of_ble_eq_true rfl, Nat.le_of_ble_eq_true rfl⟩ (fun H locs q9 ce hw hce hcv hcl => ?_)
  refine lx_catch X (pre := [⟨0, 9, 12, 13⟩, ⟨0, 9, 16, 15⟩]) (x := ⟨0, 9, 20, 21⟩) (suf := []) htab (List.forall_mem_cons.mpr ⟨⟨(by decide), fx_ex 0, fx_in 266 (by decide +kernel) (by decide +kernel), X.2.2.2.2.2.2.1⟩, (List.forall_mem_cons.mpr ⟨⟨(by decide), fx_ex 1, fx_in 267 (by decide +kernel) (by decide +kernel), X.2.2.2.2.2.2.2⟩, (fun _ h9 => absurd h9 List.not_mem_nil)⟩)⟩) (by decide) (by decide) (fx_in 376 (by decide +kernel) (by decide +kernel)) X.2.2.2.2.1.2.2.2.2.2.2.2.2.1 hce hcv hcl ?_
  refine lv_astore (lv' := [(5, .ref q9), (0, .ref (h 0)), (1, .int p1), (2, .int p2), (3, .int p3), (4, .int p4)]) hx hb d_Lw_fixity_20 hl (by decide) rfl (fun ls hl => ?_)
  refine lv_iconst (v := 3) hx hb d_Lw_fixity_22 (by decide) ?_
  exact hend _ _ _ _ _ _ (Nat.le_of_ble_eq_true rfl) (Nat.le_of_ble_eq_true rfl) d_Lw_fixity_23 hw
set_option maxRecDepth 100000 in
theorem hr_looked (l : Launch) (D : va_G) (h : Nat → Nat) (cA : Nat → ClassId) (ho : Nat) (hlt : l.stackTraces = false) (p1 : Int32) (p2 : Int32) (p3 : Int32) {σ σ' : fx_S} {f : Nat → Int64} {r : Int32} (hF : F_FixityTrees_looked p1 p2 p3 σ = some (.inl r, σ')) : lh_M l y_Lw_looked b_Lw_looked 6 [(0, 12, 15, 13), (0, 12, 19, 21)] { frames := 8, cells := 0, slots := 0, locals := 135 } D h cA ho [.ref (h 0), .int p1, .int p2, .int p3, .ref ho] σ f 0 σ' (vp_updL f 0 r.toInt64) 0 := by
  refine lh_start (by decide) (Nat.le_of_ble_eq_true rfl) ?_
  intro p e s m args below meth c A ls Q X htab hHW hw hl hend
  have hx := X.1.1
  have hb := X.1.2.1
  have hl : lv_has ls 6 [(0, .ref (h 0)), (1, .int p1), (2, .int p2), (3, .int p3), (4, .ref ho)] := hl
  have Xc : fx_X p m c b_Lw_looked 6 s args "FixityTreesLaw" D fx_cl (fx_tys cA) fx_g fx_G A := ⟨X.1, X.2.1, X.2.2.1, fx_G_ok, X.2.2.2.2.1⟩
  refine lv_aload hx hb d_Lw_looked_0 (lv_at hl 4 rfl) ?_
  refine lv_iconst (v := 0) hx hb d_Lw_looked_2 (by decide) ?_
  refine lv_aload_n hx hb d_Lw_looked_3 rfl (lv_at hl 0 rfl) ?_
  refine lv_iload_n hx hb d_Lw_looked_4 rfl (lv_at hl 1 rfl) ?_
  refine lv_iload_n hx hb d_Lw_looked_5 rfl (lv_at hl 2 rfl) ?_
  refine lv_iload_n hx hb d_Lw_looked_6 rfl (lv_at hl 3 rfl) ?_
  refine lx_callR_i (As := [.int p1, .int p2, .int p3]) Xc hHW hw (c_FixityTrees_looked l D h cA hlt p1 p2 p3) hF (fx_cwV Xc ll_23 hg_FixityTrees_looked fx_gok (rm := fx_r0 { frames := 7, cells := 0, slots := 0, locals := 112 }) rfl rfl (by decide +kernel) ⟨Nat.le_of_ble_eq_true rfl, Nat.le_of_ble_eq_true rfl⟩) (va_recv X.2.1 (lx_split hw).1 (ci := 0) (q0 := 0) rfl rfl) (n := 3) rfl d_Lw_looked_7 hl.1 rfl (lv_room (Nat.le_of_ble_eq_true rfl)) ⟨Nat.zero_le _, Nat.zero_le _⟩ (fun H locs hw => ?_)
  refine lv_i2l hx hb d_Lw_looked_10 rfl ?_
  refine va_last hx hb X.2.1 hw.1 hw.2.1 hw.2.2 48 1 rfl rfl (by show ¬ ((0 : Int32) < 0 ∨ 1 ≤ (0 : Int32).toNatClampNeg); decide) d_Lw_looked_11 (fun H locs hP hD hS => ?_)
  have hw : cx_B D fx_cl A s.heap ([] ++ (fx_ws h cA σ' ++ [(ho, .inl (cA 1, 1, .inr (.inl (vp_updL f 0 r.toInt64))))])) H locs := ⟨hP, hD, hS⟩
  refine lv_goto (tgt := 23) hx hb d_Lw_looked_12 (by decide) ?_
  refine lv_iconst (v := 0) hx hb d_Lw_looked_23 (by decide) ?_
  exact hend _ _ _ _ _ _ (Nat.le_of_ble_eq_true rfl) (Nat.le_of_ble_eq_true rfl) d_Lw_looked_24 hw
set_option maxRecDepth 100000 in
theorem hx_looked_0 (l : Launch) (D : va_G) (h : Nat → Nat) (cA : Nat → ClassId) (ho : Nat) (hlt : l.stackTraces = false) (p1 : Int32) (p2 : Int32) (p3 : Int32) {σ σ' : fx_S} {f : Nat → Int64} (hF : F_FixityTrees_looked p1 p2 p3 σ = some (.inr 0, σ')) : lh_M l y_Lw_looked b_Lw_looked 6 [(0, 12, 15, 13), (0, 12, 19, 21)] { frames := 8, cells := 0, slots := 0, locals := 135 } D h cA ho [.ref (h 0), .int p1, .int p2, .int p3, .ref ho] σ f 1 σ' f 1 := by
  refine lh_start (by decide) (Nat.le_of_ble_eq_true rfl) ?_
  intro p e s m args below meth c A ls Q X htab hHW hw hl hend
  have hx := X.1.1
  have hb := X.1.2.1
  have hl : lv_has ls 6 [(0, .ref (h 0)), (1, .int p1), (2, .int p2), (3, .int p3), (4, .ref ho)] := hl
  have Xc : fx_X p m c b_Lw_looked 6 s args "FixityTreesLaw" D fx_cl (fx_tys cA) fx_g fx_G A := ⟨X.1, X.2.1, X.2.2.1, fx_G_ok, X.2.2.2.2.1⟩
  refine lv_aload hx hb d_Lw_looked_0 (lv_at hl 4 rfl) ?_
  refine lv_iconst (v := 0) hx hb d_Lw_looked_2 (by decide) ?_
  refine lv_aload_n hx hb d_Lw_looked_3 rfl (lv_at hl 0 rfl) ?_
  refine lv_iload_n hx hb d_Lw_looked_4 rfl (lv_at hl 1 rfl) ?_
  refine lv_iload_n hx hb d_Lw_looked_5 rfl (lv_at hl 2 rfl) ?_
  refine lv_iload_n hx hb d_Lw_looked_6 rfl (lv_at hl 3 rfl) ?_
  refine lx_callT (As := [.int p1, .int p2, .int p3]) Xc hHW hw (x_FixityTrees_looked l D h cA hlt p1 p2 p3) hF (fx_cwV Xc ll_23 hg_FixityTrees_looked fx_gok (rm := fx_r1 { frames := 7, cells := 0, slots := 0, locals := 112 }) rfl rfl (by decide +kernel) ⟨Nat.le_of_ble_eq_true rfl, Nat.le_of_ble_eq_true rfl⟩) (va_recv X.2.1 (lx_split hw).1 (ci := 0) (q0 := 0) rfl rfl) (n := 3) rfl d_Lw_looked_7 hl.1 rfl (lv_room (Nat.le_of_ble_eq_true rfl)) ⟨Nat.le_of_ble_eq_true rfl, Nat.le_of_ble_eq_true rfl⟩ (fun H locs q9 ce hw hce hcv hcl => ?_)
  refine lx_catch X (pre := []) (x := ⟨0, 12, 15, 13⟩) (suf := [⟨0, 12, 19, 21⟩]) htab (fun _ h9 => absurd h9 List.not_mem_nil) (by decide) (by decide) (fx_in 266 (by decide +kernel) (by decide +kernel)) X.2.2.2.2.1.2.2.2.2.2.2.1 hce hcv hcl ?_
  refine lv_astore (lv' := [(5, .ref q9), (0, .ref (h 0)), (1, .int p1), (2, .int p2), (3, .int p3), (4, .ref ho)]) hx hb d_Lw_looked_15 hl (by decide) rfl (fun ls hl => ?_)
  refine lv_iconst (v := 1) hx hb d_Lw_looked_17 (by decide) ?_
  exact hend _ _ _ _ _ _ (Nat.le_of_ble_eq_true rfl) (Nat.le_of_ble_eq_true rfl) d_Lw_looked_18 hw
set_option maxRecDepth 100000 in
theorem hx_looked_2 (l : Launch) (D : va_G) (h : Nat → Nat) (cA : Nat → ClassId) (ho : Nat) (hlt : l.stackTraces = false) (p1 : Int32) (p2 : Int32) (p3 : Int32) {σ σ' : fx_S} {f : Nat → Int64} (hF : F_FixityTrees_looked p1 p2 p3 σ = some (.inr 2, σ')) : lh_M l y_Lw_looked b_Lw_looked 6 [(0, 12, 15, 13), (0, 12, 19, 21)] { frames := 8, cells := 0, slots := 0, locals := 135 } D h cA ho [.ref (h 0), .int p1, .int p2, .int p3, .ref ho] σ f 2 σ' f 1 := by
  refine lh_start (by decide) (Nat.le_of_ble_eq_true rfl) ?_
  intro p e s m args below meth c A ls Q X htab hHW hw hl hend
  have hx := X.1.1
  have hb := X.1.2.1
  have hl : lv_has ls 6 [(0, .ref (h 0)), (1, .int p1), (2, .int p2), (3, .int p3), (4, .ref ho)] := hl
  have Xc : fx_X p m c b_Lw_looked 6 s args "FixityTreesLaw" D fx_cl (fx_tys cA) fx_g fx_G A := ⟨X.1, X.2.1, X.2.2.1, fx_G_ok, X.2.2.2.2.1⟩
  refine lv_aload hx hb d_Lw_looked_0 (lv_at hl 4 rfl) ?_
  refine lv_iconst (v := 0) hx hb d_Lw_looked_2 (by decide) ?_
  refine lv_aload_n hx hb d_Lw_looked_3 rfl (lv_at hl 0 rfl) ?_
  refine lv_iload_n hx hb d_Lw_looked_4 rfl (lv_at hl 1 rfl) ?_
  refine lv_iload_n hx hb d_Lw_looked_5 rfl (lv_at hl 2 rfl) ?_
  refine lv_iload_n hx hb d_Lw_looked_6 rfl (lv_at hl 3 rfl) ?_
  refine lx_callT (As := [.int p1, .int p2, .int p3]) Xc hHW hw (x_FixityTrees_looked l D h cA hlt p1 p2 p3) hF (fx_cwV Xc ll_23 hg_FixityTrees_looked fx_gok (rm := fx_r1 { frames := 7, cells := 0, slots := 0, locals := 112 }) rfl rfl (by decide +kernel) ⟨Nat.le_of_ble_eq_true rfl, Nat.le_of_ble_eq_true rfl⟩) (va_recv X.2.1 (lx_split hw).1 (ci := 0) (q0 := 0) rfl rfl) (n := 3) rfl d_Lw_looked_7 hl.1 rfl (lv_room (Nat.le_of_ble_eq_true rfl)) ⟨Nat.le_of_ble_eq_true rfl, Nat.le_of_ble_eq_true rfl⟩ (fun H locs q9 ce hw hce hcv hcl => ?_)
  refine lx_catch X (pre := [⟨0, 12, 15, 13⟩]) (x := ⟨0, 12, 19, 21⟩) (suf := []) htab (List.forall_mem_cons.mpr ⟨⟨(by decide), fx_ex 0, fx_in 266 (by decide +kernel) (by decide +kernel), X.2.2.2.2.2.2.1⟩, (fun _ h9 => absurd h9 List.not_mem_nil)⟩) (by decide) (by decide) (fx_in 376 (by decide +kernel) (by decide +kernel)) X.2.2.2.2.1.2.2.2.2.2.2.2.2.1 hce hcv hcl ?_
  refine lv_astore (lv' := [(5, .ref q9), (0, .ref (h 0)), (1, .int p1), (2, .int p2), (3, .int p3), (4, .ref ho)]) hx hb d_Lw_looked_19 hl (by decide) rfl (fun ls hl => ?_)
  refine lv_iconst (v := 2) hx hb d_Lw_looked_21 (by decide) ?_
  exact hend _ _ _ _ _ _ (Nat.le_of_ble_eq_true rfl) (Nat.le_of_ble_eq_true rfl) d_Lw_looked_22 hw
set_option maxRecDepth 100000 in
theorem hr_operand (l : Launch) (D : va_G) (h : Nat → Nat) (cA : Nat → ClassId) (ho : Nat) (hlt : l.stackTraces = false) (p1 : Int64) {σ σ' : fx_S} {f : Nat → Int64} {r : Int32} (hF : F_FixityTrees_operand p1 σ = some (.inl r, σ')) : lh_M l y_Lw_operand b_Lw_operand 5 [(0, 9, 12, 15)] { frames := 7, cells := 0, slots := 0, locals := 128 } D h cA ho [.ref (h 0), .long p1, .ref ho] σ f 0 σ' (vp_updL f 0 r.toInt64) 0 := by
  refine lh_start (by decide) (Nat.le_of_ble_eq_true rfl) ?_
  intro p e s m args below meth c A ls Q X htab hHW hw hl hend
  have hx := X.1.1
  have hb := X.1.2.1
  have hl : lv_has ls 5 [(0, .ref (h 0)), (1, .long p1), (3, .ref ho)] := hl
  have Xc : fx_X p m c b_Lw_operand 5 s args "FixityTreesLaw" D fx_cl (fx_tys cA) fx_g fx_G A := ⟨X.1, X.2.1, X.2.2.1, fx_G_ok, X.2.2.2.2.1⟩
  refine lv_aload_n hx hb d_Lw_operand_0 rfl (lv_at hl 2 rfl) ?_
  refine lv_iconst (v := 0) hx hb d_Lw_operand_1 (by decide) ?_
  refine lv_aload_n hx hb d_Lw_operand_2 rfl (lv_at hl 0 rfl) ?_
  refine lv_lload_n hx hb d_Lw_operand_3 rfl (lv_at hl 1 rfl) ?_
  refine lx_callR_i (As := [.long p1]) Xc hHW hw (c_FixityTrees_operand l D h cA hlt p1) hF (fx_cwV Xc ll_27 hg_FixityTrees_operand fx_gok (rm := fx_r0 { frames := 6, cells := 0, slots := 0, locals := 106 }) rfl rfl (by decide +kernel) ⟨Nat.le_of_ble_eq_true rfl, Nat.le_of_ble_eq_true rfl⟩) (va_recv X.2.1 (lx_split hw).1 (ci := 0) (q0 := 0) rfl rfl) (n := 1) rfl d_Lw_operand_4 hl.1 rfl (lv_room (Nat.le_of_ble_eq_true rfl)) ⟨Nat.zero_le _, Nat.zero_le _⟩ (fun H locs hw => ?_)
  refine lv_i2l hx hb d_Lw_operand_7 rfl ?_
  refine va_last hx hb X.2.1 hw.1 hw.2.1 hw.2.2 48 1 rfl rfl (by show ¬ ((0 : Int32) < 0 ∨ 1 ≤ (0 : Int32).toNatClampNeg); decide) d_Lw_operand_8 (fun H locs hP hD hS => ?_)
  have hw : cx_B D fx_cl A s.heap ([] ++ (fx_ws h cA σ' ++ [(ho, .inl (cA 1, 1, .inr (.inl (vp_updL f 0 r.toInt64))))])) H locs := ⟨hP, hD, hS⟩
  refine lv_goto (tgt := 16) hx hb d_Lw_operand_9 (by decide) ?_
  refine lv_iconst (v := 0) hx hb d_Lw_operand_16 (by decide) ?_
  exact hend _ _ _ _ _ _ (Nat.le_of_ble_eq_true rfl) (Nat.le_of_ble_eq_true rfl) d_Lw_operand_17 hw
set_option maxRecDepth 100000 in
theorem hx_operand_1 (l : Launch) (D : va_G) (h : Nat → Nat) (cA : Nat → ClassId) (ho : Nat) (hlt : l.stackTraces = false) (p1 : Int64) {σ σ' : fx_S} {f : Nat → Int64} (hF : F_FixityTrees_operand p1 σ = some (.inr 1, σ')) : lh_M l y_Lw_operand b_Lw_operand 5 [(0, 9, 12, 15)] { frames := 7, cells := 0, slots := 0, locals := 128 } D h cA ho [.ref (h 0), .long p1, .ref ho] σ f 1 σ' f 1 := by
  refine lh_start (by decide) (Nat.le_of_ble_eq_true rfl) ?_
  intro p e s m args below meth c A ls Q X htab hHW hw hl hend
  have hx := X.1.1
  have hb := X.1.2.1
  have hl : lv_has ls 5 [(0, .ref (h 0)), (1, .long p1), (3, .ref ho)] := hl
  have Xc : fx_X p m c b_Lw_operand 5 s args "FixityTreesLaw" D fx_cl (fx_tys cA) fx_g fx_G A := ⟨X.1, X.2.1, X.2.2.1, fx_G_ok, X.2.2.2.2.1⟩
  refine lv_aload_n hx hb d_Lw_operand_0 rfl (lv_at hl 2 rfl) ?_
  refine lv_iconst (v := 0) hx hb d_Lw_operand_1 (by decide) ?_
  refine lv_aload_n hx hb d_Lw_operand_2 rfl (lv_at hl 0 rfl) ?_
  refine lv_lload_n hx hb d_Lw_operand_3 rfl (lv_at hl 1 rfl) ?_
  refine lx_callT (As := [.long p1]) Xc hHW hw (x_FixityTrees_operand l D h cA hlt p1) hF (fx_cwV Xc ll_27 hg_FixityTrees_operand fx_gok (rm := fx_r1 { frames := 6, cells := 0, slots := 0, locals := 106 }) rfl rfl (by decide +kernel) ⟨Nat.le_of_ble_eq_true rfl, Nat.le_of_ble_eq_true rfl⟩) (va_recv X.2.1 (lx_split hw).1 (ci := 0) (q0 := 0) rfl rfl) (n := 1) rfl d_Lw_operand_4 hl.1 rfl (lv_room (Nat.le_of_ble_eq_true rfl)) ⟨Nat.le_of_ble_eq_true rfl, Nat.le_of_ble_eq_true rfl⟩ (fun H locs q9 ce hw hce hcv hcl => ?_)
  refine lx_catch X (pre := []) (x := ⟨0, 9, 12, 15⟩) (suf := []) htab (fun _ h9 => absurd h9 List.not_mem_nil) (by decide) (by decide) (fx_in 267 (by decide +kernel) (by decide +kernel)) X.2.2.2.2.1.2.2.2.2.2.2.2.1 hce hcv hcl ?_
  refine lv_astore (lv' := [(4, .ref q9), (0, .ref (h 0)), (1, .long p1), (3, .ref ho)]) hx hb d_Lw_operand_12 hl (by decide) rfl (fun ls hl => ?_)
  refine lv_iconst (v := 1) hx hb d_Lw_operand_14 (by decide) ?_
  exact hend _ _ _ _ _ _ (Nat.le_of_ble_eq_true rfl) (Nat.le_of_ble_eq_true rfl) d_Lw_operand_15 hw
set_option maxRecDepth 100000 in
theorem hr_operator (l : Launch) (D : va_G) (h : Nat → Nat) (cA : Nat → ClassId) (ho : Nat) (hlt : l.stackTraces = false) (p1 : Int32) {σ σ' : fx_S} {f : Nat → Int64} {r : Int32} (hF : F_FixityTrees_operator p1 σ = some (.inl r, σ')) : lh_M l y_Lw_operator b_Lw_operator 4 [(0, 9, 12, 13), (0, 9, 15, 15)] { frames := 8, cells := 0, slots := 0, locals := 134 } D h cA ho [.ref (h 0), .int p1, .ref ho] σ f 0 σ' (vp_updL f 0 r.toInt64) 0 := by
  refine lh_start (by decide) (Nat.le_of_ble_eq_true rfl) ?_
  intro p e s m args below meth c A ls Q X htab hHW hw hl hend
  have hx := X.1.1
  have hb := X.1.2.1
  have hl : lv_has ls 4 [(0, .ref (h 0)), (1, .int p1), (2, .ref ho)] := hl
  have Xc : fx_X p m c b_Lw_operator 4 s args "FixityTreesLaw" D fx_cl (fx_tys cA) fx_g fx_G A := ⟨X.1, X.2.1, X.2.2.1, fx_G_ok, X.2.2.2.2.1⟩
  refine lv_aload_n hx hb d_Lw_operator_0 rfl (lv_at hl 2 rfl) ?_
  refine lv_iconst (v := 0) hx hb d_Lw_operator_1 (by decide) ?_
  refine lv_aload_n hx hb d_Lw_operator_2 rfl (lv_at hl 0 rfl) ?_
  refine lv_iload_n hx hb d_Lw_operator_3 rfl (lv_at hl 1 rfl) ?_
  refine lx_callR_i (As := [.int p1]) Xc hHW hw (c_FixityTrees_operator l D h cA hlt p1) hF (fx_cwV Xc ll_31 hg_FixityTrees_operator fx_gok (rm := fx_r0 { frames := 7, cells := 0, slots := 0, locals := 112 }) rfl rfl (by decide +kernel) ⟨Nat.le_of_ble_eq_true rfl, Nat.le_of_ble_eq_true rfl⟩) (va_recv X.2.1 (lx_split hw).1 (ci := 0) (q0 := 0) rfl rfl) (n := 1) rfl d_Lw_operator_4 hl.1 rfl (lv_room (Nat.le_of_ble_eq_true rfl)) ⟨Nat.zero_le _, Nat.zero_le _⟩ (fun H locs hw => ?_)
  refine lv_i2l hx hb d_Lw_operator_7 rfl ?_
  refine va_last hx hb X.2.1 hw.1 hw.2.1 hw.2.2 48 1 rfl rfl (by show ¬ ((0 : Int32) < 0 ∨ 1 ≤ (0 : Int32).toNatClampNeg); decide) d_Lw_operator_8 (fun H locs hP hD hS => ?_)
  have hw : cx_B D fx_cl A s.heap ([] ++ (fx_ws h cA σ' ++ [(ho, .inl (cA 1, 1, .inr (.inl (vp_updL f 0 r.toInt64))))])) H locs := ⟨hP, hD, hS⟩
  refine lv_goto (tgt := 18) hx hb d_Lw_operator_9 (by decide) ?_
  refine lv_iconst (v := 0) hx hb d_Lw_operator_18 (by decide) ?_
  exact hend _ _ _ _ _ _ (Nat.le_of_ble_eq_true rfl) (Nat.le_of_ble_eq_true rfl) d_Lw_operator_19 hw
set_option maxRecDepth 100000 in
theorem hx_operator_0 (l : Launch) (D : va_G) (h : Nat → Nat) (cA : Nat → ClassId) (ho : Nat) (hlt : l.stackTraces = false) (p1 : Int32) {σ σ' : fx_S} {f : Nat → Int64} (hF : F_FixityTrees_operator p1 σ = some (.inr 0, σ')) : lh_M l y_Lw_operator b_Lw_operator 4 [(0, 9, 12, 13), (0, 9, 15, 15)] { frames := 8, cells := 0, slots := 0, locals := 134 } D h cA ho [.ref (h 0), .int p1, .ref ho] σ f 1 σ' f 1 := by
  refine lh_start (by decide) (Nat.le_of_ble_eq_true rfl) ?_
  intro p e s m args below meth c A ls Q X htab hHW hw hl hend
  have hx := X.1.1
  have hb := X.1.2.1
  have hl : lv_has ls 4 [(0, .ref (h 0)), (1, .int p1), (2, .ref ho)] := hl
  have Xc : fx_X p m c b_Lw_operator 4 s args "FixityTreesLaw" D fx_cl (fx_tys cA) fx_g fx_G A := ⟨X.1, X.2.1, X.2.2.1, fx_G_ok, X.2.2.2.2.1⟩
  refine lv_aload_n hx hb d_Lw_operator_0 rfl (lv_at hl 2 rfl) ?_
  refine lv_iconst (v := 0) hx hb d_Lw_operator_1 (by decide) ?_
  refine lv_aload_n hx hb d_Lw_operator_2 rfl (lv_at hl 0 rfl) ?_
  refine lv_iload_n hx hb d_Lw_operator_3 rfl (lv_at hl 1 rfl) ?_
  refine lx_callT (As := [.int p1]) Xc hHW hw (x_FixityTrees_operator l D h cA hlt p1) hF (fx_cwV Xc ll_31 hg_FixityTrees_operator fx_gok (rm := fx_r1 { frames := 7, cells := 0, slots := 0, locals := 112 }) rfl rfl (by decide +kernel) ⟨Nat.le_of_ble_eq_true rfl, Nat.le_of_ble_eq_true rfl⟩) (va_recv X.2.1 (lx_split hw).1 (ci := 0) (q0 := 0) rfl rfl) (n := 1) rfl d_Lw_operator_4 hl.1 rfl (lv_room (Nat.le_of_ble_eq_true rfl)) ⟨Nat.le_of_ble_eq_true rfl, Nat.le_of_ble_eq_true rfl⟩ (fun H locs q9 ce hw hce hcv hcl => ?_)
  refine lx_catch X (pre := []) (x := ⟨0, 9, 12, 13⟩) (suf := [⟨0, 9, 15, 15⟩]) htab (fun _ h9 => absurd h9 List.not_mem_nil) (by decide) (by decide) (fx_in 266 (by decide +kernel) (by decide +kernel)) X.2.2.2.2.1.2.2.2.2.2.2.1 hce hcv hcl ?_
  refine lv_astore_n (lv' := [(3, .ref q9), (0, .ref (h 0)), (1, .int p1), (2, .ref ho)]) hx hb d_Lw_operator_12 rfl hl (by decide) rfl (fun ls hl => ?_)
  refine lv_iconst (v := 1) hx hb d_Lw_operator_13 (by decide) ?_
  exact hend _ _ _ _ _ _ (Nat.le_of_ble_eq_true rfl) (Nat.le_of_ble_eq_true rfl) d_Lw_operator_14 hw
set_option maxRecDepth 100000 in
theorem hx_operator_1 (l : Launch) (D : va_G) (h : Nat → Nat) (cA : Nat → ClassId) (ho : Nat) (hlt : l.stackTraces = false) (p1 : Int32) {σ σ' : fx_S} {f : Nat → Int64} (hF : F_FixityTrees_operator p1 σ = some (.inr 1, σ')) : lh_M l y_Lw_operator b_Lw_operator 4 [(0, 9, 12, 13), (0, 9, 15, 15)] { frames := 8, cells := 0, slots := 0, locals := 134 } D h cA ho [.ref (h 0), .int p1, .ref ho] σ f 2 σ' f 1 := by
  refine lh_start (by decide) (Nat.le_of_ble_eq_true rfl) ?_
  intro p e s m args below meth c A ls Q X htab hHW hw hl hend
  have hx := X.1.1
  have hb := X.1.2.1
  have hl : lv_has ls 4 [(0, .ref (h 0)), (1, .int p1), (2, .ref ho)] := hl
  have Xc : fx_X p m c b_Lw_operator 4 s args "FixityTreesLaw" D fx_cl (fx_tys cA) fx_g fx_G A := ⟨X.1, X.2.1, X.2.2.1, fx_G_ok, X.2.2.2.2.1⟩
  refine lv_aload_n hx hb d_Lw_operator_0 rfl (lv_at hl 2 rfl) ?_
  refine lv_iconst (v := 0) hx hb d_Lw_operator_1 (by decide) ?_
  refine lv_aload_n hx hb d_Lw_operator_2 rfl (lv_at hl 0 rfl) ?_
  refine lv_iload_n hx hb d_Lw_operator_3 rfl (lv_at hl 1 rfl) ?_
  refine lx_callT (As := [.int p1]) Xc hHW hw (x_FixityTrees_operator l D h cA hlt p1) hF (fx_cwV Xc ll_31 hg_FixityTrees_operator fx_gok (rm := fx_r1 { frames := 7, cells := 0, slots := 0, locals := 112 }) rfl rfl (by decide +kernel) ⟨Nat.le_of_ble_eq_true rfl, Nat.le_of_ble_eq_true rfl⟩) (va_recv X.2.1 (lx_split hw).1 (ci := 0) (q0 := 0) rfl rfl) (n := 1) rfl d_Lw_operator_4 hl.1 rfl (lv_room (Nat.le_of_ble_eq_true rfl)) ⟨Nat.le_of_ble_eq_true rfl, Nat.le_of_ble_eq_true rfl⟩ (fun H locs q9 ce hw hce hcv hcl => ?_)
  refine lx_catch X (pre := [⟨0, 9, 12, 13⟩]) (x := ⟨0, 9, 15, 15⟩) (suf := []) htab (List.forall_mem_cons.mpr ⟨⟨(by decide), fx_ex 0, fx_in 266 (by decide +kernel) (by decide +kernel), X.2.2.2.2.2.1⟩, (fun _ h9 => absurd h9 List.not_mem_nil)⟩) (by decide) (by decide) (fx_in 267 (by decide +kernel) (by decide +kernel)) X.2.2.2.2.1.2.2.2.2.2.2.2.1 hce hcv hcl ?_
  refine lv_astore_n (lv' := [(3, .ref q9), (0, .ref (h 0)), (1, .int p1), (2, .ref ho)]) hx hb d_Lw_operator_15 rfl hl (by decide) rfl (fun ls hl => ?_)
  refine lv_iconst (v := 2) hx hb d_Lw_operator_16 (by decide) ?_
  exact hend _ _ _ _ _ _ (Nat.le_of_ble_eq_true rfl) (Nat.le_of_ble_eq_true rfl) d_Lw_operator_17 hw
set_option maxRecDepth 100000 in
theorem hr_open (l : Launch) (D : va_G) (h : Nat → Nat) (cA : Nat → ClassId) (ho : Nat) (hlt : l.stackTraces = false) {σ σ' : fx_S} {f : Nat → Int64} {r : Int32} (hF : F_FixityTrees_open σ = some (.inl r, σ')) : lh_M l y_Lw_open b_Lw_open 3 [(0, 8, 11, 15)] { frames := 7, cells := 0, slots := 0, locals := 126 } D h cA ho [.ref (h 0), .ref ho] σ f 0 σ' (vp_updL f 0 r.toInt64) 0 := by
  refine lh_start (by decide) (Nat.le_of_ble_eq_true rfl) ?_
  intro p e s m args below meth c A ls Q X htab hHW hw hl hend
  have hx := X.1.1
  have hb := X.1.2.1
  have hl : lv_has ls 3 [(0, .ref (h 0)), (1, .ref ho)] := hl
  have Xc : fx_X p m c b_Lw_open 3 s args "FixityTreesLaw" D fx_cl (fx_tys cA) fx_g fx_G A := ⟨X.1, X.2.1, X.2.2.1, fx_G_ok, X.2.2.2.2.1⟩
  refine lv_aload_n hx hb d_Lw_open_0 rfl (lv_at hl 1 rfl) ?_
  refine lv_iconst (v := 0) hx hb d_Lw_open_1 (by decide) ?_
  refine lv_aload_n hx hb d_Lw_open_2 rfl (lv_at hl 0 rfl) ?_
  refine lx_callR_i (As := []) Xc hHW hw (c_FixityTrees_open l D h cA hlt) hF (fx_cwV Xc ll_34 hg_FixityTrees_open fx_gok (rm := fx_r0 { frames := 6, cells := 0, slots := 0, locals := 106 }) rfl rfl (by decide +kernel) ⟨Nat.le_of_ble_eq_true rfl, Nat.le_of_ble_eq_true rfl⟩) (va_recv X.2.1 (lx_split hw).1 (ci := 0) (q0 := 0) rfl rfl) (n := 0) rfl d_Lw_open_3 hl.1 rfl (lv_room (Nat.le_of_ble_eq_true rfl)) ⟨Nat.zero_le _, Nat.zero_le _⟩ (fun H locs hw => ?_)
  refine lv_i2l hx hb d_Lw_open_6 rfl ?_
  refine va_last hx hb X.2.1 hw.1 hw.2.1 hw.2.2 48 1 rfl rfl (by show ¬ ((0 : Int32) < 0 ∨ 1 ≤ (0 : Int32).toNatClampNeg); decide) d_Lw_open_7 (fun H locs hP hD hS => ?_)
  have hw : cx_B D fx_cl A s.heap ([] ++ (fx_ws h cA σ' ++ [(ho, .inl (cA 1, 1, .inr (.inl (vp_updL f 0 r.toInt64))))])) H locs := ⟨hP, hD, hS⟩
  refine lv_goto (tgt := 14) hx hb d_Lw_open_8 (by decide) ?_
  refine lv_iconst (v := 0) hx hb d_Lw_open_14 (by decide) ?_
  exact hend _ _ _ _ _ _ (Nat.le_of_ble_eq_true rfl) (Nat.le_of_ble_eq_true rfl) d_Lw_open_15 hw
set_option maxRecDepth 100000 in
theorem hx_open_1 (l : Launch) (D : va_G) (h : Nat → Nat) (cA : Nat → ClassId) (ho : Nat) (hlt : l.stackTraces = false) {σ σ' : fx_S} {f : Nat → Int64} (hF : F_FixityTrees_open σ = some (.inr 1, σ')) : lh_M l y_Lw_open b_Lw_open 3 [(0, 8, 11, 15)] { frames := 7, cells := 0, slots := 0, locals := 126 } D h cA ho [.ref (h 0), .ref ho] σ f 1 σ' f 1 := by
  refine lh_start (by decide) (Nat.le_of_ble_eq_true rfl) ?_
  intro p e s m args below meth c A ls Q X htab hHW hw hl hend
  have hx := X.1.1
  have hb := X.1.2.1
  have hl : lv_has ls 3 [(0, .ref (h 0)), (1, .ref ho)] := hl
  have Xc : fx_X p m c b_Lw_open 3 s args "FixityTreesLaw" D fx_cl (fx_tys cA) fx_g fx_G A := ⟨X.1, X.2.1, X.2.2.1, fx_G_ok, X.2.2.2.2.1⟩
  refine lv_aload_n hx hb d_Lw_open_0 rfl (lv_at hl 1 rfl) ?_
  refine lv_iconst (v := 0) hx hb d_Lw_open_1 (by decide) ?_
  refine lv_aload_n hx hb d_Lw_open_2 rfl (lv_at hl 0 rfl) ?_
  refine lx_callT (As := []) Xc hHW hw (x_FixityTrees_open l D h cA hlt) hF (fx_cwV Xc ll_34 hg_FixityTrees_open fx_gok (rm := fx_r1 { frames := 6, cells := 0, slots := 0, locals := 106 }) rfl rfl (by decide +kernel) ⟨Nat.le_of_ble_eq_true rfl, Nat.le_of_ble_eq_true rfl⟩) (va_recv X.2.1 (lx_split hw).1 (ci := 0) (q0 := 0) rfl rfl) (n := 0) rfl d_Lw_open_3 hl.1 rfl (lv_room (Nat.le_of_ble_eq_true rfl)) ⟨Nat.le_of_ble_eq_true rfl, Nat.le_of_ble_eq_true rfl⟩ (fun H locs q9 ce hw hce hcv hcl => ?_)
  refine lx_catch X (pre := []) (x := ⟨0, 8, 11, 15⟩) (suf := []) htab (fun _ h9 => absurd h9 List.not_mem_nil) (by decide) (by decide) (fx_in 267 (by decide +kernel) (by decide +kernel)) X.2.2.2.2.1.2.2.2.2.2.2.2.1 hce hcv hcl ?_
  refine lv_astore_n (lv' := [(2, .ref q9), (0, .ref (h 0)), (1, .ref ho)]) hx hb d_Lw_open_11 rfl hl (by decide) rfl (fun ls hl => ?_)
  refine lv_iconst (v := 1) hx hb d_Lw_open_12 (by decide) ?_
  exact hend _ _ _ _ _ _ (Nat.le_of_ble_eq_true rfl) (Nat.le_of_ble_eq_true rfl) d_Lw_open_13 hw
set_option maxRecDepth 100000 in
theorem hr_close (l : Launch) (D : va_G) (h : Nat → Nat) (cA : Nat → ClassId) (ho : Nat) (hlt : l.stackTraces = false) {σ σ' : fx_S} {f : Nat → Int64} {r : Int32} (hF : F_FixityTrees_close σ = some (.inl r, σ')) : lh_M l y_Lw_close b_Lw_close 3 [(0, 8, 11, 15)] { frames := 7, cells := 0, slots := 0, locals := 126 } D h cA ho [.ref (h 0), .ref ho] σ f 0 σ' (vp_updL f 0 r.toInt64) 0 := by
  refine lh_start (by decide) (Nat.le_of_ble_eq_true rfl) ?_
  intro p e s m args below meth c A ls Q X htab hHW hw hl hend
  have hx := X.1.1
  have hb := X.1.2.1
  have hl : lv_has ls 3 [(0, .ref (h 0)), (1, .ref ho)] := hl
  have Xc : fx_X p m c b_Lw_close 3 s args "FixityTreesLaw" D fx_cl (fx_tys cA) fx_g fx_G A := ⟨X.1, X.2.1, X.2.2.1, fx_G_ok, X.2.2.2.2.1⟩
  refine lv_aload_n hx hb d_Lw_close_0 rfl (lv_at hl 1 rfl) ?_
  refine lv_iconst (v := 0) hx hb d_Lw_close_1 (by decide) ?_
  refine lv_aload_n hx hb d_Lw_close_2 rfl (lv_at hl 0 rfl) ?_
  refine lx_callR_i (As := []) Xc hHW hw (c_FixityTrees_close l D h cA hlt) hF (fx_cwV Xc ll_38 hg_FixityTrees_close fx_gok (rm := fx_r0 { frames := 6, cells := 0, slots := 0, locals := 106 }) rfl rfl (by decide +kernel) ⟨Nat.le_of_ble_eq_true rfl, Nat.le_of_ble_eq_true rfl⟩) (va_recv X.2.1 (lx_split hw).1 (ci := 0) (q0 := 0) rfl rfl) (n := 0) rfl d_Lw_close_3 hl.1 rfl (lv_room (Nat.le_of_ble_eq_true rfl)) ⟨Nat.zero_le _, Nat.zero_le _⟩ (fun H locs hw => ?_)
  refine lv_i2l hx hb d_Lw_close_6 rfl ?_
  refine va_last hx hb X.2.1 hw.1 hw.2.1 hw.2.2 48 1 rfl rfl (by show ¬ ((0 : Int32) < 0 ∨ 1 ≤ (0 : Int32).toNatClampNeg); decide) d_Lw_close_7 (fun H locs hP hD hS => ?_)
  have hw : cx_B D fx_cl A s.heap ([] ++ (fx_ws h cA σ' ++ [(ho, .inl (cA 1, 1, .inr (.inl (vp_updL f 0 r.toInt64))))])) H locs := ⟨hP, hD, hS⟩
  refine lv_goto (tgt := 14) hx hb d_Lw_close_8 (by decide) ?_
  refine lv_iconst (v := 0) hx hb d_Lw_close_14 (by decide) ?_
  exact hend _ _ _ _ _ _ (Nat.le_of_ble_eq_true rfl) (Nat.le_of_ble_eq_true rfl) d_Lw_close_15 hw
set_option maxRecDepth 100000 in
theorem hx_close_1 (l : Launch) (D : va_G) (h : Nat → Nat) (cA : Nat → ClassId) (ho : Nat) (hlt : l.stackTraces = false) {σ σ' : fx_S} {f : Nat → Int64} (hF : F_FixityTrees_close σ = some (.inr 1, σ')) : lh_M l y_Lw_close b_Lw_close 3 [(0, 8, 11, 15)] { frames := 7, cells := 0, slots := 0, locals := 126 } D h cA ho [.ref (h 0), .ref ho] σ f 1 σ' f 1 := by
  refine lh_start (by decide) (Nat.le_of_ble_eq_true rfl) ?_
  intro p e s m args below meth c A ls Q X htab hHW hw hl hend
  have hx := X.1.1
  have hb := X.1.2.1
  have hl : lv_has ls 3 [(0, .ref (h 0)), (1, .ref ho)] := hl
  have Xc : fx_X p m c b_Lw_close 3 s args "FixityTreesLaw" D fx_cl (fx_tys cA) fx_g fx_G A := ⟨X.1, X.2.1, X.2.2.1, fx_G_ok, X.2.2.2.2.1⟩
  refine lv_aload_n hx hb d_Lw_close_0 rfl (lv_at hl 1 rfl) ?_
  refine lv_iconst (v := 0) hx hb d_Lw_close_1 (by decide) ?_
  refine lv_aload_n hx hb d_Lw_close_2 rfl (lv_at hl 0 rfl) ?_
  refine lx_callT (As := []) Xc hHW hw (x_FixityTrees_close l D h cA hlt) hF (fx_cwV Xc ll_38 hg_FixityTrees_close fx_gok (rm := fx_r1 { frames := 6, cells := 0, slots := 0, locals := 106 }) rfl rfl (by decide +kernel) ⟨Nat.le_of_ble_eq_true rfl, Nat.le_of_ble_eq_true rfl⟩) (va_recv X.2.1 (lx_split hw).1 (ci := 0) (q0 := 0) rfl rfl) (n := 0) rfl d_Lw_close_3 hl.1 rfl (lv_room (Nat.le_of_ble_eq_true rfl)) ⟨Nat.le_of_ble_eq_true rfl, Nat.le_of_ble_eq_true rfl⟩ (fun H locs q9 ce hw hce hcv hcl => ?_)
  refine lx_catch X (pre := []) (x := ⟨0, 8, 11, 15⟩) (suf := []) htab (fun _ h9 => absurd h9 List.not_mem_nil) (by decide) (by decide) (fx_in 267 (by decide +kernel) (by decide +kernel)) X.2.2.2.2.1.2.2.2.2.2.2.2.1 hce hcv hcl ?_
  refine lv_astore_n (lv' := [(2, .ref q9), (0, .ref (h 0)), (1, .ref ho)]) hx hb d_Lw_close_11 rfl hl (by decide) rfl (fun ls hl => ?_)
  refine lv_iconst (v := 1) hx hb d_Lw_close_12 (by decide) ?_
  exact hend _ _ _ _ _ _ (Nat.le_of_ble_eq_true rfl) (Nat.le_of_ble_eq_true rfl) d_Lw_close_13 hw
set_option maxRecDepth 100000 in
theorem hr_resolve (l : Launch) (D : va_G) (h : Nat → Nat) (cA : Nat → ClassId) (ho : Nat) (hlt : l.stackTraces = false) (p1 : Int32) {σ σ' : fx_S} {f : Nat → Int64} {r : Int32} (hF : F_FixityTrees_resolve p1 σ = some (.inl r, σ')) : lh_M l y_Lw_resolve b_Lw_resolve 4 [(0, 9, 12, 13), (0, 9, 15, 15)] { frames := 8, cells := 0, slots := 0, locals := 155 } D h cA ho [.ref (h 0), .int p1, .ref ho] σ f 0 σ' (vp_updL f 0 r.toInt64) 0 := by
  refine lh_start (by decide) (Nat.le_of_ble_eq_true rfl) ?_
  intro p e s m args below meth c A ls Q X htab hHW hw hl hend
  have hx := X.1.1
  have hb := X.1.2.1
  have hl : lv_has ls 4 [(0, .ref (h 0)), (1, .int p1), (2, .ref ho)] := hl
  have Xc : fx_X p m c b_Lw_resolve 4 s args "FixityTreesLaw" D fx_cl (fx_tys cA) fx_g fx_G A := ⟨X.1, X.2.1, X.2.2.1, fx_G_ok, X.2.2.2.2.1⟩
  refine lv_aload_n hx hb d_Lw_resolve_0 rfl (lv_at hl 2 rfl) ?_
  refine lv_iconst (v := 0) hx hb d_Lw_resolve_1 (by decide) ?_
  refine lv_aload_n hx hb d_Lw_resolve_2 rfl (lv_at hl 0 rfl) ?_
  refine lv_iload_n hx hb d_Lw_resolve_3 rfl (lv_at hl 1 rfl) ?_
  refine lx_callR_i (As := [.int p1]) Xc hHW hw (c_FixityTrees_resolve l D h cA hlt p1) hF (fx_cwV Xc ll_41 hg_FixityTrees_resolve fx_gok (rm := fx_r0 { frames := 7, cells := 0, slots := 0, locals := 134 }) rfl rfl (by decide +kernel) ⟨Nat.le_of_ble_eq_true rfl, Nat.le_of_ble_eq_true rfl⟩) (va_recv X.2.1 (lx_split hw).1 (ci := 0) (q0 := 0) rfl rfl) (n := 1) rfl d_Lw_resolve_4 hl.1 rfl (lv_room (Nat.le_of_ble_eq_true rfl)) ⟨Nat.zero_le _, Nat.zero_le _⟩ (fun H locs hw => ?_)
  refine lv_i2l hx hb d_Lw_resolve_7 rfl ?_
  refine va_last hx hb X.2.1 hw.1 hw.2.1 hw.2.2 48 1 rfl rfl (by show ¬ ((0 : Int32) < 0 ∨ 1 ≤ (0 : Int32).toNatClampNeg); decide) d_Lw_resolve_8 (fun H locs hP hD hS => ?_)
  have hw : cx_B D fx_cl A s.heap ([] ++ (fx_ws h cA σ' ++ [(ho, .inl (cA 1, 1, .inr (.inl (vp_updL f 0 r.toInt64))))])) H locs := ⟨hP, hD, hS⟩
  refine lv_goto (tgt := 18) hx hb d_Lw_resolve_9 (by decide) ?_
  refine lv_iconst (v := 0) hx hb d_Lw_resolve_18 (by decide) ?_
  exact hend _ _ _ _ _ _ (Nat.le_of_ble_eq_true rfl) (Nat.le_of_ble_eq_true rfl) d_Lw_resolve_19 hw
set_option maxRecDepth 100000 in
theorem hx_resolve_0 (l : Launch) (D : va_G) (h : Nat → Nat) (cA : Nat → ClassId) (ho : Nat) (hlt : l.stackTraces = false) (p1 : Int32) {σ σ' : fx_S} {f : Nat → Int64} (hF : F_FixityTrees_resolve p1 σ = some (.inr 0, σ')) : lh_M l y_Lw_resolve b_Lw_resolve 4 [(0, 9, 12, 13), (0, 9, 15, 15)] { frames := 8, cells := 0, slots := 0, locals := 155 } D h cA ho [.ref (h 0), .int p1, .ref ho] σ f 1 σ' f 1 := by
  refine lh_start (by decide) (Nat.le_of_ble_eq_true rfl) ?_
  intro p e s m args below meth c A ls Q X htab hHW hw hl hend
  have hx := X.1.1
  have hb := X.1.2.1
  have hl : lv_has ls 4 [(0, .ref (h 0)), (1, .int p1), (2, .ref ho)] := hl
  have Xc : fx_X p m c b_Lw_resolve 4 s args "FixityTreesLaw" D fx_cl (fx_tys cA) fx_g fx_G A := ⟨X.1, X.2.1, X.2.2.1, fx_G_ok, X.2.2.2.2.1⟩
  refine lv_aload_n hx hb d_Lw_resolve_0 rfl (lv_at hl 2 rfl) ?_
  refine lv_iconst (v := 0) hx hb d_Lw_resolve_1 (by decide) ?_
  refine lv_aload_n hx hb d_Lw_resolve_2 rfl (lv_at hl 0 rfl) ?_
  refine lv_iload_n hx hb d_Lw_resolve_3 rfl (lv_at hl 1 rfl) ?_
  refine lx_callT (As := [.int p1]) Xc hHW hw (x_FixityTrees_resolve l D h cA hlt p1) hF (fx_cwV Xc ll_41 hg_FixityTrees_resolve fx_gok (rm := fx_r1 { frames := 7, cells := 0, slots := 0, locals := 134 }) rfl rfl (by decide +kernel) ⟨Nat.le_of_ble_eq_true rfl, Nat.le_of_ble_eq_true rfl⟩) (va_recv X.2.1 (lx_split hw).1 (ci := 0) (q0 := 0) rfl rfl) (n := 1) rfl d_Lw_resolve_4 hl.1 rfl (lv_room (Nat.le_of_ble_eq_true rfl)) ⟨Nat.le_of_ble_eq_true rfl, Nat.le_of_ble_eq_true rfl⟩ (fun H locs q9 ce hw hce hcv hcl => ?_)
  refine lx_catch X (pre := []) (x := ⟨0, 9, 12, 13⟩) (suf := [⟨0, 9, 15, 15⟩]) htab (fun _ h9 => absurd h9 List.not_mem_nil) (by decide) (by decide) (fx_in 266 (by decide +kernel) (by decide +kernel)) X.2.2.2.2.1.2.2.2.2.2.2.1 hce hcv hcl ?_
  refine lv_astore_n (lv' := [(3, .ref q9), (0, .ref (h 0)), (1, .int p1), (2, .ref ho)]) hx hb d_Lw_resolve_12 rfl hl (by decide) rfl (fun ls hl => ?_)
  refine lv_iconst (v := 1) hx hb d_Lw_resolve_13 (by decide) ?_
  exact hend _ _ _ _ _ _ (Nat.le_of_ble_eq_true rfl) (Nat.le_of_ble_eq_true rfl) d_Lw_resolve_14 hw
set_option maxRecDepth 100000 in
theorem hx_resolve_1 (l : Launch) (D : va_G) (h : Nat → Nat) (cA : Nat → ClassId) (ho : Nat) (hlt : l.stackTraces = false) (p1 : Int32) {σ σ' : fx_S} {f : Nat → Int64} (hF : F_FixityTrees_resolve p1 σ = some (.inr 1, σ')) : lh_M l y_Lw_resolve b_Lw_resolve 4 [(0, 9, 12, 13), (0, 9, 15, 15)] { frames := 8, cells := 0, slots := 0, locals := 155 } D h cA ho [.ref (h 0), .int p1, .ref ho] σ f 2 σ' f 1 := by
  refine lh_start (by decide) (Nat.le_of_ble_eq_true rfl) ?_
  intro p e s m args below meth c A ls Q X htab hHW hw hl hend
  have hx := X.1.1
  have hb := X.1.2.1
  have hl : lv_has ls 4 [(0, .ref (h 0)), (1, .int p1), (2, .ref ho)] := hl
  have Xc : fx_X p m c b_Lw_resolve 4 s args "FixityTreesLaw" D fx_cl (fx_tys cA) fx_g fx_G A := ⟨X.1, X.2.1, X.2.2.1, fx_G_ok, X.2.2.2.2.1⟩
  refine lv_aload_n hx hb d_Lw_resolve_0 rfl (lv_at hl 2 rfl) ?_
  refine lv_iconst (v := 0) hx hb d_Lw_resolve_1 (by decide) ?_
  refine lv_aload_n hx hb d_Lw_resolve_2 rfl (lv_at hl 0 rfl) ?_
  refine lv_iload_n hx hb d_Lw_resolve_3 rfl (lv_at hl 1 rfl) ?_
  refine lx_callT (As := [.int p1]) Xc hHW hw (x_FixityTrees_resolve l D h cA hlt p1) hF (fx_cwV Xc ll_41 hg_FixityTrees_resolve fx_gok (rm := fx_r1 { frames := 7, cells := 0, slots := 0, locals := 134 }) rfl rfl (by decide +kernel) ⟨Nat.le_of_ble_eq_true rfl, Nat.le_of_ble_eq_true rfl⟩) (va_recv X.2.1 (lx_split hw).1 (ci := 0) (q0 := 0) rfl rfl) (n := 1) rfl d_Lw_resolve_4 hl.1 rfl (lv_room (Nat.le_of_ble_eq_true rfl)) ⟨Nat.le_of_ble_eq_true rfl, Nat.le_of_ble_eq_true rfl⟩ (fun H locs q9 ce hw hce hcv hcl => ?_)
  refine lx_catch X (pre := [⟨0, 9, 12, 13⟩]) (x := ⟨0, 9, 15, 15⟩) (suf := []) htab (List.forall_mem_cons.mpr ⟨⟨(by decide), fx_ex 0, fx_in 266 (by decide +kernel) (by decide +kernel), X.2.2.2.2.2.1⟩, (fun _ h9 => absurd h9 List.not_mem_nil)⟩) (by decide) (by decide) (fx_in 267 (by decide +kernel) (by decide +kernel)) X.2.2.2.2.1.2.2.2.2.2.2.2.1 hce hcv hcl ?_
  refine lv_astore_n (lv' := [(3, .ref q9), (0, .ref (h 0)), (1, .int p1), (2, .ref ho)]) hx hb d_Lw_resolve_15 rfl hl (by decide) rfl (fun ls hl => ?_)
  refine lv_iconst (v := 2) hx hb d_Lw_resolve_16 (by decide) ?_
  exact hend _ _ _ _ _ _ (Nat.le_of_ble_eq_true rfl) (Nat.le_of_ble_eq_true rfl) d_Lw_resolve_17 hw
set_option maxRecDepth 100000 in
theorem hr_clash (l : Launch) (D : va_G) (h : Nat → Nat) (cA : Nat → ClassId) (ho : Nat) (hlt : l.stackTraces = false) (p1 : Int32) {σ σ' : fx_S} {f : Nat → Int64} {r : Int32} (hF : F_FixityTrees_clash p1 σ = some (.inl r, σ')) : lh_M l y_Lw_clash b_Lw_clash 4 [(0, 9, 12, 21)] { frames := 7, cells := 0, slots := 0, locals := 112 } D h cA ho [.ref (h 0), .int p1, .ref ho] σ f 0 σ' (vp_updL f 0 r.toInt64) 0 := by
  refine lh_start (by decide) (Nat.le_of_ble_eq_true rfl) ?_
  intro p e s m args below meth c A ls Q X htab hHW hw hl hend
  have hx := X.1.1
  have hb := X.1.2.1
  have hl : lv_has ls 4 [(0, .ref (h 0)), (1, .int p1), (2, .ref ho)] := hl
  have Xc : fx_X p m c b_Lw_clash 4 s args "FixityTreesLaw" D fx_cl (fx_tys cA) fx_g fx_G A := ⟨X.1, X.2.1, X.2.2.1, fx_G_ok, X.2.2.2.2.1⟩
  refine lv_aload_n hx hb d_Lw_clash_0 rfl (lv_at hl 2 rfl) ?_
  refine lv_iconst (v := 0) hx hb d_Lw_clash_1 (by decide) ?_
  refine lv_aload_n hx hb d_Lw_clash_2 rfl (lv_at hl 0 rfl) ?_
  refine lv_iload_n hx hb d_Lw_clash_3 rfl (lv_at hl 1 rfl) ?_
  refine lx_callR_i (As := [.int p1]) Xc hHW hw (c_FixityTrees_clash l D h cA hlt p1) hF (fx_cwV Xc ll_44 hg_FixityTrees_clash fx_gok (rm := fx_r0 { frames := 6, cells := 0, slots := 0, locals := 91 }) rfl rfl (by decide +kernel) ⟨Nat.le_of_ble_eq_true rfl, Nat.le_of_ble_eq_true rfl⟩) (va_recv X.2.1 (lx_split hw).1 (ci := 0) (q0 := 0) rfl rfl) (n := 1) rfl d_Lw_clash_4 hl.1 rfl (lv_room (Nat.le_of_ble_eq_true rfl)) ⟨Nat.zero_le _, Nat.zero_le _⟩ (fun H locs hw => ?_)
  refine lv_i2l hx hb d_Lw_clash_7 rfl ?_
  refine va_last hx hb X.2.1 hw.1 hw.2.1 hw.2.2 48 1 rfl rfl (by show ¬ ((0 : Int32) < 0 ∨ 1 ≤ (0 : Int32).toNatClampNeg); decide) d_Lw_clash_8 (fun H locs hP hD hS => ?_)
  have hw : cx_B D fx_cl A s.heap ([] ++ (fx_ws h cA σ' ++ [(ho, .inl (cA 1, 1, .inr (.inl (vp_updL f 0 r.toInt64))))])) H locs := ⟨hP, hD, hS⟩
  refine lv_goto (tgt := 15) hx hb d_Lw_clash_9 (by decide) ?_
  refine lv_iconst (v := 0) hx hb d_Lw_clash_15 (by decide) ?_
  exact hend _ _ _ _ _ _ (Nat.le_of_ble_eq_true rfl) (Nat.le_of_ble_eq_true rfl) d_Lw_clash_16 hw
set_option maxRecDepth 100000 in
theorem hx_clash_2 (l : Launch) (D : va_G) (h : Nat → Nat) (cA : Nat → ClassId) (ho : Nat) (hlt : l.stackTraces = false) (p1 : Int32) {σ σ' : fx_S} {f : Nat → Int64} (hF : F_FixityTrees_clash p1 σ = some (.inr 2, σ')) : lh_M l y_Lw_clash b_Lw_clash 4 [(0, 9, 12, 21)] { frames := 7, cells := 0, slots := 0, locals := 112 } D h cA ho [.ref (h 0), .int p1, .ref ho] σ f 1 σ' f 1 := by
  refine lh_start (by decide) (Nat.le_of_ble_eq_true rfl) ?_
  intro p e s m args below meth c A ls Q X htab hHW hw hl hend
  have hx := X.1.1
  have hb := X.1.2.1
  have hl : lv_has ls 4 [(0, .ref (h 0)), (1, .int p1), (2, .ref ho)] := hl
  have Xc : fx_X p m c b_Lw_clash 4 s args "FixityTreesLaw" D fx_cl (fx_tys cA) fx_g fx_G A := ⟨X.1, X.2.1, X.2.2.1, fx_G_ok, X.2.2.2.2.1⟩
  refine lv_aload_n hx hb d_Lw_clash_0 rfl (lv_at hl 2 rfl) ?_
  refine lv_iconst (v := 0) hx hb d_Lw_clash_1 (by decide) ?_
  refine lv_aload_n hx hb d_Lw_clash_2 rfl (lv_at hl 0 rfl) ?_
  refine lv_iload_n hx hb d_Lw_clash_3 rfl (lv_at hl 1 rfl) ?_
  refine lx_callT (As := [.int p1]) Xc hHW hw (x_FixityTrees_clash l D h cA hlt p1) hF (fx_cwV Xc ll_44 hg_FixityTrees_clash fx_gok (rm := fx_r1 { frames := 6, cells := 0, slots := 0, locals := 91 }) rfl rfl (by decide +kernel) ⟨Nat.le_of_ble_eq_true rfl, Nat.le_of_ble_eq_true rfl⟩) (va_recv X.2.1 (lx_split hw).1 (ci := 0) (q0 := 0) rfl rfl) (n := 1) rfl d_Lw_clash_4 hl.1 rfl (lv_room (Nat.le_of_ble_eq_true rfl)) ⟨Nat.le_of_ble_eq_true rfl, Nat.le_of_ble_eq_true rfl⟩ (fun H locs q9 ce hw hce hcv hcl => ?_)
  refine lx_catch X (pre := []) (x := ⟨0, 9, 12, 21⟩) (suf := []) htab (fun _ h9 => absurd h9 List.not_mem_nil) (by decide) (by decide) (fx_in 376 (by decide +kernel) (by decide +kernel)) X.2.2.2.2.1.2.2.2.2.2.2.2.2.1 hce hcv hcl ?_
  refine lv_astore_n (lv' := [(3, .ref q9), (0, .ref (h 0)), (1, .int p1), (2, .ref ho)]) hx hb d_Lw_clash_12 rfl hl (by decide) rfl (fun ls hl => ?_)
  refine lv_iconst (v := 1) hx hb d_Lw_clash_13 (by decide) ?_
  exact hend _ _ _ _ _ _ (Nat.le_of_ble_eq_true rfl) (Nat.le_of_ble_eq_true rfl) d_Lw_clash_14 hw
set_option maxRecDepth 100000 in
theorem hr_node (l : Launch) (D : va_G) (h : Nat → Nat) (cA : Nat → ClassId) (ho : Nat) (hlt : l.stackTraces = false) (p1 : Int32) (p2 : Int32) {σ σ' : fx_S} {f : Nat → Int64} {r : Int32} (hF : F_FixityTrees_node p1 p2 σ = some (.inl r, σ')) : lh_M l y_Lw_node b_Lw_node 5 [(0, 10, 13, 13), (0, 10, 17, 21)] { frames := 7, cells := 0, slots := 0, locals := 113 } D h cA ho [.ref (h 0), .int p1, .int p2, .ref ho] σ f 0 σ' (vp_updL f 0 r.toInt64) 0 := by
  refine lh_start (by decide) (Nat.le_of_ble_eq_true rfl) ?_
  intro p e s m args below meth c A ls Q X htab hHW hw hl hend
  have hx := X.1.1
  have hb := X.1.2.1
  have hl : lv_has ls 5 [(0, .ref (h 0)), (1, .int p1), (2, .int p2), (3, .ref ho)] := hl
  have Xc : fx_X p m c b_Lw_node 5 s args "FixityTreesLaw" D fx_cl (fx_tys cA) fx_g fx_G A := ⟨X.1, X.2.1, X.2.2.1, fx_G_ok, X.2.2.2.2.1⟩
  refine lv_aload_n hx hb d_Lw_node_0 rfl (lv_at hl 3 rfl) ?_
  refine lv_iconst (v := 0) hx hb d_Lw_node_1 (by decide) ?_
  refine lv_aload_n hx hb d_Lw_node_2 rfl (lv_at hl 0 rfl) ?_
  refine lv_iload_n hx hb d_Lw_node_3 rfl (lv_at hl 1 rfl) ?_
  refine lv_iload_n hx hb d_Lw_node_4 rfl (lv_at hl 2 rfl) ?_
  refine lx_callR_i (As := [.int p1, .int p2]) Xc hHW hw (c_FixityTrees_node l D h cA hlt p1 p2) hF (fx_cwV Xc ll_47 hg_FixityTrees_node fx_gok (rm := fx_r0 { frames := 6, cells := 0, slots := 0, locals := 91 }) rfl rfl (by decide +kernel) ⟨Nat.le_of_ble_eq_true rfl, Nat.le_of_ble_eq_true rfl⟩) (va_recv X.2.1 (lx_split hw).1 (ci := 0) (q0 := 0) rfl rfl) (n := 2) rfl d_Lw_node_5 hl.1 rfl (lv_room (Nat.le_of_ble_eq_true rfl)) ⟨Nat.zero_le _, Nat.zero_le _⟩ (fun H locs hw => ?_)
  refine lv_i2l hx hb d_Lw_node_8 rfl ?_
  refine va_last hx hb X.2.1 hw.1 hw.2.1 hw.2.2 48 1 rfl rfl (by show ¬ ((0 : Int32) < 0 ∨ 1 ≤ (0 : Int32).toNatClampNeg); decide) d_Lw_node_9 (fun H locs hP hD hS => ?_)
  have hw : cx_B D fx_cl A s.heap ([] ++ (fx_ws h cA σ' ++ [(ho, .inl (cA 1, 1, .inr (.inl (vp_updL f 0 r.toInt64))))])) H locs := ⟨hP, hD, hS⟩
  refine lv_goto (tgt := 21) hx hb d_Lw_node_10 (by decide) ?_
  refine lv_iconst (v := 0) hx hb d_Lw_node_21 (by decide) ?_
  exact hend _ _ _ _ _ _ (Nat.le_of_ble_eq_true rfl) (Nat.le_of_ble_eq_true rfl) d_Lw_node_22 hw
set_option maxRecDepth 100000 in
theorem hx_node_0 (l : Launch) (D : va_G) (h : Nat → Nat) (cA : Nat → ClassId) (ho : Nat) (hlt : l.stackTraces = false) (p1 : Int32) (p2 : Int32) {σ σ' : fx_S} {f : Nat → Int64} (hF : F_FixityTrees_node p1 p2 σ = some (.inr 0, σ')) : lh_M l y_Lw_node b_Lw_node 5 [(0, 10, 13, 13), (0, 10, 17, 21)] { frames := 7, cells := 0, slots := 0, locals := 113 } D h cA ho [.ref (h 0), .int p1, .int p2, .ref ho] σ f 1 σ' f 1 := by
  refine lh_start (by decide) (Nat.le_of_ble_eq_true rfl) ?_
  intro p e s m args below meth c A ls Q X htab hHW hw hl hend
  have hx := X.1.1
  have hb := X.1.2.1
  have hl : lv_has ls 5 [(0, .ref (h 0)), (1, .int p1), (2, .int p2), (3, .ref ho)] := hl
  have Xc : fx_X p m c b_Lw_node 5 s args "FixityTreesLaw" D fx_cl (fx_tys cA) fx_g fx_G A := ⟨X.1, X.2.1, X.2.2.1, fx_G_ok, X.2.2.2.2.1⟩
  refine lv_aload_n hx hb d_Lw_node_0 rfl (lv_at hl 3 rfl) ?_
  refine lv_iconst (v := 0) hx hb d_Lw_node_1 (by decide) ?_
  refine lv_aload_n hx hb d_Lw_node_2 rfl (lv_at hl 0 rfl) ?_
  refine lv_iload_n hx hb d_Lw_node_3 rfl (lv_at hl 1 rfl) ?_
  refine lv_iload_n hx hb d_Lw_node_4 rfl (lv_at hl 2 rfl) ?_
  refine lx_callT (As := [.int p1, .int p2]) Xc hHW hw (x_FixityTrees_node l D h cA hlt p1 p2) hF (fx_cwV Xc ll_47 hg_FixityTrees_node fx_gok (rm := fx_r1 { frames := 6, cells := 0, slots := 0, locals := 91 }) rfl rfl (by decide +kernel) ⟨Nat.le_of_ble_eq_true rfl, Nat.le_of_ble_eq_true rfl⟩) (va_recv X.2.1 (lx_split hw).1 (ci := 0) (q0 := 0) rfl rfl) (n := 2) rfl d_Lw_node_5 hl.1 rfl (lv_room (Nat.le_of_ble_eq_true rfl)) ⟨Nat.le_of_ble_eq_true rfl, Nat.le_of_ble_eq_true rfl⟩ (fun H locs q9 ce hw hce hcv hcl => ?_)
  refine lx_catch X (pre := []) (x := ⟨0, 10, 13, 13⟩) (suf := [⟨0, 10, 17, 21⟩]) htab (fun _ h9 => absurd h9 List.not_mem_nil) (by decide) (by decide) (fx_in 266 (by decide +kernel) (by decide +kernel)) X.2.2.2.2.1.2.2.2.2.2.2.1 hce hcv hcl ?_
  refine lv_astore (lv' := [(4, .ref q9), (0, .ref (h 0)), (1, .int p1), (2, .int p2), (3, .ref ho)]) hx hb d_Lw_node_13 hl (by decide) rfl (fun ls hl => ?_)
  refine lv_iconst (v := 1) hx hb d_Lw_node_15 (by decide) ?_
  exact hend _ _ _ _ _ _ (Nat.le_of_ble_eq_true rfl) (Nat.le_of_ble_eq_true rfl) d_Lw_node_16 hw
set_option maxRecDepth 100000 in
theorem hx_node_2 (l : Launch) (D : va_G) (h : Nat → Nat) (cA : Nat → ClassId) (ho : Nat) (hlt : l.stackTraces = false) (p1 : Int32) (p2 : Int32) {σ σ' : fx_S} {f : Nat → Int64} (hF : F_FixityTrees_node p1 p2 σ = some (.inr 2, σ')) : lh_M l y_Lw_node b_Lw_node 5 [(0, 10, 13, 13), (0, 10, 17, 21)] { frames := 7, cells := 0, slots := 0, locals := 113 } D h cA ho [.ref (h 0), .int p1, .int p2, .ref ho] σ f 2 σ' f 1 := by
  refine lh_start (by decide) (Nat.le_of_ble_eq_true rfl) ?_
  intro p e s m args below meth c A ls Q X htab hHW hw hl hend
  have hx := X.1.1
  have hb := X.1.2.1
  have hl : lv_has ls 5 [(0, .ref (h 0)), (1, .int p1), (2, .int p2), (3, .ref ho)] := hl
  have Xc : fx_X p m c b_Lw_node 5 s args "FixityTreesLaw" D fx_cl (fx_tys cA) fx_g fx_G A := ⟨X.1, X.2.1, X.2.2.1, fx_G_ok, X.2.2.2.2.1⟩
  refine lv_aload_n hx hb d_Lw_node_0 rfl (lv_at hl 3 rfl) ?_
  refine lv_iconst (v := 0) hx hb d_Lw_node_1 (by decide) ?_
  refine lv_aload_n hx hb d_Lw_node_2 rfl (lv_at hl 0 rfl) ?_
  refine lv_iload_n hx hb d_Lw_node_3 rfl (lv_at hl 1 rfl) ?_
  refine lv_iload_n hx hb d_Lw_node_4 rfl (lv_at hl 2 rfl) ?_
  refine lx_callT (As := [.int p1, .int p2]) Xc hHW hw (x_FixityTrees_node l D h cA hlt p1 p2) hF (fx_cwV Xc ll_47 hg_FixityTrees_node fx_gok (rm := fx_r1 { frames := 6, cells := 0, slots := 0, locals := 91 }) rfl rfl (by decide +kernel) ⟨Nat.le_of_ble_eq_true rfl, Nat.le_of_ble_eq_true rfl⟩) (va_recv X.2.1 (lx_split hw).1 (ci := 0) (q0 := 0) rfl rfl) (n := 2) rfl d_Lw_node_5 hl.1 rfl (lv_room (Nat.le_of_ble_eq_true rfl)) ⟨Nat.le_of_ble_eq_true rfl, Nat.le_of_ble_eq_true rfl⟩ (fun H locs q9 ce hw hce hcv hcl => ?_)
  refine lx_catch X (pre := [⟨0, 10, 13, 13⟩]) (x := ⟨0, 10, 17, 21⟩) (suf := []) htab (List.forall_mem_cons.mpr ⟨⟨(by decide), fx_ex 0, fx_in 266 (by decide +kernel) (by decide +kernel), X.2.2.2.2.2.2.1⟩, (fun _ h9 => absurd h9 List.not_mem_nil)⟩) (by decide) (by decide) (fx_in 376 (by decide +kernel) (by decide +kernel)) X.2.2.2.2.1.2.2.2.2.2.2.2.2.1 hce hcv hcl ?_
  refine lv_astore (lv' := [(4, .ref q9), (0, .ref (h 0)), (1, .int p1), (2, .int p2), (3, .ref ho)]) hx hb d_Lw_node_17 hl (by decide) rfl (fun ls hl => ?_)
  refine lv_iconst (v := 2) hx hb d_Lw_node_19 (by decide) ?_
  exact hend _ _ _ _ _ _ (Nat.le_of_ble_eq_true rfl) (Nat.le_of_ble_eq_true rfl) d_Lw_node_20 hw
set_option maxRecDepth 100000 in
theorem hr_number (l : Launch) (D : va_G) (h : Nat → Nat) (cA : Nat → ClassId) (ho : Nat) (hlt : l.stackTraces = false) (p1 : Int32) {σ σ' : fx_S} {f : Nat → Int64} {r : Int64} (hF : F_FixityTrees_number p1 σ = some (.inl r, σ')) : lh_M l y_Lw_number b_Lw_number 4 [(0, 8, 11, 13)] { frames := 7, cells := 0, slots := 0, locals := 112 } D h cA ho [.ref (h 0), .int p1, .ref ho] σ f 0 σ' (vp_updL f 0 r) 0 := by
  refine lh_start (by decide) (Nat.le_of_ble_eq_true rfl) ?_
  intro p e s m args below meth c A ls Q X htab hHW hw hl hend
  have hx := X.1.1
  have hb := X.1.2.1
  have hl : lv_has ls 4 [(0, .ref (h 0)), (1, .int p1), (2, .ref ho)] := hl
  have Xc : fx_X p m c b_Lw_number 4 s args "FixityTreesLaw" D fx_cl (fx_tys cA) fx_g fx_G A := ⟨X.1, X.2.1, X.2.2.1, fx_G_ok, X.2.2.2.2.1⟩
  refine lv_aload_n hx hb d_Lw_number_0 rfl (lv_at hl 2 rfl) ?_
  refine lv_iconst (v := 0) hx hb d_Lw_number_1 (by decide) ?_
  refine lv_aload_n hx hb d_Lw_number_2 rfl (lv_at hl 0 rfl) ?_
  refine lv_iload_n hx hb d_Lw_number_3 rfl (lv_at hl 1 rfl) ?_
  refine lx_callR_l (As := [.int p1]) Xc hHW hw (c_FixityTrees_number l D h cA hlt p1) hF (fx_cwV Xc ll_51 hg_FixityTrees_number fx_gok (rm := fx_r0 { frames := 6, cells := 0, slots := 0, locals := 91 }) rfl rfl (by decide +kernel) ⟨Nat.le_of_ble_eq_true rfl, Nat.le_of_ble_eq_true rfl⟩) (va_recv X.2.1 (lx_split hw).1 (ci := 0) (q0 := 0) rfl rfl) (n := 1) rfl d_Lw_number_4 hl.1 rfl (lv_room (Nat.le_of_ble_eq_true rfl)) ⟨Nat.zero_le _, Nat.zero_le _⟩ (fun H locs hw => ?_)
  refine va_last hx hb X.2.1 hw.1 hw.2.1 hw.2.2 48 1 rfl rfl (by show ¬ ((0 : Int32) < 0 ∨ 1 ≤ (0 : Int32).toNatClampNeg); decide) d_Lw_number_7 (fun H locs hP hD hS => ?_)
  have hw : cx_B D fx_cl A s.heap ([] ++ (fx_ws h cA σ' ++ [(ho, .inl (cA 1, 1, .inr (.inl (vp_updL f 0 r))))])) H locs := ⟨hP, hD, hS⟩
  refine lv_goto (tgt := 14) hx hb d_Lw_number_8 (by decide) ?_
  refine lv_iconst (v := 0) hx hb d_Lw_number_14 (by decide) ?_
  exact hend _ _ _ _ _ _ (Nat.le_of_ble_eq_true rfl) (Nat.le_of_ble_eq_true rfl) d_Lw_number_15 hw
set_option maxRecDepth 100000 in
theorem hx_number_0 (l : Launch) (D : va_G) (h : Nat → Nat) (cA : Nat → ClassId) (ho : Nat) (hlt : l.stackTraces = false) (p1 : Int32) {σ σ' : fx_S} {f : Nat → Int64} (hF : F_FixityTrees_number p1 σ = some (.inr 0, σ')) : lh_M l y_Lw_number b_Lw_number 4 [(0, 8, 11, 13)] { frames := 7, cells := 0, slots := 0, locals := 112 } D h cA ho [.ref (h 0), .int p1, .ref ho] σ f 1 σ' f 1 := by
  refine lh_start (by decide) (Nat.le_of_ble_eq_true rfl) ?_
  intro p e s m args below meth c A ls Q X htab hHW hw hl hend
  have hx := X.1.1
  have hb := X.1.2.1
  have hl : lv_has ls 4 [(0, .ref (h 0)), (1, .int p1), (2, .ref ho)] := hl
  have Xc : fx_X p m c b_Lw_number 4 s args "FixityTreesLaw" D fx_cl (fx_tys cA) fx_g fx_G A := ⟨X.1, X.2.1, X.2.2.1, fx_G_ok, X.2.2.2.2.1⟩
  refine lv_aload_n hx hb d_Lw_number_0 rfl (lv_at hl 2 rfl) ?_
  refine lv_iconst (v := 0) hx hb d_Lw_number_1 (by decide) ?_
  refine lv_aload_n hx hb d_Lw_number_2 rfl (lv_at hl 0 rfl) ?_
  refine lv_iload_n hx hb d_Lw_number_3 rfl (lv_at hl 1 rfl) ?_
  refine lx_callT (As := [.int p1]) Xc hHW hw (x_FixityTrees_number l D h cA hlt p1) hF (fx_cwV Xc ll_51 hg_FixityTrees_number fx_gok (rm := fx_r1 { frames := 6, cells := 0, slots := 0, locals := 91 }) rfl rfl (by decide +kernel) ⟨Nat.le_of_ble_eq_true rfl, Nat.le_of_ble_eq_true rfl⟩) (va_recv X.2.1 (lx_split hw).1 (ci := 0) (q0 := 0) rfl rfl) (n := 1) rfl d_Lw_number_4 hl.1 rfl (lv_room (Nat.le_of_ble_eq_true rfl)) ⟨Nat.le_of_ble_eq_true rfl, Nat.le_of_ble_eq_true rfl⟩ (fun H locs q9 ce hw hce hcv hcl => ?_)
  refine lx_catch X (pre := []) (x := ⟨0, 8, 11, 13⟩) (suf := []) htab (fun _ h9 => absurd h9 List.not_mem_nil) (by decide) (by decide) (fx_in 266 (by decide +kernel) (by decide +kernel)) X.2.2.2.2.1.2.2.2.2.2.2.1 hce hcv hcl ?_
  refine lv_astore_n (lv' := [(3, .ref q9), (0, .ref (h 0)), (1, .int p1), (2, .ref ho)]) hx hb d_Lw_number_11 rfl hl (by decide) rfl (fun ls hl => ?_)
  refine lv_iconst (v := 1) hx hb d_Lw_number_12 (by decide) ?_
  exact hend _ _ _ _ _ _ (Nat.le_of_ble_eq_true rfl) (Nat.le_of_ble_eq_true rfl) d_Lw_number_13 hw
set_option maxRecDepth 100000 in
theorem hr_write (l : Launch) (D : va_G) (h : Nat → Nat) (cA : Nat → ClassId) (ho : Nat) (hlt : l.stackTraces = false) (p1 : Int32) {σ σ' : fx_S} {f : Nat → Int64} {r : Int32} (hF : F_FixityTrees_write p1 σ = some (.inl r, σ')) : lh_M l y_Lw_write b_Lw_write 4 [(0, 9, 12, 13), (0, 9, 15, 15)] { frames := 8, cells := 0, slots := 0, locals := 134 } D h cA ho [.ref (h 0), .int p1, .ref ho] σ f 0 σ' (vp_updL f 0 r.toInt64) 0 := by
  refine lh_start (by decide) (Nat.le_of_ble_eq_true rfl) ?_
  intro p e s m args below meth c A ls Q X htab hHW hw hl hend
  have hx := X.1.1
  have hb := X.1.2.1
  have hl : lv_has ls 4 [(0, .ref (h 0)), (1, .int p1), (2, .ref ho)] := hl
  have Xc : fx_X p m c b_Lw_write 4 s args "FixityTreesLaw" D fx_cl (fx_tys cA) fx_g fx_G A := ⟨X.1, X.2.1, X.2.2.1, fx_G_ok, X.2.2.2.2.1⟩
  refine lv_aload_n hx hb d_Lw_write_0 rfl (lv_at hl 2 rfl) ?_
  refine lv_iconst (v := 0) hx hb d_Lw_write_1 (by decide) ?_
  refine lv_aload_n hx hb d_Lw_write_2 rfl (lv_at hl 0 rfl) ?_
  refine lv_iload_n hx hb d_Lw_write_3 rfl (lv_at hl 1 rfl) ?_
  refine lx_callR_i (As := [.int p1]) Xc hHW hw (c_FixityTrees_write l D h cA hlt p1) hF (fx_cwV Xc ll_55 hg_FixityTrees_write fx_gok (rm := fx_r0 { frames := 7, cells := 0, slots := 0, locals := 113 }) rfl rfl (by decide +kernel) ⟨Nat.le_of_ble_eq_true rfl, Nat.le_of_ble_eq_true rfl⟩) (va_recv X.2.1 (lx_split hw).1 (ci := 0) (q0 := 0) rfl rfl) (n := 1) rfl d_Lw_write_4 hl.1 rfl (lv_room (Nat.le_of_ble_eq_true rfl)) ⟨Nat.zero_le _, Nat.zero_le _⟩ (fun H locs hw => ?_)
  refine lv_i2l hx hb d_Lw_write_7 rfl ?_
  refine va_last hx hb X.2.1 hw.1 hw.2.1 hw.2.2 48 1 rfl rfl (by show ¬ ((0 : Int32) < 0 ∨ 1 ≤ (0 : Int32).toNatClampNeg); decide) d_Lw_write_8 (fun H locs hP hD hS => ?_)
  have hw : cx_B D fx_cl A s.heap ([] ++ (fx_ws h cA σ' ++ [(ho, .inl (cA 1, 1, .inr (.inl (vp_updL f 0 r.toInt64))))])) H locs := ⟨hP, hD, hS⟩
  refine lv_goto (tgt := 18) hx hb d_Lw_write_9 (by decide) ?_
  refine lv_iconst (v := 0) hx hb d_Lw_write_18 (by decide) ?_
  exact hend _ _ _ _ _ _ (Nat.le_of_ble_eq_true rfl) (Nat.le_of_ble_eq_true rfl) d_Lw_write_19 hw
set_option maxRecDepth 100000 in
theorem hx_write_0 (l : Launch) (D : va_G) (h : Nat → Nat) (cA : Nat → ClassId) (ho : Nat) (hlt : l.stackTraces = false) (p1 : Int32) {σ σ' : fx_S} {f : Nat → Int64} (hF : F_FixityTrees_write p1 σ = some (.inr 0, σ')) : lh_M l y_Lw_write b_Lw_write 4 [(0, 9, 12, 13), (0, 9, 15, 15)] { frames := 8, cells := 0, slots := 0, locals := 134 } D h cA ho [.ref (h 0), .int p1, .ref ho] σ f 1 σ' f 1 := by
  refine lh_start (by decide) (Nat.le_of_ble_eq_true rfl) ?_
  intro p e s m args below meth c A ls Q X htab hHW hw hl hend
  have hx := X.1.1
  have hb := X.1.2.1
  have hl : lv_has ls 4 [(0, .ref (h 0)), (1, .int p1), (2, .ref ho)] := hl
  have Xc : fx_X p m c b_Lw_write 4 s args "FixityTreesLaw" D fx_cl (fx_tys cA) fx_g fx_G A := ⟨X.1, X.2.1, X.2.2.1, fx_G_ok, X.2.2.2.2.1⟩
  refine lv_aload_n hx hb d_Lw_write_0 rfl (lv_at hl 2 rfl) ?_
  refine lv_iconst (v := 0) hx hb d_Lw_write_1 (by decide) ?_
  refine lv_aload_n hx hb d_Lw_write_2 rfl (lv_at hl 0 rfl) ?_
  refine lv_iload_n hx hb d_Lw_write_3 rfl (lv_at hl 1 rfl) ?_
  refine lx_callT (As := [.int p1]) Xc hHW hw (x_FixityTrees_write l D h cA hlt p1) hF (fx_cwV Xc ll_55 hg_FixityTrees_write fx_gok (rm := fx_r1 { frames := 7, cells := 0, slots := 0, locals := 113 }) rfl rfl (by decide +kernel) ⟨Nat.le_of_ble_eq_true rfl, Nat.le_of_ble_eq_true rfl⟩) (va_recv X.2.1 (lx_split hw).1 (ci := 0) (q0 := 0) rfl rfl) (n := 1) rfl d_Lw_write_4 hl.1 rfl (lv_room (Nat.le_of_ble_eq_true rfl)) ⟨Nat.le_of_ble_eq_true rfl, Nat.le_of_ble_eq_true rfl⟩ (fun H locs q9 ce hw hce hcv hcl => ?_)
  refine lx_catch X (pre := []) (x := ⟨0, 9, 12, 13⟩) (suf := [⟨0, 9, 15, 15⟩]) htab (fun _ h9 => absurd h9 List.not_mem_nil) (by decide) (by decide) (fx_in 266 (by decide +kernel) (by decide +kernel)) X.2.2.2.2.1.2.2.2.2.2.2.1 hce hcv hcl ?_
  refine lv_astore_n (lv' := [(3, .ref q9), (0, .ref (h 0)), (1, .int p1), (2, .ref ho)]) hx hb d_Lw_write_12 rfl hl (by decide) rfl (fun ls hl => ?_)
  refine lv_iconst (v := 1) hx hb d_Lw_write_13 (by decide) ?_
  exact hend _ _ _ _ _ _ (Nat.le_of_ble_eq_true rfl) (Nat.le_of_ble_eq_true rfl) d_Lw_write_14 hw
set_option maxRecDepth 100000 in
theorem hx_write_1 (l : Launch) (D : va_G) (h : Nat → Nat) (cA : Nat → ClassId) (ho : Nat) (hlt : l.stackTraces = false) (p1 : Int32) {σ σ' : fx_S} {f : Nat → Int64} (hF : F_FixityTrees_write p1 σ = some (.inr 1, σ')) : lh_M l y_Lw_write b_Lw_write 4 [(0, 9, 12, 13), (0, 9, 15, 15)] { frames := 8, cells := 0, slots := 0, locals := 134 } D h cA ho [.ref (h 0), .int p1, .ref ho] σ f 2 σ' f 1 := by
  refine lh_start (by decide) (Nat.le_of_ble_eq_true rfl) ?_
  intro p e s m args below meth c A ls Q X htab hHW hw hl hend
  have hx := X.1.1
  have hb := X.1.2.1
  have hl : lv_has ls 4 [(0, .ref (h 0)), (1, .int p1), (2, .ref ho)] := hl
  have Xc : fx_X p m c b_Lw_write 4 s args "FixityTreesLaw" D fx_cl (fx_tys cA) fx_g fx_G A := ⟨X.1, X.2.1, X.2.2.1, fx_G_ok, X.2.2.2.2.1⟩
  refine lv_aload_n hx hb d_Lw_write_0 rfl (lv_at hl 2 rfl) ?_
  refine lv_iconst (v := 0) hx hb d_Lw_write_1 (by decide) ?_
  refine lv_aload_n hx hb d_Lw_write_2 rfl (lv_at hl 0 rfl) ?_
  refine lv_iload_n hx hb d_Lw_write_3 rfl (lv_at hl 1 rfl) ?_
  refine lx_callT (As := [.int p1]) Xc hHW hw (x_FixityTrees_write l D h cA hlt p1) hF (fx_cwV Xc ll_55 hg_FixityTrees_write fx_gok (rm := fx_r1 { frames := 7, cells := 0, slots := 0, locals := 113 }) rfl rfl (by decide +kernel) ⟨Nat.le_of_ble_eq_true rfl, Nat.le_of_ble_eq_true rfl⟩) (va_recv X.2.1 (lx_split hw).1 (ci := 0) (q0 := 0) rfl rfl) (n := 1) rfl d_Lw_write_4 hl.1 rfl (lv_room (Nat.le_of_ble_eq_true rfl)) ⟨Nat.le_of_ble_eq_true rfl, Nat.le_of_ble_eq_true rfl⟩ (fun H locs q9 ce hw hce hcv hcl => ?_)
  refine lx_catch X (pre := [⟨0, 9, 12, 13⟩]) (x := ⟨0, 9, 15, 15⟩) (suf := []) htab (List.forall_mem_cons.mpr ⟨⟨(by decide), fx_ex 0, fx_in 266 (by decide +kernel) (by decide +kernel), X.2.2.2.2.2.1⟩, (fun _ h9 => absurd h9 List.not_mem_nil)⟩) (by decide) (by decide) (fx_in 267 (by decide +kernel) (by decide +kernel)) X.2.2.2.2.1.2.2.2.2.2.2.2.1 hce hcv hcl ?_
  refine lv_astore_n (lv' := [(3, .ref q9), (0, .ref (h 0)), (1, .int p1), (2, .ref ho)]) hx hb d_Lw_write_15 rfl hl (by decide) rfl (fun ls hl => ?_)
  refine lv_iconst (v := 2) hx hb d_Lw_write_16 (by decide) ?_
  exact hend _ _ _ _ _ _ (Nat.le_of_ble_eq_true rfl) (Nat.le_of_ble_eq_true rfl) d_Lw_write_17 hw
set_option maxRecDepth 100000 in
theorem hr_written (l : Launch) (D : va_G) (h : Nat → Nat) (cA : Nat → ClassId) (ho : Nat) (hlt : l.stackTraces = false) (p1 : Int32) (p2 : Int32) {σ σ' : fx_S} {f : Nat → Int64} {r : Int32} (hF : F_FixityTrees_written p1 p2 σ = some (.inl r, σ')) : lh_M l y_Lw_written b_Lw_written 5 [(0, 10, 13, 13), (0, 10, 17, 21)] { frames := 7, cells := 0, slots := 0, locals := 113 } D h cA ho [.ref (h 0), .int p1, .int p2, .ref ho] σ f 0 σ' (vp_updL f 0 r.toInt64) 0 := by
  refine lh_start (by decide) (Nat.le_of_ble_eq_true rfl) ?_
  intro p e s m args below meth c A ls Q X htab hHW hw hl hend
  have hx := X.1.1
  have hb := X.1.2.1
  have hl : lv_has ls 5 [(0, .ref (h 0)), (1, .int p1), (2, .int p2), (3, .ref ho)] := hl
  have Xc : fx_X p m c b_Lw_written 5 s args "FixityTreesLaw" D fx_cl (fx_tys cA) fx_g fx_G A := ⟨X.1, X.2.1, X.2.2.1, fx_G_ok, X.2.2.2.2.1⟩
  refine lv_aload_n hx hb d_Lw_written_0 rfl (lv_at hl 3 rfl) ?_
  refine lv_iconst (v := 0) hx hb d_Lw_written_1 (by decide) ?_
  refine lv_aload_n hx hb d_Lw_written_2 rfl (lv_at hl 0 rfl) ?_
  refine lv_iload_n hx hb d_Lw_written_3 rfl (lv_at hl 1 rfl) ?_
  refine lv_iload_n hx hb d_Lw_written_4 rfl (lv_at hl 2 rfl) ?_
  refine lx_callR_i (As := [.int p1, .int p2]) Xc hHW hw (c_FixityTrees_written l D h cA hlt p1 p2) hF (fx_cwV Xc ll_58 hg_FixityTrees_written fx_gok (rm := fx_r0 { frames := 6, cells := 0, slots := 0, locals := 91 }) rfl rfl (by decide +kernel) ⟨Nat.le_of_ble_eq_true rfl, Nat.le_of_ble_eq_true rfl⟩) (va_recv X.2.1 (lx_split hw).1 (ci := 0) (q0 := 0) rfl rfl) (n := 2) rfl d_Lw_written_5 hl.1 rfl (lv_room (Nat.le_of_ble_eq_true rfl)) ⟨Nat.zero_le _, Nat.zero_le _⟩ (fun H locs hw => ?_)
  refine lv_i2l hx hb d_Lw_written_8 rfl ?_
  refine va_last hx hb X.2.1 hw.1 hw.2.1 hw.2.2 48 1 rfl rfl (by show ¬ ((0 : Int32) < 0 ∨ 1 ≤ (0 : Int32).toNatClampNeg); decide) d_Lw_written_9 (fun H locs hP hD hS => ?_)
  have hw : cx_B D fx_cl A s.heap ([] ++ (fx_ws h cA σ' ++ [(ho, .inl (cA 1, 1, .inr (.inl (vp_updL f 0 r.toInt64))))])) H locs := ⟨hP, hD, hS⟩
  refine lv_goto (tgt := 21) hx hb d_Lw_written_10 (by decide) ?_
  refine lv_iconst (v := 0) hx hb d_Lw_written_21 (by decide) ?_
  exact hend _ _ _ _ _ _ (Nat.le_of_ble_eq_true rfl) (Nat.le_of_ble_eq_true rfl) d_Lw_written_22 hw
set_option maxRecDepth 100000 in
theorem hx_written_0 (l : Launch) (D : va_G) (h : Nat → Nat) (cA : Nat → ClassId) (ho : Nat) (hlt : l.stackTraces = false) (p1 : Int32) (p2 : Int32) {σ σ' : fx_S} {f : Nat → Int64} (hF : F_FixityTrees_written p1 p2 σ = some (.inr 0, σ')) : lh_M l y_Lw_written b_Lw_written 5 [(0, 10, 13, 13), (0, 10, 17, 21)] { frames := 7, cells := 0, slots := 0, locals := 113 } D h cA ho [.ref (h 0), .int p1, .int p2, .ref ho] σ f 1 σ' f 1 := by
  refine lh_start (by decide) (Nat.le_of_ble_eq_true rfl) ?_
  intro p e s m args below meth c A ls Q X htab hHW hw hl hend
  have hx := X.1.1
  have hb := X.1.2.1
  have hl : lv_has ls 5 [(0, .ref (h 0)), (1, .int p1), (2, .int p2), (3, .ref ho)] := hl
  have Xc : fx_X p m c b_Lw_written 5 s args "FixityTreesLaw" D fx_cl (fx_tys cA) fx_g fx_G A := ⟨X.1, X.2.1, X.2.2.1, fx_G_ok, X.2.2.2.2.1⟩
  refine lv_aload_n hx hb d_Lw_written_0 rfl (lv_at hl 3 rfl) ?_
  refine lv_iconst (v := 0) hx hb d_Lw_written_1 (by decide) ?_
  refine lv_aload_n hx hb d_Lw_written_2 rfl (lv_at hl 0 rfl) ?_
  refine lv_iload_n hx hb d_Lw_written_3 rfl (lv_at hl 1 rfl) ?_
  refine lv_iload_n hx hb d_Lw_written_4 rfl (lv_at hl 2 rfl) ?_
  refine lx_callT (As := [.int p1, .int p2]) Xc hHW hw (x_FixityTrees_written l D h cA hlt p1 p2) hF (fx_cwV Xc ll_58 hg_FixityTrees_written fx_gok (rm := fx_r1 { frames := 6, cells := 0, slots := 0, locals := 91 }) rfl rfl (by decide +kernel) ⟨Nat.le_of_ble_eq_true rfl, Nat.le_of_ble_eq_true rfl⟩) (va_recv X.2.1 (lx_split hw).1 (ci := 0) (q0 := 0) rfl rfl) (n := 2) rfl d_Lw_written_5 hl.1 rfl (lv_room (Nat.le_of_ble_eq_true rfl)) ⟨Nat.le_of_ble_eq_true rfl, Nat.le_of_ble_eq_true rfl⟩ (fun H locs q9 ce hw hce hcv hcl => ?_)
  refine lx_catch X (pre := []) (x := ⟨0, 10, 13, 13⟩) (suf := [⟨0, 10, 17, 21⟩]) htab (fun _ h9 => absurd h9 List.not_mem_nil) (by decide) (by decide) (fx_in 266 (by decide +kernel) (by decide +kernel)) X.2.2.2.2.1.2.2.2.2.2.2.1 hce hcv hcl ?_
  refine lv_astore (lv' := [(4, .ref q9), (0, .ref (h 0)), (1, .int p1), (2, .int p2), (3, .ref ho)]) hx hb d_Lw_written_13 hl (by decide) rfl (fun ls hl => ?_)
  refine lv_iconst (v := 1) hx hb d_Lw_written_15 (by decide) ?_
  exact hend _ _ _ _ _ _ (Nat.le_of_ble_eq_true rfl) (Nat.le_of_ble_eq_true rfl) d_Lw_written_16 hw
set_option maxRecDepth 100000 in
theorem hx_written_2 (l : Launch) (D : va_G) (h : Nat → Nat) (cA : Nat → ClassId) (ho : Nat) (hlt : l.stackTraces = false) (p1 : Int32) (p2 : Int32) {σ σ' : fx_S} {f : Nat → Int64} (hF : F_FixityTrees_written p1 p2 σ = some (.inr 2, σ')) : lh_M l y_Lw_written b_Lw_written 5 [(0, 10, 13, 13), (0, 10, 17, 21)] { frames := 7, cells := 0, slots := 0, locals := 113 } D h cA ho [.ref (h 0), .int p1, .int p2, .ref ho] σ f 2 σ' f 1 := by
  refine lh_start (by decide) (Nat.le_of_ble_eq_true rfl) ?_
  intro p e s m args below meth c A ls Q X htab hHW hw hl hend
  have hx := X.1.1
  have hb := X.1.2.1
  have hl : lv_has ls 5 [(0, .ref (h 0)), (1, .int p1), (2, .int p2), (3, .ref ho)] := hl
  have Xc : fx_X p m c b_Lw_written 5 s args "FixityTreesLaw" D fx_cl (fx_tys cA) fx_g fx_G A := ⟨X.1, X.2.1, X.2.2.1, fx_G_ok, X.2.2.2.2.1⟩
  refine lv_aload_n hx hb d_Lw_written_0 rfl (lv_at hl 3 rfl) ?_
  refine lv_iconst (v := 0) hx hb d_Lw_written_1 (by decide) ?_
  refine lv_aload_n hx hb d_Lw_written_2 rfl (lv_at hl 0 rfl) ?_
  refine lv_iload_n hx hb d_Lw_written_3 rfl (lv_at hl 1 rfl) ?_
  refine lv_iload_n hx hb d_Lw_written_4 rfl (lv_at hl 2 rfl) ?_
  refine lx_callT (As := [.int p1, .int p2]) Xc hHW hw (x_FixityTrees_written l D h cA hlt p1 p2) hF (fx_cwV Xc ll_58 hg_FixityTrees_written fx_gok (rm := fx_r1 { frames := 6, cells := 0, slots := 0, locals := 91 }) rfl rfl (by decide +kernel) ⟨Nat.le_of_ble_eq_true rfl, Nat.le_of_ble_eq_true rfl⟩) (va_recv X.2.1 (lx_split hw).1 (ci := 0) (q0 := 0) rfl rfl) (n := 2) rfl d_Lw_written_5 hl.1 rfl (lv_room (Nat.le_of_ble_eq_true rfl)) ⟨Nat.le_of_ble_eq_true rfl, Nat.le_of_ble_eq_true rfl⟩ (fun H locs q9 ce hw hce hcv hcl => ?_)
  refine lx_catch X (pre := [⟨0, 10, 13, 13⟩]) (x := ⟨0, 10, 17, 21⟩) (suf := []) htab (List.forall_mem_cons.mpr ⟨⟨(by decide), fx_ex 0, fx_in 266 (by decide +kernel) (by decide +kernel), X.2.2.2.2.2.2.1⟩, (fun _ h9 => absurd h9 List.not_mem_nil)⟩) (by decide) (by decide) (fx_in 376 (by decide +kernel) (by decide +kernel)) X.2.2.2.2.1.2.2.2.2.2.2.2.2.1 hce hcv hcl ?_
  refine lv_astore (lv' := [(4, .ref q9), (0, .ref (h 0)), (1, .int p1), (2, .int p2), (3, .ref ho)]) hx hb d_Lw_written_17 hl (by decide) rfl (fun ls hl => ?_)
  refine lv_iconst (v := 2) hx hb d_Lw_written_19 (by decide) ?_
  exact hend _ _ _ _ _ _ (Nat.le_of_ble_eq_true rfl) (Nat.le_of_ble_eq_true rfl) d_Lw_written_20 hw
set_option maxRecDepth 100000 in
theorem hr_take (l : Launch) (D : va_G) (h : Nat → Nat) (cA : Nat → ClassId) (ho : Nat) (hlt : l.stackTraces = false) {σ σ' : fx_S} {f : Nat → Int64} {r : Int32} (hF : F_FixityTrees_take σ = some (.inl r, σ')) : lh_M l y_Lw_take b_Lw_take 3 [(0, 8, 11, 15)] { frames := 7, cells := 0, slots := 0, locals := 127 } D h cA ho [.ref (h 0), .ref ho] σ f 0 σ' (vp_updL f 0 r.toInt64) 0 := by
  refine lh_start (by decide) (Nat.le_of_ble_eq_true rfl) ?_
  intro p e s m args below meth c A ls Q X htab hHW hw hl hend
  have hx := X.1.1
  have hb := X.1.2.1
  have hl : lv_has ls 3 [(0, .ref (h 0)), (1, .ref ho)] := hl
  have Xc : fx_X p m c b_Lw_take 3 s args "FixityTreesLaw" D fx_cl (fx_tys cA) fx_g fx_G A := ⟨X.1, X.2.1, X.2.2.1, fx_G_ok, X.2.2.2.2.1⟩
  refine lv_aload_n hx hb d_Lw_take_0 rfl (lv_at hl 1 rfl) ?_
  refine lv_iconst (v := 0) hx hb d_Lw_take_1 (by decide) ?_
  refine lv_aload_n hx hb d_Lw_take_2 rfl (lv_at hl 0 rfl) ?_
  refine lx_callR_i (As := []) Xc hHW hw (c_FixityTrees_take l D h cA hlt) hF (fx_cwV Xc ll_61 hg_FixityTrees_take fx_gok (rm := fx_r0 { frames := 6, cells := 0, slots := 0, locals := 106 }) rfl rfl (by decide +kernel) ⟨Nat.le_of_ble_eq_true rfl, Nat.le_of_ble_eq_true rfl⟩) (va_recv X.2.1 (lx_split hw).1 (ci := 0) (q0 := 0) rfl rfl) (n := 0) rfl d_Lw_take_3 hl.1 rfl (lv_room (Nat.le_of_ble_eq_true rfl)) ⟨Nat.zero_le _, Nat.zero_le _⟩ (fun H locs hw => ?_)
  refine lv_i2l hx hb d_Lw_take_6 rfl ?_
  refine va_last hx hb X.2.1 hw.1 hw.2.1 hw.2.2 48 1 rfl rfl (by show ¬ ((0 : Int32) < 0 ∨ 1 ≤ (0 : Int32).toNatClampNeg); decide) d_Lw_take_7 (fun H locs hP hD hS => ?_)
  have hw : cx_B D fx_cl A s.heap ([] ++ (fx_ws h cA σ' ++ [(ho, .inl (cA 1, 1, .inr (.inl (vp_updL f 0 r.toInt64))))])) H locs := ⟨hP, hD, hS⟩
  refine lv_goto (tgt := 14) hx hb d_Lw_take_8 (by decide) ?_
  refine lv_iconst (v := 0) hx hb d_Lw_take_14 (by decide) ?_
  exact hend _ _ _ _ _ _ (Nat.le_of_ble_eq_true rfl) (Nat.le_of_ble_eq_true rfl) d_Lw_take_15 hw
set_option maxRecDepth 100000 in
theorem hx_take_1 (l : Launch) (D : va_G) (h : Nat → Nat) (cA : Nat → ClassId) (ho : Nat) (hlt : l.stackTraces = false) {σ σ' : fx_S} {f : Nat → Int64} (hF : F_FixityTrees_take σ = some (.inr 1, σ')) : lh_M l y_Lw_take b_Lw_take 3 [(0, 8, 11, 15)] { frames := 7, cells := 0, slots := 0, locals := 127 } D h cA ho [.ref (h 0), .ref ho] σ f 1 σ' f 1 := by
  refine lh_start (by decide) (Nat.le_of_ble_eq_true rfl) ?_
  intro p e s m args below meth c A ls Q X htab hHW hw hl hend
  have hx := X.1.1
  have hb := X.1.2.1
  have hl : lv_has ls 3 [(0, .ref (h 0)), (1, .ref ho)] := hl
  have Xc : fx_X p m c b_Lw_take 3 s args "FixityTreesLaw" D fx_cl (fx_tys cA) fx_g fx_G A := ⟨X.1, X.2.1, X.2.2.1, fx_G_ok, X.2.2.2.2.1⟩
  refine lv_aload_n hx hb d_Lw_take_0 rfl (lv_at hl 1 rfl) ?_
  refine lv_iconst (v := 0) hx hb d_Lw_take_1 (by decide) ?_
  refine lv_aload_n hx hb d_Lw_take_2 rfl (lv_at hl 0 rfl) ?_
  refine lx_callT (As := []) Xc hHW hw (x_FixityTrees_take l D h cA hlt) hF (fx_cwV Xc ll_61 hg_FixityTrees_take fx_gok (rm := fx_r1 { frames := 6, cells := 0, slots := 0, locals := 106 }) rfl rfl (by decide +kernel) ⟨Nat.le_of_ble_eq_true rfl, Nat.le_of_ble_eq_true rfl⟩) (va_recv X.2.1 (lx_split hw).1 (ci := 0) (q0 := 0) rfl rfl) (n := 0) rfl d_Lw_take_3 hl.1 rfl (lv_room (Nat.le_of_ble_eq_true rfl)) ⟨Nat.le_of_ble_eq_true rfl, Nat.le_of_ble_eq_true rfl⟩ (fun H locs q9 ce hw hce hcv hcl => ?_)
  refine lx_catch X (pre := []) (x := ⟨0, 8, 11, 15⟩) (suf := []) htab (fun _ h9 => absurd h9 List.not_mem_nil) (by decide) (by decide) (fx_in 267 (by decide +kernel) (by decide +kernel)) X.2.2.2.2.1.2.2.2.2.2.2.2.1 hce hcv hcl ?_
  refine lv_astore_n (lv' := [(2, .ref q9), (0, .ref (h 0)), (1, .ref ho)]) hx hb d_Lw_take_11 rfl hl (by decide) rfl (fun ls hl => ?_)
  refine lv_iconst (v := 1) hx hb d_Lw_take_12 (by decide) ?_
  exact hend _ _ _ _ _ _ (Nat.le_of_ble_eq_true rfl) (Nat.le_of_ble_eq_true rfl) d_Lw_take_13 hw
set_option maxRecDepth 100000 in
theorem hr_same (l : Launch) (D : va_G) (h : Nat → Nat) (cA : Nat → ClassId) (ho : Nat) (hlt : l.stackTraces = false) (p1 : Int32) {σ σ' : fx_S} {f : Nat → Int64} {r : Int32} (hF : F_FixityTrees_same p1 σ = some (.inl r, σ')) : lh_M l y_Lw_same b_Lw_same 4 [(0, 16, 19, 13), (0, 16, 22, 15)] { frames := 8, cells := 0, slots := 0, locals := 155 } D h cA ho [.ref (h 0), .int p1, .ref ho] σ f 0 σ' (vp_updL f 0 (if r = 0 then 0 else 1)) 0 := by
  refine lh_start (by decide) (Nat.le_of_ble_eq_true rfl) ?_
  intro p e s m args below meth c A ls Q X htab hHW hw hl hend
  have hx := X.1.1
  have hb := X.1.2.1
  have hl : lv_has ls 4 [(0, .ref (h 0)), (1, .int p1), (2, .ref ho)] := hl
  have Xc : fx_X p m c b_Lw_same 4 s args "FixityTreesLaw" D fx_cl (fx_tys cA) fx_g fx_G A := ⟨X.1, X.2.1, X.2.2.1, fx_G_ok, X.2.2.2.2.1⟩
  refine lv_aload_n hx hb d_Lw_same_0 rfl (lv_at hl 2 rfl) ?_
  refine lv_iconst (v := 0) hx hb d_Lw_same_1 (by decide) ?_
  refine lv_aload_n hx hb d_Lw_same_2 rfl (lv_at hl 0 rfl) ?_
  refine lv_iload_n hx hb d_Lw_same_3 rfl (lv_at hl 1 rfl) ?_
  refine lx_callR_i (As := [.int p1]) Xc hHW hw (c_FixityTrees_same l D h cA hlt p1) hF (fx_cwV Xc ll_64 hg_FixityTrees_same fx_gok (rm := fx_r0 { frames := 7, cells := 0, slots := 0, locals := 134 }) rfl rfl (by decide +kernel) ⟨Nat.le_of_ble_eq_true rfl, Nat.le_of_ble_eq_true rfl⟩) (va_recv X.2.1 (lx_split hw).1 (ci := 0) (q0 := 0) rfl rfl) (n := 1) rfl d_Lw_same_4 hl.1 rfl (lv_room (Nat.le_of_ble_eq_true rfl)) ⟨Nat.zero_le _, Nat.zero_le _⟩ (fun H locs hw => ?_)
  refine lv_if_eq (tgt := 14) hx hb d_Lw_same_7 (by decide) (fun hc => ?_) (fun hc => ?_)
  · rw [if_pos hc] at hend
    refine lv_lconst (v := 0) hx hb d_Lw_same_14 (by decide) ?_
    refine va_last hx hb X.2.1 hw.1 hw.2.1 hw.2.2 48 1 rfl rfl (by show ¬ ((0 : Int32) < 0 ∨ 1 ≤ (0 : Int32).toNatClampNeg); decide) d_Lw_same_15 (fun H locs hP hD hS => ?_)
    have hw : cx_B D fx_cl A s.heap ([] ++ (fx_ws h cA σ' ++ [(ho, .inl (cA 1, 1, .inr (.inl (vp_updL f 0 0))))])) H locs := ⟨hP, hD, hS⟩
    refine lv_goto (tgt := 25) hx hb d_Lw_same_16 (by decide) ?_
    refine lv_iconst (v := 0) hx hb d_Lw_same_25 (by decide) ?_
    exact hend _ _ _ _ _ _ (Nat.le_of_ble_eq_true rfl) (Nat.le_of_ble_eq_true rfl) d_Lw_same_26 hw
  · rw [if_neg hc] at hend
    refine lv_lconst (v := 1) hx hb d_Lw_same_10 (by decide) ?_
    refine lv_goto (tgt := 15) hx hb d_Lw_same_11 (by decide) ?_
    refine va_last hx hb X.2.1 hw.1 hw.2.1 hw.2.2 48 1 rfl rfl (by show ¬ ((0 : Int32) < 0 ∨ 1 ≤ (0 : Int32).toNatClampNeg); decide) d_Lw_same_15 (fun H locs hP hD hS => ?_)
    have hw : cx_B D fx_cl A s.heap ([] ++ (fx_ws h cA σ' ++ [(ho, .inl (cA 1, 1, .inr (.inl (vp_updL f 0 1))))])) H locs := ⟨hP, hD, hS⟩
    refine lv_goto (tgt := 25) hx hb d_Lw_same_16 (by decide) ?_
    refine lv_iconst (v := 0) hx hb d_Lw_same_25 (by decide) ?_
    exact hend _ _ _ _ _ _ (Nat.le_of_ble_eq_true rfl) (Nat.le_of_ble_eq_true rfl) d_Lw_same_26 hw
set_option maxRecDepth 100000 in
theorem hx_same_0 (l : Launch) (D : va_G) (h : Nat → Nat) (cA : Nat → ClassId) (ho : Nat) (hlt : l.stackTraces = false) (p1 : Int32) {σ σ' : fx_S} {f : Nat → Int64} (hF : F_FixityTrees_same p1 σ = some (.inr 0, σ')) : lh_M l y_Lw_same b_Lw_same 4 [(0, 16, 19, 13), (0, 16, 22, 15)] { frames := 8, cells := 0, slots := 0, locals := 155 } D h cA ho [.ref (h 0), .int p1, .ref ho] σ f 1 σ' f 1 := by
  refine lh_start (by decide) (Nat.le_of_ble_eq_true rfl) ?_
  intro p e s m args below meth c A ls Q X htab hHW hw hl hend
  have hx := X.1.1
  have hb := X.1.2.1
  have hl : lv_has ls 4 [(0, .ref (h 0)), (1, .int p1), (2, .ref ho)] := hl
  have Xc : fx_X p m c b_Lw_same 4 s args "FixityTreesLaw" D fx_cl (fx_tys cA) fx_g fx_G A := ⟨X.1, X.2.1, X.2.2.1, fx_G_ok, X.2.2.2.2.1⟩
  refine lv_aload_n hx hb d_Lw_same_0 rfl (lv_at hl 2 rfl) ?_
  refine lv_iconst (v := 0) hx hb d_Lw_same_1 (by decide) ?_
  refine lv_aload_n hx hb d_Lw_same_2 rfl (lv_at hl 0 rfl) ?_
  refine lv_iload_n hx hb d_Lw_same_3 rfl (lv_at hl 1 rfl) ?_
  refine lx_callT (As := [.int p1]) Xc hHW hw (x_FixityTrees_same l D h cA hlt p1) hF (fx_cwV Xc ll_64 hg_FixityTrees_same fx_gok (rm := fx_r1 { frames := 7, cells := 0, slots := 0, locals := 134 }) rfl rfl (by decide +kernel) ⟨Nat.le_of_ble_eq_true rfl, Nat.le_of_ble_eq_true rfl⟩) (va_recv X.2.1 (lx_split hw).1 (ci := 0) (q0 := 0) rfl rfl) (n := 1) rfl d_Lw_same_4 hl.1 rfl (lv_room (Nat.le_of_ble_eq_true rfl)) ⟨Nat.le_of_ble_eq_true rfl, Nat.le_of_ble_eq_true rfl⟩ (fun H locs q9 ce hw hce hcv hcl => ?_)
  refine lx_catch X (pre := []) (x := ⟨0, 16, 19, 13⟩) (suf := [⟨0, 16, 22, 15⟩]) htab (fun _ h9 => absurd h9 List.not_mem_nil) (by decide) (by decide) (fx_in 266 (by decide +kernel) (by decide +kernel)) X.2.2.2.2.1.2.2.2.2.2.2.1 hce hcv hcl ?_
  refine lv_astore_n (lv' := [(3, .ref q9), (0, .ref (h 0)), (1, .int p1), (2, .ref ho)]) hx hb d_Lw_same_19 rfl hl (by decide) rfl (fun ls hl => ?_)
  refine lv_iconst (v := 1) hx hb d_Lw_same_20 (by decide) ?_
  exact hend _ _ _ _ _ _ (Nat.le_of_ble_eq_true rfl) (Nat.le_of_ble_eq_true rfl) d_Lw_same_21 hw
set_option maxRecDepth 100000 in
theorem hx_same_1 (l : Launch) (D : va_G) (h : Nat → Nat) (cA : Nat → ClassId) (ho : Nat) (hlt : l.stackTraces = false) (p1 : Int32) {σ σ' : fx_S} {f : Nat → Int64} (hF : F_FixityTrees_same p1 σ = some (.inr 1, σ')) : lh_M l y_Lw_same b_Lw_same 4 [(0, 16, 19, 13), (0, 16, 22, 15)] { frames := 8, cells := 0, slots := 0, locals := 155 } D h cA ho [.ref (h 0), .int p1, .ref ho] σ f 2 σ' f 1 := by
  refine lh_start (by decide) (Nat.le_of_ble_eq_true rfl) ?_
  intro p e s m args below meth c A ls Q X htab hHW hw hl hend
  have hx := X.1.1
  have hb := X.1.2.1
  have hl : lv_has ls 4 [(0, .ref (h 0)), (1, .int p1), (2, .ref ho)] := hl
  have Xc : fx_X p m c b_Lw_same 4 s args "FixityTreesLaw" D fx_cl (fx_tys cA) fx_g fx_G A := ⟨X.1, X.2.1, X.2.2.1, fx_G_ok, X.2.2.2.2.1⟩
  refine lv_aload_n hx hb d_Lw_same_0 rfl (lv_at hl 2 rfl) ?_
  refine lv_iconst (v := 0) hx hb d_Lw_same_1 (by decide) ?_
  refine lv_aload_n hx hb d_Lw_same_2 rfl (lv_at hl 0 rfl) ?_
  refine lv_iload_n hx hb d_Lw_same_3 rfl (lv_at hl 1 rfl) ?_
  refine lx_callT (As := [.int p1]) Xc hHW hw (x_FixityTrees_same l D h cA hlt p1) hF (fx_cwV Xc ll_64 hg_FixityTrees_same fx_gok (rm := fx_r1 { frames := 7, cells := 0, slots := 0, locals := 134 }) rfl rfl (by decide +kernel) ⟨Nat.le_of_ble_eq_true rfl, Nat.le_of_ble_eq_true rfl⟩) (va_recv X.2.1 (lx_split hw).1 (ci := 0) (q0 := 0) rfl rfl) (n := 1) rfl d_Lw_same_4 hl.1 rfl (lv_room (Nat.le_of_ble_eq_true rfl)) ⟨Nat.le_of_ble_eq_true rfl, Nat.le_of_ble_eq_true rfl⟩ (fun H locs q9 ce hw hce hcv hcl => ?_)
  refine lx_catch X (pre := [⟨0, 16, 19, 13⟩]) (x := ⟨0, 16, 22, 15⟩) (suf := []) htab (List.forall_mem_cons.mpr ⟨⟨(by decide), fx_ex 0, fx_in 266 (by decide +kernel) (by decide +kernel), X.2.2.2.2.2.1⟩, (fun _ h9 => absurd h9 List.not_mem_nil)⟩) (by decide) (by decide) (fx_in 267 (by decide +kernel) (by decide +kernel)) X.2.2.2.2.1.2.2.2.2.2.2.2.1 hce hcv hcl ?_
  refine lv_astore_n (lv' := [(3, .ref q9), (0, .ref (h 0)), (1, .int p1), (2, .ref ho)]) hx hb d_Lw_same_22 rfl hl (by decide) rfl (fun ls hl => ?_)
  refine lv_iconst (v := 2) hx hb d_Lw_same_23 (by decide) ?_
  exact hend _ _ _ _ _ _ (Nat.le_of_ble_eq_true rfl) (Nat.le_of_ble_eq_true rfl) d_Lw_same_24 hw
set_option maxRecDepth 100000 in
theorem hr_told (l : Launch) (D : va_G) (h : Nat → Nat) (cA : Nat → ClassId) (ho : Nat) (hlt : l.stackTraces = false) (p1 : Int32) {σ σ' : fx_S} {f : Nat → Int64} {r : Int32} (hF : F_FixityTrees_told p1 σ = some (.inl r, σ')) : lh_M l y_Lw_told b_Lw_told 4 [(0, 9, 12, 21)] { frames := 7, cells := 0, slots := 0, locals := 112 } D h cA ho [.ref (h 0), .int p1, .ref ho] σ f 0 σ' (vp_updL f 0 r.toInt64) 0 := by
  refine lh_start (by decide) (Nat.le_of_ble_eq_true rfl) ?_
  intro p e s m args below meth c A ls Q X htab hHW hw hl hend
  have hx := X.1.1
  have hb := X.1.2.1
  have hl : lv_has ls 4 [(0, .ref (h 0)), (1, .int p1), (2, .ref ho)] := hl
  have Xc : fx_X p m c b_Lw_told 4 s args "FixityTreesLaw" D fx_cl (fx_tys cA) fx_g fx_G A := ⟨X.1, X.2.1, X.2.2.1, fx_G_ok, X.2.2.2.2.1⟩
  refine lv_aload_n hx hb d_Lw_told_0 rfl (lv_at hl 2 rfl) ?_
  refine lv_iconst (v := 0) hx hb d_Lw_told_1 (by decide) ?_
  refine lv_aload_n hx hb d_Lw_told_2 rfl (lv_at hl 0 rfl) ?_
  refine lv_iload_n hx hb d_Lw_told_3 rfl (lv_at hl 1 rfl) ?_
  refine lx_callR_i (As := [.int p1]) Xc hHW hw (c_FixityTrees_told l D h cA hlt p1) hF (fx_cwV Xc ll_68 hg_FixityTrees_told fx_gok (rm := fx_r0 { frames := 6, cells := 0, slots := 0, locals := 91 }) rfl rfl (by decide +kernel) ⟨Nat.le_of_ble_eq_true rfl, Nat.le_of_ble_eq_true rfl⟩) (va_recv X.2.1 (lx_split hw).1 (ci := 0) (q0 := 0) rfl rfl) (n := 1) rfl d_Lw_told_4 hl.1 rfl (lv_room (Nat.le_of_ble_eq_true rfl)) ⟨Nat.zero_le _, Nat.zero_le _⟩ (fun H locs hw => ?_)
  refine lv_i2l hx hb d_Lw_told_7 rfl ?_
  refine va_last hx hb X.2.1 hw.1 hw.2.1 hw.2.2 48 1 rfl rfl (by show ¬ ((0 : Int32) < 0 ∨ 1 ≤ (0 : Int32).toNatClampNeg); decide) d_Lw_told_8 (fun H locs hP hD hS => ?_)
  have hw : cx_B D fx_cl A s.heap ([] ++ (fx_ws h cA σ' ++ [(ho, .inl (cA 1, 1, .inr (.inl (vp_updL f 0 r.toInt64))))])) H locs := ⟨hP, hD, hS⟩
  refine lv_goto (tgt := 15) hx hb d_Lw_told_9 (by decide) ?_
  refine lv_iconst (v := 0) hx hb d_Lw_told_15 (by decide) ?_
  exact hend _ _ _ _ _ _ (Nat.le_of_ble_eq_true rfl) (Nat.le_of_ble_eq_true rfl) d_Lw_told_16 hw
set_option maxRecDepth 100000 in
theorem hx_told_2 (l : Launch) (D : va_G) (h : Nat → Nat) (cA : Nat → ClassId) (ho : Nat) (hlt : l.stackTraces = false) (p1 : Int32) {σ σ' : fx_S} {f : Nat → Int64} (hF : F_FixityTrees_told p1 σ = some (.inr 2, σ')) : lh_M l y_Lw_told b_Lw_told 4 [(0, 9, 12, 21)] { frames := 7, cells := 0, slots := 0, locals := 112 } D h cA ho [.ref (h 0), .int p1, .ref ho] σ f 1 σ' f 1 := by
  refine lh_start (by decide) (Nat.le_of_ble_eq_true rfl) ?_
  intro p e s m args below meth c A ls Q X htab hHW hw hl hend
  have hx := X.1.1
  have hb := X.1.2.1
  have hl : lv_has ls 4 [(0, .ref (h 0)), (1, .int p1), (2, .ref ho)] := hl
  have Xc : fx_X p m c b_Lw_told 4 s args "FixityTreesLaw" D fx_cl (fx_tys cA) fx_g fx_G A := ⟨X.1, X.2.1, X.2.2.1, fx_G_ok, X.2.2.2.2.1⟩
  refine lv_aload_n hx hb d_Lw_told_0 rfl (lv_at hl 2 rfl) ?_
  refine lv_iconst (v := 0) hx hb d_Lw_told_1 (by decide) ?_
  refine lv_aload_n hx hb d_Lw_told_2 rfl (lv_at hl 0 rfl) ?_
  refine lv_iload_n hx hb d_Lw_told_3 rfl (lv_at hl 1 rfl) ?_
  refine lx_callT (As := [.int p1]) Xc hHW hw (x_FixityTrees_told l D h cA hlt p1) hF (fx_cwV Xc ll_68 hg_FixityTrees_told fx_gok (rm := fx_r1 { frames := 6, cells := 0, slots := 0, locals := 91 }) rfl rfl (by decide +kernel) ⟨Nat.le_of_ble_eq_true rfl, Nat.le_of_ble_eq_true rfl⟩) (va_recv X.2.1 (lx_split hw).1 (ci := 0) (q0 := 0) rfl rfl) (n := 1) rfl d_Lw_told_4 hl.1 rfl (lv_room (Nat.le_of_ble_eq_true rfl)) ⟨Nat.le_of_ble_eq_true rfl, Nat.le_of_ble_eq_true rfl⟩ (fun H locs q9 ce hw hce hcv hcl => ?_)
  refine lx_catch X (pre := []) (x := ⟨0, 9, 12, 21⟩) (suf := []) htab (fun _ h9 => absurd h9 List.not_mem_nil) (by decide) (by decide) (fx_in 376 (by decide +kernel) (by decide +kernel)) X.2.2.2.2.1.2.2.2.2.2.2.2.2.1 hce hcv hcl ?_
  refine lv_astore_n (lv' := [(3, .ref q9), (0, .ref (h 0)), (1, .int p1), (2, .ref ho)]) hx hb d_Lw_told_12 rfl hl (by decide) rfl (fun ls hl => ?_)
  refine lv_iconst (v := 1) hx hb d_Lw_told_13 (by decide) ?_
  exact hend _ _ _ _ _ _ (Nat.le_of_ble_eq_true rfl) (Nat.le_of_ble_eq_true rfl) d_Lw_told_14 hw
