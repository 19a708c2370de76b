set_option maxHeartbeats 4000000 in
set_option maxRecDepth 100000 in
theorem c_Md_isDue (l : Launch) (D : va_G) (h : Nat → Nat) (cA : Nat → ClassId) : fx_Mi l y_Md_isDue b_Md_isDue 1 (some .boolean) { frames := 1, cells := 0, slots := 0, locals := 22 } D fx_cl (fx_tys cA) fx_g fx_G (rf_ws h cA) [.ref (h 0)] (F_Md_isDue) := by
  refine fx_start_z fx_G_ok (by decide) (Nat.le_of_ble_eq_true rfl) ?_
  intro p e s m args below meth c A ls σ res Q hF X hw hl hend
  have hx := X.1.1
  have hb := X.1.2.1
  have hl : lv_has ls 1 [(0, .ref (h 0))] := hl
  unfold F_Md_isDue at hF
  refine lv_aload_n hx hb d_Md_isDue_0 rfl (lv_at hl 0 rfl) ?_
  refine gI_Md_count X hw lk_Md_140 d_Md_isDue_1 hF (fun x1 hF => ?_)
  refine lv_if_eq (tgt := 19) hx hb d_Md_isDue_4 (by decide) (fun hc => ?_) (fun hc => ?_)
  · have hF := fx_it hc hF
    refine lv_iconst (v := 1) hx hb d_Md_isDue_19 (by decide) ?_
    refine lv_goto (tgt := 24) hx hb d_Md_isDue_20 (by decide) ?_
    exact hend _ _ _ _ _ _ d_Md_isDue_24 hF hw
  · have hF := fx_if hc hF
    refine lv_aload_n hx hb d_Md_isDue_7 rfl (lv_at hl 0 rfl) ?_
    refine k_Md_lastKind X hw lk_Md_150 d_Md_isDue_8 hl.1 (lv_room (Nat.le_of_ble_eq_true rfl)) ⟨Nat.le_of_ble_eq_true rfl, Nat.le_of_ble_eq_true rfl⟩ ⟨Nat.zero_le _, Nat.zero_le _⟩ hF (fun x2 σ H locs hF hw => ?_)
    refine lv_iconst (v := 1) hx hb d_Md_isDue_11 (by decide) ?_
    refine lv_iconst (v := 3) hx hb d_Md_isDue_12 (by decide) ?_
    refine k_Md_isIn X hw lk_Md_116 d_Md_isDue_13 hl.1 (lv_room (Nat.le_of_ble_eq_true rfl)) ⟨Nat.le_of_ble_eq_true rfl, Nat.le_of_ble_eq_true rfl⟩ ⟨Nat.zero_le _, Nat.zero_le _⟩ hF (fun x3 σ H locs hF hw => ?_)
    refine lv_if_eq (tgt := 23) hx hb d_Md_isDue_16 (by decide) (fun hc => ?_) (fun hc => ?_)
    · have hF := fx_it hc hF
      refine lv_iconst (v := 0) hx hb d_Md_isDue_23 (by decide) ?_
      exact hend _ _ _ _ _ _ d_Md_isDue_24 hF hw
    · have hF := fx_if hc hF
      refine lv_iconst (v := 1) hx hb d_Md_isDue_19 (by decide) ?_
      refine lv_goto (tgt := 24) hx hb d_Md_isDue_20 (by decide) ?_
      exact hend _ _ _ _ _ _ d_Md_isDue_24 hF hw
section
variable {p : Program} {l : Launch} {e : Env} {R : Room} {s : State} {m : MethodId} {args : Array Value} {below : List Frame} {meth : Method} {c : Code} {H : Heap} {locs : List Loc} {cells slots : Nat} {Q : State → Prop}
variable {cc : ByteArray} {pc nL ix : Nat} {ls : Array Slot} {rest : List Value} {own : String} {D : va_G} {A : Nat → Prop} {h : Nat → Nat} {cA : Nat → ClassId} {σ : fx_S} {β : Type} {res : β × fx_S}
theorem k_Md_isDue (X : fx_X p m c cc nL s args own D fx_cl (fx_tys cA) fx_g fx_G A) (hw : fx_B D fx_cl (rf_ws h cA) A s.heap σ H locs) (lk : Cond.methodLink own ix y_Md_isDue ∈ fx_g) (hdg : decode cc pc = .ok (.invokevirtual ix, 3)) (hsize : ls.size = nL) (hW : 2 * (F0 m pc ls (.ref (h 0) :: rest)).monitorRoom + (rest.map fun v => v.category).sum ≤ 8) (hR : 1 + 1 ≤ R.frames ∧ 8 + (1 + 11) + 22 ≤ R.locals) (hf : cells ≤ R.cells ∧ slots ≤ R.slots) {k : Int32 → fx_M β} (hF : fx_bnd (F_Md_isDue) k σ = some res) (kk : ∀ (r : Int32) (σ' : fx_S) (H' : Heap) (locs' : List Loc), k r σ' = some res → fx_B D fx_cl (rf_ws h cA) A s.heap σ' H' locs' → W p l e R s m args below meth c H' locs' cells slots Q (F0 m (pc + 3) ls (.int r :: rest))) : W p l e R s m args below meth c H locs cells slots Q (F0 m pc ls (.ref (h 0) :: rest)) :=
  fx_call_i X hw (c_Md_isDue l D h cA) (fx_cwV X lk hg_Md_isDue fx_gok (rm := { frames := 1, cells := 0, slots := 0, locals := 22 }) rfl rfl (by decide +kernel) hR) (va_recv X.2.1 hw.1 (ci := 8) (q0 := 0) rfl rfl) (n := 0) rfl hdg hsize rfl hW hf hF kk
end
set_option maxHeartbeats 4000000 in
set_option maxRecDepth 100000 in
theorem c_Md_add (l : Launch) (D : va_G) (h : Nat → Nat) (cA : Nat → ClassId) (v1 : Int32) (v2 : Int32) (v3 : Int64) : fx_Mi l y_Md_add b_Md_add 5 (some .int) { frames := 0, cells := 0, slots := 0, locals := 0 } D fx_cl (fx_tys cA) fx_g fx_G (rf_ws h cA) [.ref (h 0), .int v1, .int v2, .long v3] (F_Md_add v1 v2 v3) := by
  refine fx_start_i fx_G_ok (by decide) (Nat.le_of_ble_eq_true rfl) ?_
  intro p e s m args below meth c A ls σ res Q hF X hw hl hend
  have hx := X.1.1
  have hb := X.1.2.1
  have hl : lv_has ls 5 [(0, .ref (h 0)), (1, .int v1), (2, .int v2), (3, .long v3)] := hl
  unfold F_Md_add at hF
  refine lv_aload_n hx hb d_Md_add_0 rfl (lv_at hl 0 rfl) ?_
  refine gR_Md_kinds X hw lk_Md_19 d_Md_add_1 ?_
  refine lv_aload_n hx hb d_Md_add_4 rfl (lv_at hl 0 rfl) ?_
  refine gI_Md_count X hw lk_Md_140 d_Md_add_5 hF (fun x1 hF => ?_)
  refine lv_iload_n hx hb d_Md_add_8 rfl (lv_at hl 1 rfl) ?_
  refine sA_Md_kinds X hw d_Md_add_9 hF (fun σ H locs hF hw => ?_)
  refine lv_aload_n hx hb d_Md_add_10 rfl (lv_at hl 0 rfl) ?_
  refine gR_Md_operators X hw lk_Md_22 d_Md_add_11 ?_
  refine lv_aload_n hx hb d_Md_add_14 rfl (lv_at hl 0 rfl) ?_
  refine gI_Md_count X hw lk_Md_140 d_Md_add_15 hF (fun x2 hF => ?_)
  refine lv_iload_n hx hb d_Md_add_18 rfl (lv_at hl 2 rfl) ?_
  refine sA_Md_operators X hw d_Md_add_19 hF (fun σ H locs hF hw => ?_)
  refine lv_aload_n hx hb d_Md_add_20 rfl (lv_at hl 0 rfl) ?_
  refine gR_Md_numbers X hw lk_Md_25 d_Md_add_21 ?_
  refine lv_aload_n hx hb d_Md_add_24 rfl (lv_at hl 0 rfl) ?_
  refine gI_Md_count X hw lk_Md_140 d_Md_add_25 hF (fun x3 hF => ?_)
  refine lv_lload_n hx hb d_Md_add_28 rfl (lv_at hl 3 rfl) ?_
  refine sA_Md_numbers X hw d_Md_add_29 hF (fun σ H locs hF hw => ?_)
  refine lv_aload_n hx hb d_Md_add_30 rfl (lv_at hl 0 rfl) ?_
  refine lv_dup hx hb d_Md_add_31 rfl ?_
  refine gI_Md_count X hw lk_Md_140 d_Md_add_32 hF (fun x4 hF => ?_)
  refine lv_iconst (v := 1) hx hb d_Md_add_35 (by decide) ?_
  refine lv_iadd hx hb d_Md_add_36 ?_
  refine pI_Md_count X hw lk_Md_140 d_Md_add_37 hF (fun σ H locs hF hw => ?_)
  refine lv_aload_n hx hb d_Md_add_40 rfl (lv_at hl 0 rfl) ?_
  refine gI_Md_count X hw lk_Md_140 d_Md_add_41 hF (fun x5 hF => ?_)
  exact hend _ _ _ _ _ _ d_Md_add_44 hF hw
section
variable {p : Program} {l : Launch} {e : Env} {R : Room} {s : State} {m : MethodId} {args : Array Value} {below : List Frame} {meth : Method} {c : Code} {H : Heap} {locs : List Loc} {cells slots : Nat} {Q : State → Prop}
variable {cc : ByteArray} {pc nL ix : Nat} {ls : Array Slot} {rest : List Value} {own : String} {D : va_G} {A : Nat → Prop} {h : Nat → Nat} {cA : Nat → ClassId} {σ : fx_S} {β : Type} {res : β × fx_S}
theorem k_Md_add {v1 : Int32} {v2 : Int32} {v3 : Int64} (X : fx_X p m c cc nL s args own D fx_cl (fx_tys cA) fx_g fx_G A) (hw : fx_B D fx_cl (rf_ws h cA) A s.heap σ H locs) (lk : Cond.methodLink own ix y_Md_add ∈ fx_g) (hdg : decode cc pc = .ok (.invokevirtual ix, 3)) (hsize : ls.size = nL) (hW : 2 * (F0 m pc ls (.long v3 :: .int v2 :: .int v1 :: .ref (h 0) :: rest)).monitorRoom + (rest.map fun v => v.category).sum ≤ 8) (hR : 0 + 1 ≤ R.frames ∧ 8 + (5 + 11) + 0 ≤ R.locals) (hf : cells ≤ R.cells ∧ slots ≤ R.slots) {k : Int32 → fx_M β} (hF : fx_bnd (F_Md_add v1 v2 v3) k σ = some res) (kk : ∀ (r : Int32) (σ' : fx_S) (H' : Heap) (locs' : List Loc), k r σ' = some res → fx_B D fx_cl (rf_ws h cA) A s.heap σ' H' locs' → W p l e R s m args below meth c H' locs' cells slots Q (F0 m (pc + 3) ls (.int r :: rest))) : W p l e R s m args below meth c H locs cells slots Q (F0 m pc ls (.long v3 :: .int v2 :: .int v1 :: .ref (h 0) :: rest)) :=
  fx_call_i X hw (c_Md_add l D h cA v1 v2 v3) (fx_cwV X lk hg_Md_add fx_gok (rm := { frames := 0, cells := 0, slots := 0, locals := 0 }) rfl rfl (by decide +kernel) hR) (va_recv X.2.1 hw.1 (ci := 8) (q0 := 0) rfl rfl) (n := 3) rfl hdg hsize rfl hW hf hF kk
end
set_option maxHeartbeats 4000000 in
set_option maxRecDepth 100000 in
theorem c_Md_operand (l : Launch) (D : va_G) (h : Nat → Nat) (cA : Nat → ClassId) (v1 : Int64) : fx_Mi l y_Md_operand b_Md_operand 3 (some .int) { frames := 2, cells := 0, slots := 0, locals := 42 } D fx_cl (fx_tys cA) fx_g fx_G (rf_ws h cA) [.ref (h 0), .long v1] (F_Md_operand v1) := by
  refine fx_start_i fx_G_ok (by decide) (Nat.le_of_ble_eq_true rfl) ?_
  intro p e s m args below meth c A ls σ res Q hF X hw hl hend
  have hx := X.1.1
  have hb := X.1.2.1
  have hl : lv_has ls 3 [(0, .ref (h 0)), (1, .long v1)] := hl
  unfold F_Md_operand at hF
  have h23 : ∀ (v1 : Int64) (t0 : Int32) (σ : fx_S) (H : Heap) (locs : List Loc) (ls : Array Slot), F_Md_operand_J23 v1 t0 σ = some res → fx_B D fx_cl (rf_ws h cA) A s.heap σ H locs → lv_has ls 3 [(0, .ref (h 0)), (1, .long v1)] → W p l e { frames := 2, cells := 0, slots := 0, locals := 42 } s m args below meth c H locs 0 0 Q (F0 m 23 ls [.int t0, .ref (h 0)]) := by
    intro v1 t0 σ H locs ls hF hw hl
    unfold F_Md_operand_J23 at hF
    refine k_Md_isGood X hw lk_Md_124 d_Md_operand_23 hl.1 (lv_room (Nat.le_of_ble_eq_true rfl)) ⟨Nat.le_of_ble_eq_true rfl, Nat.le_of_ble_eq_true rfl⟩ ⟨Nat.zero_le _, Nat.zero_le _⟩ hF (fun x2 σ H locs hF hw => ?_)
    refine lv_if_eq (tgt := 39) hx hb d_Md_operand_26 (by decide) (fun hc => ?_) (fun hc => ?_)
    · have hF := fx_it hc hF
      refine lv_iconst (v := 0) hx hb d_Md_operand_39 (by decide) ?_
      exact hend _ _ _ _ _ _ d_Md_operand_40 hF hw
    · have hF := fx_if hc hF
      refine lv_aload_n hx hb d_Md_operand_29 rfl (lv_at hl 0 rfl) ?_
      refine lv_iconst (v := 0) hx hb d_Md_operand_30 (by decide) ?_
      refine lv_iconst (v := (-1)) hx hb d_Md_operand_31 (by decide) ?_
      refine lv_lload_n hx hb d_Md_operand_32 rfl (lv_at hl 1 rfl) ?_
      refine k_Md_add X hw lk_Md_158 d_Md_operand_33 hl.1 (lv_room (Nat.le_of_ble_eq_true rfl)) ⟨Nat.le_of_ble_eq_true rfl, Nat.le_of_ble_eq_true rfl⟩ ⟨Nat.zero_le _, Nat.zero_le _⟩ hF (fun x3 σ H locs hF hw => ?_)
      refine lv_goto (tgt := 40) hx hb d_Md_operand_36 (by decide) ?_
      exact hend _ _ _ _ _ _ d_Md_operand_40 hF hw
  have h18 : ∀ (v1 : Int64) (σ : fx_S) (H : Heap) (locs : List Loc) (ls : Array Slot), F_Md_operand_J18 v1 σ = some res → fx_B D fx_cl (rf_ws h cA) A s.heap σ H locs → lv_has ls 3 [(0, .ref (h 0)), (1, .long v1)] → W p l e { frames := 2, cells := 0, slots := 0, locals := 42 } s m args below meth c H locs 0 0 Q (F0 m 18 ls [.ref (h 0)]) := by
    intro v1 σ H locs ls hF hw hl
    unfold F_Md_operand_J18 at hF
    refine lv_iconst (v := 1) hx hb d_Md_operand_18 (by decide) ?_
    refine lv_goto (tgt := 23) hx hb d_Md_operand_19 (by decide) ?_
    exact h23 v1 1 _ _ _ _ hF hw (lv_sub hl [0, 1] rfl)
  refine lv_aload_n hx hb d_Md_operand_0 rfl (lv_at hl 0 rfl) ?_
  refine lv_aload_n hx hb d_Md_operand_1 rfl (lv_at hl 0 rfl) ?_
  refine k_Md_isDue X hw lk_Md_154 d_Md_operand_2 hl.1 (lv_room (Nat.le_of_ble_eq_true rfl)) ⟨Nat.le_of_ble_eq_true rfl, Nat.le_of_ble_eq_true rfl⟩ ⟨Nat.zero_le _, Nat.zero_le _⟩ hF (fun x1 σ H locs hF hw => ?_)
  refine lv_if_eq (tgt := 18) hx hb d_Md_operand_5 (by decide) (fun hc => ?_) (fun hc => ?_)
  · have hF := fx_it hc hF
    exact h18 v1 _ _ _ _ hF hw (lv_sub hl [0, 1] rfl)
  · have hF := fx_if hc hF
    refine lv_aload_n hx hb d_Md_operand_8 rfl (lv_at hl 0 rfl) ?_
    refine gI_Md_count X hw lk_Md_140 d_Md_operand_9 hF (fun x4 hF => ?_)
    refine lv_sipush (v := 200) hx hb d_Md_operand_12 (by decide) ?_
    refine lv_icmp_ne (tgt := 22) hx hb d_Md_operand_15 (by decide) (fun hc => ?_) (fun hc => ?_)
    · have hF := fx_if hc hF
      refine lv_iconst (v := 0) hx hb d_Md_operand_22 (by decide) ?_
      exact h23 v1 0 _ _ _ _ hF hw (lv_sub hl [0, 1] rfl)
    · have hF := fx_it hc hF
      exact h18 v1 _ _ _ _ hF hw (lv_sub hl [0, 1] rfl)
section
variable {p : Program} {l : Launch} {e : Env} {R : Room} {s : State} {m : MethodId} {args : Array Value} {below : List Frame} {meth : Method} {c : Code} {H : Heap} {locs : List Loc} {cells slots : Nat} {Q : State → Prop}
variable {cc : ByteArray} {pc nL ix : Nat} {ls : Array Slot} {rest : List Value} {own : String} {D : va_G} {A : Nat → Prop} {h : Nat → Nat} {cA : Nat → ClassId} {σ : fx_S} {β : Type} {res : β × fx_S}
theorem k_Md_operand {v1 : Int64} (X : fx_X p m c cc nL s args own D fx_cl (fx_tys cA) fx_g fx_G A) (hw : fx_B D fx_cl (rf_ws h cA) A s.heap σ H locs) (lk : Cond.methodLink own ix y_Md_operand ∈ fx_g) (hdg : decode cc pc = .ok (.invokevirtual ix, 3)) (hsize : ls.size = nL) (hW : 2 * (F0 m pc ls (.long v1 :: .ref (h 0) :: rest)).monitorRoom + (rest.map fun v => v.category).sum ≤ 8) (hR : 2 + 1 ≤ R.frames ∧ 8 + (3 + 11) + 42 ≤ R.locals) (hf : cells ≤ R.cells ∧ slots ≤ R.slots) {k : Int32 → fx_M β} (hF : fx_bnd (F_Md_operand v1) k σ = some res) (kk : ∀ (r : Int32) (σ' : fx_S) (H' : Heap) (locs' : List Loc), k r σ' = some res → fx_B D fx_cl (rf_ws h cA) A s.heap σ' H' locs' → W p l e R s m args below meth c H' locs' cells slots Q (F0 m (pc + 3) ls (.int r :: rest))) : W p l e R s m args below meth c H locs cells slots Q (F0 m pc ls (.long v1 :: .ref (h 0) :: rest)) :=
  fx_call_i X hw (c_Md_operand l D h cA v1) (fx_cwV X lk hg_Md_operand fx_gok (rm := { frames := 2, cells := 0, slots := 0, locals := 42 }) rfl rfl (by decide +kernel) hR) (va_recv X.2.1 hw.1 (ci := 8) (q0 := 0) rfl rfl) (n := 1) rfl hdg hsize rfl hW hf hF kk
end
set_option maxHeartbeats 4000000 in
set_option maxRecDepth 100000 in
theorem c_Md_operator (l : Launch) (D : va_G) (h : Nat → Nat) (cA : Nat → ClassId) (v1 : Int32) : fx_Mi l y_Md_operator b_Md_operator 4 (some .int) { frames := 2, cells := 0, slots := 0, locals := 42 } D fx_cl (fx_tys cA) fx_g fx_G (rf_ws h cA) [.ref (h 0), .int v1] (F_Md_operator v1) := by
  refine fx_start_i fx_G_ok (by decide) (Nat.le_of_ble_eq_true rfl) ?_
  intro p e s m args below meth c A ls σ res Q hF X hw hl hend
  have hx := X.1.1
  have hb := X.1.2.1
  have hl : lv_has ls 4 [(0, .ref (h 0)), (1, .int v1)] := hl
  unfold F_Md_operator at hF
  have h136 : ∀ (v1 : Int32) (t0 : Int32) (σ : fx_S) (H : Heap) (locs : List Loc) (ls : Array Slot), F_Md_operator_J136 v1 t0 σ = some res → fx_B D fx_cl (rf_ws h cA) A s.heap σ H locs → lv_has ls 4 [(1, .int v1)] → W p l e { frames := 2, cells := 0, slots := 0, locals := 42 } s m args below meth c H locs 0 0 Q (F0 m 136 ls [.int t0, .ref (h 0)]) := by
    intro v1 t0 σ H locs ls hF hw hl
    unfold F_Md_operator_J136 at hF
    refine lv_iload_n hx hb d_Md_operator_136 rfl (lv_at hl 0 rfl) ?_
    refine lv_lconst (v := 0) hx hb d_Md_operator_137 (by decide) ?_
    refine k_Md_add X hw lk_Md_158 d_Md_operator_138 hl.1 (lv_room (Nat.le_of_ble_eq_true rfl)) ⟨Nat.le_of_ble_eq_true rfl, Nat.le_of_ble_eq_true rfl⟩ ⟨Nat.zero_le _, Nat.zero_le _⟩ hF (fun x6 σ H locs hF hw => ?_)
    exact hend _ _ _ _ _ _ d_Md_operator_141 hF hw
  have h118 : ∀ (v1 : Int32) (v3 : Int32) (t0 : Int32) (σ : fx_S) (H : Heap) (locs : List Loc) (ls : Array Slot), F_Md_operator_J118 v1 v3 t0 σ = some res → fx_B D fx_cl (rf_ws h cA) A s.heap σ H locs → lv_has ls 4 [(0, .ref (h 0)), (1, .int v1), (3, .int v3)] → W p l e { frames := 2, cells := 0, slots := 0, locals := 42 } s m args below meth c H locs 0 0 Q (F0 m 118 ls [.int t0, .ref (h 0)]) := by
    intro v1 v3 t0 σ H locs ls hF hw hl
    unfold F_Md_operator_J118 at hF
    refine k_Md_isGood X hw lk_Md_124 d_Md_operator_118 hl.1 (lv_room (Nat.le_of_ble_eq_true rfl)) ⟨Nat.le_of_ble_eq_true rfl, Nat.le_of_ble_eq_true rfl⟩ ⟨Nat.zero_le _, Nat.zero_le _⟩ hF (fun x5 σ H locs hF hw => ?_)
    refine lv_if_ne (tgt := 126) hx hb d_Md_operator_121 (by decide) (fun hc => ?_) (fun hc => ?_)
    · have hF := fx_if hc hF
      refine lv_aload_n hx hb d_Md_operator_126 rfl (lv_at hl 0 rfl) ?_
      refine lv_iload_n hx hb d_Md_operator_127 rfl (lv_at hl 2 rfl) ?_
      refine lv_if_eq (tgt := 135) hx hb d_Md_operator_128 (by decide) (fun hc => ?_) (fun hc => ?_)
      · have hF := fx_it hc hF
        refine lv_iconst (v := 1) hx hb d_Md_operator_135 (by decide) ?_
        exact h136 v1 1 _ _ _ _ hF hw (lv_sub hl [1] rfl)
      · have hF := fx_if hc hF
        refine lv_iconst (v := 2) hx hb d_Md_operator_131 (by decide) ?_
        refine lv_goto (tgt := 136) hx hb d_Md_operator_132 (by decide) ?_
        exact h136 v1 2 _ _ _ _ hF hw (lv_sub hl [1] rfl)
    · have hF := fx_it hc hF
      refine lv_iconst (v := 0) hx hb d_Md_operator_124 (by decide) ?_
      exact hend _ _ _ _ _ _ d_Md_operator_125 hF hw
  have h97 : ∀ (v1 : Int32) (v2 : Int32) (v3 : Int32) (σ : fx_S) (H : Heap) (locs : List Loc) (ls : Array Slot), F_Md_operator_J97 v1 v2 v3 σ = some res → fx_B D fx_cl (rf_ws h cA) A s.heap σ H locs → lv_has ls 4 [(0, .ref (h 0)), (1, .int v1), (2, .int v2), (3, .int v3)] → W p l e { frames := 2, cells := 0, slots := 0, locals := 42 } s m args below meth c H locs 0 0 Q (F0 m 97 ls []) := by
    intro v1 v2 v3 σ H locs ls hF hw hl
    unfold F_Md_operator_J97 at hF
    refine lv_aload_n hx hb d_Md_operator_97 rfl (lv_at hl 0 rfl) ?_
    refine lv_iload_n hx hb d_Md_operator_98 rfl (lv_at hl 1 rfl) ?_
    refine k_Md_isOperator X hw lk_Md_127 d_Md_operator_99 hl.1 (lv_room (Nat.le_of_ble_eq_true rfl)) ⟨Nat.le_of_ble_eq_true rfl, Nat.le_of_ble_eq_true rfl⟩ ⟨Nat.zero_le _, Nat.zero_le _⟩ hF (fun x4 σ H locs hF hw => ?_)
    refine lv_if_ne (tgt := 109) hx hb d_Md_operator_102 (by decide) (fun hc => ?_) (fun hc => ?_)
    · have hF := fx_if hc hF
      refine lv_iload_n hx hb d_Md_operator_109 rfl (lv_at hl 2 rfl) ?_
      refine lv_if_eq (tgt := 117) hx hb d_Md_operator_110 (by decide) (fun hc => ?_) (fun hc => ?_)
      · have hF := fx_it hc hF
        refine lv_iconst (v := 2) hx hb d_Md_operator_117 (by decide) ?_
        exact h118 v1 v3 2 _ _ _ _ hF hw (lv_sub hl [0, 1, 3] rfl)
      · have hF := fx_if hc hF
        refine lv_iconst (v := 0) hx hb d_Md_operator_113 (by decide) ?_
        refine lv_goto (tgt := 118) hx hb d_Md_operator_114 (by decide) ?_
        exact h118 v1 v3 0 _ _ _ _ hF hw (lv_sub hl [0, 1, 3] rfl)
    · have hF := fx_it hc hF
      refine lv_iconst (v := 1) hx hb d_Md_operator_105 (by decide) ?_
      refine lv_goto (tgt := 118) hx hb d_Md_operator_106 (by decide) ?_
      exact h118 v1 v3 1 _ _ _ _ hF hw (lv_sub hl [0, 1, 3] rfl)
  have h96 : ∀ (v1 : Int32) (v3 : Int32) (t0 : Int32) (σ : fx_S) (H : Heap) (locs : List Loc) (ls : Array Slot), F_Md_operator_J96 v1 v3 t0 σ = some res → fx_B D fx_cl (rf_ws h cA) A s.heap σ H locs → lv_has ls 4 [(0, .ref (h 0)), (1, .int v1), (3, .int v3)] → W p l e { frames := 2, cells := 0, slots := 0, locals := 42 } s m args below meth c H locs 0 0 Q (F0 m 96 ls [.int t0]) := by
    intro v1 v3 t0 σ H locs ls hF hw hl
    unfold F_Md_operator_J96 at hF
    refine lv_istore_n (lv' := [(2, .int t0), (0, .ref (h 0)), (1, .int v1), (3, .int v3)]) hx hb d_Md_operator_96 rfl hl (by decide) rfl (fun ls hl => ?_)
    exact h97 v1 t0 v3 _ _ _ _ hF hw (lv_sub hl [1, 2, 0, 3] rfl)
  have h95 : ∀ (v1 : Int32) (v3 : Int32) (σ : fx_S) (H : Heap) (locs : List Loc) (ls : Array Slot), F_Md_operator_J95 v1 v3 σ = some res → fx_B D fx_cl (rf_ws h cA) A s.heap σ H locs → lv_has ls 4 [(0, .ref (h 0)), (1, .int v1), (3, .int v3)] → W p l e { frames := 2, cells := 0, slots := 0, locals := 42 } s m args below meth c H locs 0 0 Q (F0 m 95 ls []) := by
    intro v1 v3 σ H locs ls hF hw hl
    unfold F_Md_operator_J95 at hF
    refine lv_iconst (v := 0) hx hb d_Md_operator_95 (by decide) ?_
    exact h96 v1 v3 0 _ _ _ _ hF hw (lv_sub hl [0, 1, 2] rfl)
  have h61 : ∀ (v1 : Int32) (v3 : Int32) (t0 : Int32) (σ : fx_S) (H : Heap) (locs : List Loc) (ls : Array Slot), F_Md_operator_J61 v1 v3 t0 σ = some res → fx_B D fx_cl (rf_ws h cA) A s.heap σ H locs → lv_has ls 4 [(0, .ref (h 0)), (1, .int v1), (3, .int v3)] → W p l e { frames := 2, cells := 0, slots := 0, locals := 42 } s m args below meth c H locs 0 0 Q (F0 m 61 ls [.int t0]) := by
    intro v1 v3 t0 σ H locs ls hF hw hl
    unfold F_Md_operator_J61 at hF
    refine lv_istore_n (lv' := [(2, .int t0), (0, .ref (h 0)), (1, .int v1), (3, .int v3)]) hx hb d_Md_operator_61 rfl hl (by decide) rfl (fun ls hl => ?_)
    refine lv_goto (tgt := 97) hx hb d_Md_operator_62 (by decide) ?_
    exact h97 v1 t0 v3 _ _ _ _ hF hw (lv_sub hl [1, 2, 0, 3] rfl)
  have h60 : ∀ (v1 : Int32) (v3 : Int32) (σ : fx_S) (H : Heap) (locs : List Loc) (ls : Array Slot), F_Md_operator_J60 v1 v3 σ = some res → fx_B D fx_cl (rf_ws h cA) A s.heap σ H locs → lv_has ls 4 [(0, .ref (h 0)), (1, .int v1), (3, .int v3)] → W p l e { frames := 2, cells := 0, slots := 0, locals := 42 } s m args below meth c H locs 0 0 Q (F0 m 60 ls []) := by
    intro v1 v3 σ H locs ls hF hw hl
    unfold F_Md_operator_J60 at hF
    refine lv_iconst (v := 0) hx hb d_Md_operator_60 (by decide) ?_
    exact h61 v1 v3 0 _ _ _ _ hF hw (lv_sub hl [0, 1, 2] rfl)
  have h56 : ∀ (v1 : Int32) (v3 : Int32) (σ : fx_S) (H : Heap) (locs : List Loc) (ls : Array Slot), F_Md_operator_J56 v1 v3 σ = some res → fx_B D fx_cl (rf_ws h cA) A s.heap σ H locs → lv_has ls 4 [(0, .ref (h 0)), (1, .int v1), (3, .int v3)] → W p l e { frames := 2, cells := 0, slots := 0, locals := 42 } s m args below meth c H locs 0 0 Q (F0 m 56 ls []) := by
    intro v1 v3 σ H locs ls hF hw hl
    unfold F_Md_operator_J56 at hF
    refine lv_iconst (v := 1) hx hb d_Md_operator_56 (by decide) ?_
    refine lv_goto (tgt := 61) hx hb d_Md_operator_57 (by decide) ?_
    exact h61 v1 v3 1 _ _ _ _ hF hw (lv_sub hl [0, 1, 2] rfl)
  have h32 : ∀ (v1 : Int32) (v2 : Int32) (t0 : Int32) (σ : fx_S) (H : Heap) (locs : List Loc) (ls : Array Slot), F_Md_operator_J32 v1 v2 t0 σ = some res → fx_B D fx_cl (rf_ws h cA) A s.heap σ H locs → lv_has ls 4 [(0, .ref (h 0)), (1, .int v1), (2, .int v2)] → W p l e { frames := 2, cells := 0, slots := 0, locals := 42 } s m args below meth c H locs 0 0 Q (F0 m 32 ls [.int t0]) := by
    intro v1 v2 t0 σ H locs ls hF hw hl
    unfold F_Md_operator_J32 at hF
    refine lv_istore_n (lv' := [(3, .int t0), (0, .ref (h 0)), (1, .int v1), (2, .int v2)]) hx hb d_Md_operator_32 rfl hl (by decide) rfl (fun ls hl => ?_)
    refine lv_iload_n hx hb d_Md_operator_33 rfl (lv_at hl 0 rfl) ?_
    refine lv_if_eq (tgt := 65) hx hb d_Md_operator_34 (by decide) (fun hc => ?_) (fun hc => ?_)
    · have hF := fx_it hc hF
      refine lv_aload_n hx hb d_Md_operator_65 rfl (lv_at hl 1 rfl) ?_
      refine k_Md_isDue X hw lk_Md_154 d_Md_operator_66 hl.1 (lv_room (Nat.le_of_ble_eq_true rfl)) ⟨Nat.le_of_ble_eq_true rfl, Nat.le_of_ble_eq_true rfl⟩ ⟨Nat.zero_le _, Nat.zero_le _⟩ hF (fun x3 σ H locs hF hw => ?_)
      refine lv_if_eq (tgt := 97) hx hb d_Md_operator_69 (by decide) (fun hc => ?_) (fun hc => ?_)
      · have hF := fx_it hc hF
        exact h97 v1 v2 t0 _ _ _ _ hF hw (lv_sub hl [1, 2, 3, 0] rfl)
      · have hF := fx_if hc hF
        refine lv_iload_n hx hb d_Md_operator_72 rfl (lv_at hl 3 rfl) ?_
        refine lv_if_eq (tgt := 95) hx hb d_Md_operator_73 (by decide) (fun hc => ?_) (fun hc => ?_)
        · have hF := fx_it hc hF
          exact h95 v1 t0 _ _ _ _ hF hw (lv_sub hl [1, 2, 0] rfl)
        · have hF := fx_if hc hF
          refine lv_aload_n hx hb d_Md_operator_76 rfl (lv_at hl 1 rfl) ?_
          refine gI_Md_isPattern X hw lk_Md_146 d_Md_operator_77 hF (fun x7 hF => ?_)
          refine lv_if_ne (tgt := 95) hx hb d_Md_operator_80 (by decide) (fun hc => ?_) (fun hc => ?_)
          · have hF := fx_if hc hF
            exact h95 v1 t0 _ _ _ _ hF hw (lv_sub hl [1, 2, 0] rfl)
          · have hF := fx_it hc hF
            refine lv_aload_n hx hb d_Md_operator_83 rfl (lv_at hl 1 rfl) ?_
            refine k_Md_lastKind X hw lk_Md_150 d_Md_operator_84 hl.1 (lv_room (Nat.le_of_ble_eq_true rfl)) ⟨Nat.le_of_ble_eq_true rfl, Nat.le_of_ble_eq_true rfl⟩ ⟨Nat.zero_le _, Nat.zero_le _⟩ hF (fun x8 σ H locs hF hw => ?_)
            refine lv_iconst (v := 3) hx hb d_Md_operator_87 (by decide) ?_
            refine lv_icmp_ne (tgt := 95) hx hb d_Md_operator_88 (by decide) (fun hc => ?_) (fun hc => ?_)
            · have hF := fx_if hc hF
              exact h95 v1 t0 _ _ _ _ hF hw (lv_sub hl [1, 2, 0] rfl)
            · have hF := fx_it hc hF
              refine lv_iconst (v := 1) hx hb d_Md_operator_91 (by decide) ?_
              refine lv_goto (tgt := 96) hx hb d_Md_operator_92 (by decide) ?_
              exact h96 v1 t0 1 _ _ _ _ hF hw (lv_sub hl [1, 2, 0] rfl)
    · have hF := fx_if hc hF
      refine lv_iload_n hx hb d_Md_operator_37 rfl (lv_at hl 3 rfl) ?_
      refine lv_if_eq (tgt := 60) hx hb d_Md_operator_38 (by decide) (fun hc => ?_) (fun hc => ?_)
      · have hF := fx_it hc hF
        exact h60 v1 t0 _ _ _ _ hF hw (lv_sub hl [1, 2, 0] rfl)
      · have hF := fx_if hc hF
        refine lv_aload_n hx hb d_Md_operator_41 rfl (lv_at hl 1 rfl) ?_
        refine gI_Md_isPattern X hw lk_Md_146 d_Md_operator_42 hF (fun x9 hF => ?_)
        refine lv_if_eq (tgt := 56) hx hb d_Md_operator_45 (by decide) (fun hc => ?_) (fun hc => ?_)
        · have hF := fx_it hc hF
          exact h56 v1 t0 _ _ _ _ hF hw (lv_sub hl [1, 2, 0] rfl)
        · have hF := fx_if hc hF
          refine lv_aload_n hx hb d_Md_operator_48 rfl (lv_at hl 1 rfl) ?_
          refine k_Md_lastKind X hw lk_Md_150 d_Md_operator_49 hl.1 (lv_room (Nat.le_of_ble_eq_true rfl)) ⟨Nat.le_of_ble_eq_true rfl, Nat.le_of_ble_eq_true rfl⟩ ⟨Nat.zero_le _, Nat.zero_le _⟩ hF (fun x10 σ H locs hF hw => ?_)
          refine lv_iconst (v := 2) hx hb d_Md_operator_52 (by decide) ?_
          refine lv_icmp_eq (tgt := 60) hx hb d_Md_operator_53 (by decide) (fun hc => ?_) (fun hc => ?_)
          · have hF := fx_it hc hF
            exact h60 v1 t0 _ _ _ _ hF hw (lv_sub hl [1, 2, 0] rfl)
          · have hF := fx_if hc hF
            exact h56 v1 t0 _ _ _ _ hF hw (lv_sub hl [1, 2, 0] rfl)
  have h31 : ∀ (v1 : Int32) (v2 : Int32) (σ : fx_S) (H : Heap) (locs : List Loc) (ls : Array Slot), F_Md_operator_J31 v1 v2 σ = some res → fx_B D fx_cl (rf_ws h cA) A s.heap σ H locs → lv_has ls 4 [(0, .ref (h 0)), (1, .int v1), (2, .int v2)] → W p l e { frames := 2, cells := 0, slots := 0, locals := 42 } s m args below meth c H locs 0 0 Q (F0 m 31 ls []) := by
    intro v1 v2 σ H locs ls hF hw hl
    unfold F_Md_operator_J31 at hF
    refine lv_iconst (v := 0) hx hb d_Md_operator_31 (by decide) ?_
    exact h32 v1 v2 0 _ _ _ _ hF hw (lv_sub hl [0, 1, 2] rfl)
  have h15 : ∀ (v1 : Int32) (t0 : Int32) (σ : fx_S) (H : Heap) (locs : List Loc) (ls : Array Slot), F_Md_operator_J15 v1 t0 σ = some res → fx_B D fx_cl (rf_ws h cA) A s.heap σ H locs → lv_has ls 4 [(0, .ref (h 0)), (1, .int v1)] → W p l e { frames := 2, cells := 0, slots := 0, locals := 42 } s m args below meth c H locs 0 0 Q (F0 m 15 ls [.int t0]) := by
    intro v1 t0 σ H locs ls hF hw hl
    unfold F_Md_operator_J15 at hF
    refine lv_istore_n (lv' := [(2, .int t0), (0, .ref (h 0)), (1, .int v1)]) hx hb d_Md_operator_15 rfl hl (by decide) rfl (fun ls hl => ?_)
    refine lv_aload_n hx hb d_Md_operator_16 rfl (lv_at hl 1 rfl) ?_
    refine k_Md_isDue X hw lk_Md_154 d_Md_operator_17 hl.1 (lv_room (Nat.le_of_ble_eq_true rfl)) ⟨Nat.le_of_ble_eq_true rfl, Nat.le_of_ble_eq_true rfl⟩ ⟨Nat.zero_le _, Nat.zero_le _⟩ hF (fun x2 σ H locs hF hw => ?_)
    refine lv_if_eq (tgt := 31) hx hb d_Md_operator_20 (by decide) (fun hc => ?_) (fun hc => ?_)
    · have hF := fx_it hc hF
      exact h31 v1 t0 _ _ _ _ hF hw (lv_sub hl [1, 2, 0] rfl)
    · have hF := fx_if hc hF
      refine lv_iload_n hx hb d_Md_operator_23 rfl (lv_at hl 2 rfl) ?_
      refine lv_if_ne (tgt := 31) hx hb d_Md_operator_24 (by decide) (fun hc => ?_) (fun hc => ?_)
      · have hF := fx_if hc hF
        exact h31 v1 t0 _ _ _ _ hF hw (lv_sub hl [1, 2, 0] rfl)
      · have hF := fx_it hc hF
        refine lv_iconst (v := 1) hx hb d_Md_operator_27 (by decide) ?_
        refine lv_goto (tgt := 32) hx hb d_Md_operator_28 (by decide) ?_
        exact h32 v1 t0 1 _ _ _ _ hF hw (lv_sub hl [1, 2, 0] rfl)
  refine lv_aload_n hx hb d_Md_operator_0 rfl (lv_at hl 0 rfl) ?_
  refine gI_Md_count X hw lk_Md_140 d_Md_operator_1 hF (fun x1 hF => ?_)
  refine lv_sipush (v := 200) hx hb d_Md_operator_4 (by decide) ?_
  refine lv_icmp_ge (tgt := 14) hx hb d_Md_operator_7 (by decide) (fun hc => ?_) (fun hc => ?_)
  · have hF := fx_it hc hF
    refine lv_iconst (v := 0) hx hb d_Md_operator_14 (by decide) ?_
    exact h15 v1 0 _ _ _ _ hF hw (lv_sub hl [0, 1] rfl)
  · have hF := fx_if hc hF
    refine lv_iconst (v := 1) hx hb d_Md_operator_10 (by decide) ?_
    refine lv_goto (tgt := 15) hx hb d_Md_operator_11 (by decide) ?_
    exact h15 v1 1 _ _ _ _ hF hw (lv_sub hl [0, 1] rfl)
section
variable {p : Program} {l : Launch} {e : Env} {R : Room} {s : State} {m : MethodId} {args : Array Value} {below : List Frame} {meth : Method} {c : Code} {H : Heap} {locs : List Loc} {cells slots : Nat} {Q : State → Prop}
variable {cc : ByteArray} {pc nL ix : Nat} {ls : Array Slot} {rest : List Value} {own : String} {D : va_G} {A : Nat → Prop} {h : Nat → Nat} {cA : Nat → ClassId} {σ : fx_S} {β : Type} {res : β × fx_S}
theorem k_Md_operator {v1 : Int32} (X : fx_X p m c cc nL s args own D fx_cl (fx_tys cA) fx_g fx_G A) (hw : fx_B D fx_cl (rf_ws h cA) A s.heap σ H locs) (lk : Cond.methodLink own ix y_Md_operator ∈ fx_g) (hdg : decode cc pc = .ok (.invokevirtual ix, 3)) (hsize : ls.size = nL) (hW : 2 * (F0 m pc ls (.int v1 :: .ref (h 0) :: rest)).monitorRoom + (rest.map fun v => v.category).sum ≤ 8) (hR : 2 + 1 ≤ R.frames ∧ 8 + (4 + 11) + 42 ≤ R.locals) (hf : cells ≤ R.cells ∧ slots ≤ R.slots) {k : Int32 → fx_M β} (hF : fx_bnd (F_Md_operator v1) k σ = some res) (kk : ∀ (r : Int32) (σ' : fx_S) (H' : Heap) (locs' : List Loc), k r σ' = some res → fx_B D fx_cl (rf_ws h cA) A s.heap σ' H' locs' → W p l e R s m args below meth c H' locs' cells slots Q (F0 m (pc + 3) ls (.int r :: rest))) : W p l e R s m args below meth c H locs cells slots Q (F0 m pc ls (.int v1 :: .ref (h 0) :: rest)) :=
  fx_call_i X hw (c_Md_operator l D h cA v1) (fx_cwV X lk hg_Md_operator fx_gok (rm := { frames := 2, cells := 0, slots := 0, locals := 42 }) rfl rfl (by decide +kernel) hR) (va_recv X.2.1 hw.1 (ci := 8) (q0 := 0) rfl rfl) (n := 1) rfl hdg hsize rfl hW hf hF kk
end
set_option maxHeartbeats 4000000 in
set_option maxRecDepth 100000 in
theorem c_Md_open (l : Launch) (D : va_G) (h : Nat → Nat) (cA : Nat → ClassId) : fx_Mi l y_Md_open b_Md_open 2 (some .int) { frames := 2, cells := 0, slots := 0, locals := 42 } D fx_cl (fx_tys cA) fx_g fx_G (rf_ws h cA) [.ref (h 0)] (F_Md_open) := by
  refine fx_start_i fx_G_ok (by decide) (Nat.le_of_ble_eq_true rfl) ?_
  intro p e s m args below meth c A ls σ res Q hF X hw hl hend
  have hx := X.1.1
  have hb := X.1.2.1
  have hl : lv_has ls 2 [(0, .ref (h 0))] := hl
  unfold F_Md_open at hF
  have h57 : ∀ (t0 : Int32) (σ : fx_S) (H : Heap) (locs : List Loc) (ls : Array Slot), F_Md_open_J57 t0 σ = some res → fx_B D fx_cl (rf_ws h cA) A s.heap σ H locs → lv_has ls 2 [(0, .ref (h 0))] → W p l e { frames := 2, cells := 0, slots := 0, locals := 42 } s m args below meth c H locs 0 0 Q (F0 m 57 ls [.int t0, .ref (h 0)]) := by
    intro t0 σ H locs ls hF hw hl
    unfold F_Md_open_J57 at hF
    refine k_Md_isGood X hw lk_Md_124 d_Md_open_57 hl.1 (lv_room (Nat.le_of_ble_eq_true rfl)) ⟨Nat.le_of_ble_eq_true rfl, Nat.le_of_ble_eq_true rfl⟩ ⟨Nat.zero_le _, Nat.zero_le _⟩ hF (fun x2 σ H locs hF hw => ?_)
    refine lv_if_ne (tgt := 65) hx hb d_Md_open_60 (by decide) (fun hc => ?_) (fun hc => ?_)
    · have hF := fx_if hc hF
      refine lv_aload_n hx hb d_Md_open_65 rfl (lv_at hl 0 rfl) ?_
      refine gR_Md_openAt X hw lk_Md_29 d_Md_open_66 ?_
      refine lv_aload_n hx hb d_Md_open_69 rfl (lv_at hl 0 rfl) ?_
      refine gI_Md_opened X hw lk_Md_143 d_Md_open_70 hF (fun x3 hF => ?_)
      refine lv_aload_n hx hb d_Md_open_73 rfl (lv_at hl 0 rfl) ?_
      refine gI_Md_count X hw lk_Md_140 d_Md_open_74 hF (fun x4 hF => ?_)
      refine sA_Md_openAt X hw d_Md_open_77 hF (fun σ H locs hF hw => ?_)
      refine lv_aload_n hx hb d_Md_open_78 rfl (lv_at hl 0 rfl) ?_
      refine lv_dup hx hb d_Md_open_79 rfl ?_
      refine gI_Md_opened X hw lk_Md_143 d_Md_open_80 hF (fun x5 hF => ?_)
      refine lv_iconst (v := 1) hx hb d_Md_open_83 (by decide) ?_
      refine lv_iadd hx hb d_Md_open_84 ?_
      refine pI_Md_opened X hw lk_Md_143 d_Md_open_85 hF (fun σ H locs hF hw => ?_)
      refine lv_aload_n hx hb d_Md_open_88 rfl (lv_at hl 0 rfl) ?_
      refine lv_iconst (v := 3) hx hb d_Md_open_89 (by decide) ?_
      refine lv_iconst (v := (-1)) hx hb d_Md_open_90 (by decide) ?_
      refine lv_lconst (v := 0) hx hb d_Md_open_91 (by decide) ?_
      refine k_Md_add X hw lk_Md_158 d_Md_open_92 hl.1 (lv_room (Nat.le_of_ble_eq_true rfl)) ⟨Nat.le_of_ble_eq_true rfl, Nat.le_of_ble_eq_true rfl⟩ ⟨Nat.zero_le _, Nat.zero_le _⟩ hF (fun x6 σ H locs hF hw => ?_)
      exact hend _ _ _ _ _ _ d_Md_open_95 hF hw
    · have hF := fx_it hc hF
      refine lv_iconst (v := 0) hx hb d_Md_open_63 (by decide) ?_
      exact hend _ _ _ _ _ _ d_Md_open_64 hF hw
  have h46 : ∀ (t0 : Int32) (σ : fx_S) (H : Heap) (locs : List Loc) (ls : Array Slot), F_Md_open_J46 t0 σ = some res → fx_B D fx_cl (rf_ws h cA) A s.heap σ H locs → lv_has ls 2 [(0, .ref (h 0))] → W p l e { frames := 2, cells := 0, slots := 0, locals := 42 } s m args below meth c H locs 0 0 Q (F0 m 46 ls [.int t0]) := by
    intro t0 σ H locs ls hF hw hl
    unfold F_Md_open_J46 at hF
    refine lv_istore_n (lv' := [(1, .int t0), (0, .ref (h 0))]) hx hb d_Md_open_46 rfl hl (by decide) rfl (fun ls hl => ?_)
    refine lv_aload_n hx hb d_Md_open_47 rfl (lv_at hl 1 rfl) ?_
    refine lv_iload_n hx hb d_Md_open_48 rfl (lv_at hl 0 rfl) ?_
    refine lv_if_eq (tgt := 56) hx hb d_Md_open_49 (by decide) (fun hc => ?_) (fun hc => ?_)
    · have hF := fx_it hc hF
      refine lv_iconst (v := 1) hx hb d_Md_open_56 (by decide) ?_
      exact h57 1 _ _ _ _ hF hw (lv_sub hl [1] rfl)
    · have hF := fx_if hc hF
      refine lv_iconst (v := 0) hx hb d_Md_open_52 (by decide) ?_
      refine lv_goto (tgt := 57) hx hb d_Md_open_53 (by decide) ?_
      exact h57 0 _ _ _ _ hF hw (lv_sub hl [1] rfl)
  have h45 : ∀ (σ : fx_S) (H : Heap) (locs : List Loc) (ls : Array Slot), F_Md_open_J45 σ = some res → fx_B D fx_cl (rf_ws h cA) A s.heap σ H locs → lv_has ls 2 [(0, .ref (h 0))] → W p l e { frames := 2, cells := 0, slots := 0, locals := 42 } s m args below meth c H locs 0 0 Q (F0 m 45 ls []) := by
    intro σ H locs ls hF hw hl
    unfold F_Md_open_J45 at hF
    refine lv_iconst (v := 0) hx hb d_Md_open_45 (by decide) ?_
    exact h46 0 _ _ _ _ hF hw (lv_sub hl [0] rfl)
  have h41 : ∀ (σ : fx_S) (H : Heap) (locs : List Loc) (ls : Array Slot), F_Md_open_J41 σ = some res → fx_B D fx_cl (rf_ws h cA) A s.heap σ H locs → lv_has ls 2 [(0, .ref (h 0))] → W p l e { frames := 2, cells := 0, slots := 0, locals := 42 } s m args below meth c H locs 0 0 Q (F0 m 41 ls []) := by
    intro σ H locs ls hF hw hl
    unfold F_Md_open_J41 at hF
    refine lv_iconst (v := 1) hx hb d_Md_open_41 (by decide) ?_
    refine lv_goto (tgt := 46) hx hb d_Md_open_42 (by decide) ?_
    exact h46 1 _ _ _ _ hF hw (lv_sub hl [0] rfl)
  refine lv_aload_n hx hb d_Md_open_0 rfl (lv_at hl 0 rfl) ?_
  refine k_Md_isDue X hw lk_Md_154 d_Md_open_1 hl.1 (lv_room (Nat.le_of_ble_eq_true rfl)) ⟨Nat.le_of_ble_eq_true rfl, Nat.le_of_ble_eq_true rfl⟩ ⟨Nat.zero_le _, Nat.zero_le _⟩ hF (fun x1 σ H locs hF hw => ?_)
  refine lv_if_eq (tgt := 45) hx hb d_Md_open_4 (by decide) (fun hc => ?_) (fun hc => ?_)
  · have hF := fx_it hc hF
    exact h45 _ _ _ _ hF hw (lv_sub hl [0] rfl)
  · have hF := fx_if hc hF
    refine lv_aload_n hx hb d_Md_open_7 rfl (lv_at hl 0 rfl) ?_
    refine gI_Md_count X hw lk_Md_140 d_Md_open_8 hF (fun x7 hF => ?_)
    refine lv_sipush (v := 200) hx hb d_Md_open_11 (by decide) ?_
    refine lv_icmp_ge (tgt := 45) hx hb d_Md_open_14 (by decide) (fun hc => ?_) (fun hc => ?_)
    · have hF := fx_it hc hF
      exact h45 _ _ _ _ hF hw (lv_sub hl [0] rfl)
    · have hF := fx_if hc hF
      refine lv_aload_n hx hb d_Md_open_17 rfl (lv_at hl 0 rfl) ?_
      refine gI_Md_opened X hw lk_Md_143 d_Md_open_18 hF (fun x8 hF => ?_)
      refine lv_bipush (v := 40) hx hb d_Md_open_21 (by decide) ?_
      refine lv_icmp_ge (tgt := 45) hx hb d_Md_open_23 (by decide) (fun hc => ?_) (fun hc => ?_)
      · have hF := fx_it hc hF
        exact h45 _ _ _ _ hF hw (lv_sub hl [0] rfl)
      · have hF := fx_if hc hF
        refine lv_aload_n hx hb d_Md_open_26 rfl (lv_at hl 0 rfl) ?_
        refine gI_Md_isPattern X hw lk_Md_146 d_Md_open_27 hF (fun x9 hF => ?_)
        refine lv_if_eq (tgt := 41) hx hb d_Md_open_30 (by decide) (fun hc => ?_) (fun hc => ?_)
        · have hF := fx_it hc hF
          exact h41 _ _ _ _ hF hw (lv_sub hl [0] rfl)
        · have hF := fx_if hc hF
          refine lv_aload_n hx hb d_Md_open_33 rfl (lv_at hl 0 rfl) ?_
          refine k_Md_lastKind X hw lk_Md_150 d_Md_open_34 hl.1 (lv_room (Nat.le_of_ble_eq_true rfl)) ⟨Nat.le_of_ble_eq_true rfl, Nat.le_of_ble_eq_true rfl⟩ ⟨Nat.zero_le _, Nat.zero_le _⟩ hF (fun x10 σ H locs hF hw => ?_)
          refine lv_iconst (v := 2) hx hb d_Md_open_37 (by decide) ?_
          refine lv_icmp_eq (tgt := 45) hx hb d_Md_open_38 (by decide) (fun hc => ?_) (fun hc => ?_)
          · have hF := fx_it hc hF
            exact h45 _ _ _ _ hF hw (lv_sub hl [0] rfl)
          · have hF := fx_if hc hF
            exact h41 _ _ _ _ hF hw (lv_sub hl [0] rfl)
section
variable {p : Program} {l : Launch} {e : Env} {R : Room} {s : State} {m : MethodId} {args : Array Value} {below : List Frame} {meth : Method} {c : Code} {H : Heap} {locs : List Loc} {cells slots : Nat} {Q : State → Prop}
variable {cc : ByteArray} {pc nL ix : Nat} {ls : Array Slot} {rest : List Value} {own : String} {D : va_G} {A : Nat → Prop} {h : Nat → Nat} {cA : Nat → ClassId} {σ : fx_S} {β : Type} {res : β × fx_S}
theorem k_Md_open (X : fx_X p m c cc nL s args own D fx_cl (fx_tys cA) fx_g fx_G A) (hw : fx_B D fx_cl (rf_ws h cA) A s.heap σ H locs) (lk : Cond.methodLink own ix y_Md_open ∈ fx_g) (hdg : decode cc pc = .ok (.invokevirtual ix, 3)) (hsize : ls.size = nL) (hW : 2 * (F0 m pc ls (.ref (h 0) :: rest)).monitorRoom + (rest.map fun v => v.category).sum ≤ 8) (hR : 2 + 1 ≤ R.frames ∧ 8 + (2 + 11) + 42 ≤ R.locals) (hf : cells ≤ R.cells ∧ slots ≤ R.slots) {k : Int32 → fx_M β} (hF : fx_bnd (F_Md_open) k σ = some res) (kk : ∀ (r : Int32) (σ' : fx_S) (H' : Heap) (locs' : List Loc), k r σ' = some res → fx_B D fx_cl (rf_ws h cA) A s.heap σ' H' locs' → W p l e R s m args below meth c H' locs' cells slots Q (F0 m (pc + 3) ls (.int r :: rest))) : W p l e R s m args below meth c H locs cells slots Q (F0 m pc ls (.ref (h 0) :: rest)) :=
  fx_call_i X hw (c_Md_open l D h cA) (fx_cwV X lk hg_Md_open fx_gok (rm := { frames := 2, cells := 0, slots := 0, locals := 42 }) rfl rfl (by decide +kernel) hR) (va_recv X.2.1 hw.1 (ci := 8) (q0 := 0) rfl rfl) (n := 0) rfl hdg hsize rfl hW hf hF kk
end
set_option maxHeartbeats 4000000 in
set_option maxRecDepth 100000 in
theorem c_Md_begins (l : Launch) (D : va_G) (h : Nat → Nat) (cA : Nat → ClassId) (v1 : Int32) : fx_Mi l y_Md_begins b_Md_begins 2 (some .boolean) { frames := 0, cells := 0, slots := 0, locals := 0 } D fx_cl (fx_tys cA) fx_g fx_G (rf_ws h cA) [.ref (h 0), .int v1] (F_Md_begins v1) := by
  refine fx_start_z fx_G_ok (by decide) (Nat.le_of_ble_eq_true rfl) ?_
  intro p e s m args below meth c A ls σ res Q hF X hw hl hend
  have hx := X.1.1
  have hb := X.1.2.1
  have hl : lv_has ls 2 [(0, .ref (h 0)), (1, .int v1)] := hl
  unfold F_Md_begins at hF
  refine lv_aload_n hx hb d_Md_begins_0 rfl (lv_at hl 0 rfl) ?_
  refine gR_Md_kinds X hw lk_Md_19 d_Md_begins_1 ?_
  refine lv_iload_n hx hb d_Md_begins_4 rfl (lv_at hl 1 rfl) ?_
  refine lA_Md_kinds X hw d_Md_begins_5 hF (fun x1 hF => ?_)
  refine lv_iconst (v := 1) hx hb d_Md_begins_6 (by decide) ?_
  refine lv_icmp_ne (tgt := 30) hx hb d_Md_begins_7 (by decide) (fun hc => ?_) (fun hc => ?_)
  · have hF := fx_if hc hF
    refine lv_iconst (v := 0) hx hb d_Md_begins_30 (by decide) ?_
    exact hend _ _ _ _ _ _ d_Md_begins_31 hF hw
  · have hF := fx_it hc hF
    refine lv_iload_n hx hb d_Md_begins_10 rfl (lv_at hl 1 rfl) ?_
    refine lv_if_le (tgt := 30) hx hb d_Md_begins_11 (by decide) (fun hc => ?_) (fun hc => ?_)
    · have hF := fx_it hc hF
      refine lv_iconst (v := 0) hx hb d_Md_begins_30 (by decide) ?_
      exact hend _ _ _ _ _ _ d_Md_begins_31 hF hw
    · have hF := fx_if hc hF
      refine lv_aload_n hx hb d_Md_begins_14 rfl (lv_at hl 0 rfl) ?_
      refine gR_Md_kinds X hw lk_Md_19 d_Md_begins_15 ?_
      refine lv_iload_n hx hb d_Md_begins_18 rfl (lv_at hl 1 rfl) ?_
      refine lv_iconst (v := 1) hx hb d_Md_begins_19 (by decide) ?_
      refine lv_isub hx hb d_Md_begins_20 ?_
      refine lA_Md_kinds X hw d_Md_begins_21 hF (fun x2 hF => ?_)
      refine lv_iconst (v := 3) hx hb d_Md_begins_22 (by decide) ?_
      refine lv_icmp_ne (tgt := 30) hx hb d_Md_begins_23 (by decide) (fun hc => ?_) (fun hc => ?_)
      · have hF := fx_if hc hF
        refine lv_iconst (v := 0) hx hb d_Md_begins_30 (by decide) ?_
        exact hend _ _ _ _ _ _ d_Md_begins_31 hF hw
      · have hF := fx_it hc hF
        refine lv_iconst (v := 1) hx hb d_Md_begins_26 (by decide) ?_
        refine lv_goto (tgt := 31) hx hb d_Md_begins_27 (by decide) ?_
        exact hend _ _ _ _ _ _ d_Md_begins_31 hF hw
section
variable {p : Program} {l : Launch} {e : Env} {R : Room} {s : State} {m : MethodId} {args : Array Value} {below : List Frame} {meth : Method} {c : Code} {H : Heap} {locs : List Loc} {cells slots : Nat} {Q : State → Prop}
variable {cc : ByteArray} {pc nL ix : Nat} {ls : Array Slot} {rest : List Value} {own : String} {D : va_G} {A : Nat → Prop} {h : Nat → Nat} {cA : Nat → ClassId} {σ : fx_S} {β : Type} {res : β × fx_S}
theorem k_Md_begins {v1 : Int32} (X : fx_X p m c cc nL s args own D fx_cl (fx_tys cA) fx_g fx_G A) (hw : fx_B D fx_cl (rf_ws h cA) A s.heap σ H locs) (lk : Cond.methodLink own ix y_Md_begins ∈ fx_g) (hdg : decode cc pc = .ok (.invokevirtual ix, 3)) (hsize : ls.size = nL) (hW : 2 * (F0 m pc ls (.int v1 :: .ref (h 0) :: rest)).monitorRoom + (rest.map fun v => v.category).sum ≤ 8) (hR : 0 + 1 ≤ R.frames ∧ 8 + (2 + 11) + 0 ≤ R.locals) (hf : cells ≤ R.cells ∧ slots ≤ R.slots) {k : Int32 → fx_M β} (hF : fx_bnd (F_Md_begins v1) k σ = some res) (kk : ∀ (r : Int32) (σ' : fx_S) (H' : Heap) (locs' : List Loc), k r σ' = some res → fx_B D fx_cl (rf_ws h cA) A s.heap σ' H' locs' → W p l e R s m args below meth c H' locs' cells slots Q (F0 m (pc + 3) ls (.int r :: rest))) : W p l e R s m args below meth c H locs cells slots Q (F0 m pc ls (.int v1 :: .ref (h 0) :: rest)) :=
  fx_call_i X hw (c_Md_begins l D h cA v1) (fx_cwV X lk hg_Md_begins fx_gok (rm := { frames := 0, cells := 0, slots := 0, locals := 0 }) rfl rfl (by decide +kernel) hR) (va_recv X.2.1 hw.1 (ci := 8) (q0 := 0) rfl rfl) (n := 1) rfl hdg hsize rfl hW hf hF kk
end
set_option maxHeartbeats 4000000 in
set_option maxRecDepth 100000 in
theorem c_Md_close (l : Launch) (D : va_G) (h : Nat → Nat) (cA : Nat → ClassId) : fx_Mi l y_Md_close b_Md_close 3 (some .int) { frames := 2, cells := 0, slots := 0, locals := 42 } D fx_cl (fx_tys cA) fx_g fx_G (rf_ws h cA) [.ref (h 0)] (F_Md_close) := by
  refine fx_start_i fx_G_ok (by decide) (Nat.le_of_ble_eq_true rfl) ?_
  intro p e s m args below meth c A ls σ res Q hF X hw hl hend
  have hx := X.1.1
  have hb := X.1.2.1
  have hl : lv_has ls 3 [(0, .ref (h 0))] := hl
  unfold F_Md_close at hF
  have h87 : ∀ (t0 : Int32) (σ : fx_S) (H : Heap) (locs : List Loc) (ls : Array Slot), F_Md_close_J87 t0 σ = some res → fx_B D fx_cl (rf_ws h cA) A s.heap σ H locs → lv_has ls 3 [(0, .ref (h 0))] → W p l e { frames := 2, cells := 0, slots := 0, locals := 42 } s m args below meth c H locs 0 0 Q (F0 m 87 ls [.int t0, .ref (h 0)]) := by
    intro t0 σ H locs ls hF hw hl
    unfold F_Md_close_J87 at hF
    refine k_Md_isGood X hw lk_Md_124 d_Md_close_87 hl.1 (lv_room (Nat.le_of_ble_eq_true rfl)) ⟨Nat.le_of_ble_eq_true rfl, Nat.le_of_ble_eq_true rfl⟩ ⟨Nat.zero_le _, Nat.zero_le _⟩ hF (fun x2 σ H locs hF hw => ?_)
    refine lv_if_ne (tgt := 95) hx hb d_Md_close_90 (by decide) (fun hc => ?_) (fun hc => ?_)
    · have hF := fx_if hc hF
      refine lv_aload_n hx hb d_Md_close_95 rfl (lv_at hl 0 rfl) ?_
      refine lv_dup hx hb d_Md_close_96 rfl ?_
      refine gI_Md_opened X hw lk_Md_143 d_Md_close_97 hF (fun x3 hF => ?_)
      refine lv_iconst (v := 1) hx hb d_Md_close_100 (by decide) ?_
      refine lv_isub hx hb d_Md_close_101 ?_
      refine pI_Md_opened X hw lk_Md_143 d_Md_close_102 hF (fun σ H locs hF hw => ?_)
      refine lv_aload_n hx hb d_Md_close_105 rfl (lv_at hl 0 rfl) ?_
      refine lv_iconst (v := 4) hx hb d_Md_close_106 (by decide) ?_
      refine lv_iconst (v := (-1)) hx hb d_Md_close_107 (by decide) ?_
      refine lv_lconst (v := 0) hx hb d_Md_close_108 (by decide) ?_
      refine k_Md_add X hw lk_Md_158 d_Md_close_109 hl.1 (lv_room (Nat.le_of_ble_eq_true rfl)) ⟨Nat.le_of_ble_eq_true rfl, Nat.le_of_ble_eq_true rfl⟩ ⟨Nat.zero_le _, Nat.zero_le _⟩ hF (fun x4 σ H locs hF hw => ?_)
      exact hend _ _ _ _ _ _ d_Md_close_112 hF hw
    · have hF := fx_it hc hF
      refine lv_iconst (v := 0) hx hb d_Md_close_93 (by decide) ?_
      exact hend _ _ _ _ _ _ d_Md_close_94 hF hw
  have h77 : ∀ (v1 : Int32) (σ : fx_S) (H : Heap) (locs : List Loc) (ls : Array Slot), F_Md_close_J77 v1 σ = some res → fx_B D fx_cl (rf_ws h cA) A s.heap σ H locs → lv_has ls 3 [(0, .ref (h 0)), (1, .int v1)] → W p l e { frames := 2, cells := 0, slots := 0, locals := 42 } s m args below meth c H locs 0 0 Q (F0 m 77 ls []) := by
    intro v1 σ H locs ls hF hw hl
    unfold F_Md_close_J77 at hF
    refine lv_aload_n hx hb d_Md_close_77 rfl (lv_at hl 0 rfl) ?_
    refine lv_iload_n hx hb d_Md_close_78 rfl (lv_at hl 1 rfl) ?_
    refine lv_if_eq (tgt := 86) hx hb d_Md_close_79 (by decide) (fun hc => ?_) (fun hc => ?_)
    · have hF := fx_it hc hF
      refine lv_iconst (v := 1) hx hb d_Md_close_86 (by decide) ?_
      exact h87 1 _ _ _ _ hF hw (lv_sub hl [0] rfl)
    · have hF := fx_if hc hF
      refine lv_iconst (v := 0) hx hb d_Md_close_82 (by decide) ?_
      refine lv_goto (tgt := 87) hx hb d_Md_close_83 (by decide) ?_
      exact h87 0 _ _ _ _ hF hw (lv_sub hl [0] rfl)
  have h76 : ∀ (t0 : Int32) (σ : fx_S) (H : Heap) (locs : List Loc) (ls : Array Slot), F_Md_close_J76 t0 σ = some res → fx_B D fx_cl (rf_ws h cA) A s.heap σ H locs → lv_has ls 3 [(0, .ref (h 0))] → W p l e { frames := 2, cells := 0, slots := 0, locals := 42 } s m args below meth c H locs 0 0 Q (F0 m 76 ls [.int t0]) := by
    intro t0 σ H locs ls hF hw hl
    unfold F_Md_close_J76 at hF
    refine lv_istore_n (lv' := [(1, .int t0), (0, .ref (h 0))]) hx hb d_Md_close_76 rfl hl (by decide) rfl (fun ls hl => ?_)
    exact h77 t0 _ _ _ _ hF hw (lv_sub hl [1, 0] rfl)
  have h75 : ∀ (σ : fx_S) (H : Heap) (locs : List Loc) (ls : Array Slot), F_Md_close_J75 σ = some res → fx_B D fx_cl (rf_ws h cA) A s.heap σ H locs → lv_has ls 3 [(0, .ref (h 0))] → W p l e { frames := 2, cells := 0, slots := 0, locals := 42 } s m args below meth c H locs 0 0 Q (F0 m 75 ls []) := by
    intro σ H locs ls hF hw hl
    unfold F_Md_close_J75 at hF
    refine lv_iconst (v := 0) hx hb d_Md_close_75 (by decide) ?_
    exact h76 0 _ _ _ _ hF hw (lv_sub hl [0] rfl)
  have h22 : ∀ (t0 : Int32) (σ : fx_S) (H : Heap) (locs : List Loc) (ls : Array Slot), F_Md_close_J22 t0 σ = some res → fx_B D fx_cl (rf_ws h cA) A s.heap σ H locs → lv_has ls 3 [(0, .ref (h 0))] → W p l e { frames := 2, cells := 0, slots := 0, locals := 42 } s m args below meth c H locs 0 0 Q (F0 m 22 ls [.int t0]) := by
    intro t0 σ H locs ls hF hw hl
    unfold F_Md_close_J22 at hF
    refine lv_istore_n (lv' := [(1, .int t0), (0, .ref (h 0))]) hx hb d_Md_close_22 rfl hl (by decide) rfl (fun ls hl => ?_)
    refine lv_iload_n hx hb d_Md_close_23 rfl (lv_at hl 0 rfl) ?_
    refine lv_if_eq (tgt := 77) hx hb d_Md_close_24 (by decide) (fun hc => ?_) (fun hc => ?_)
    · have hF := fx_it hc hF
      exact h77 t0 _ _ _ _ hF hw (lv_sub hl [1, 0] rfl)
    · have hF := fx_if hc hF
      refine lv_aload_n hx hb d_Md_close_27 rfl (lv_at hl 1 rfl) ?_
      refine k_Md_isDue X hw lk_Md_154 d_Md_close_28 hl.1 (lv_room (Nat.le_of_ble_eq_true rfl)) ⟨Nat.le_of_ble_eq_true rfl, Nat.le_of_ble_eq_true rfl⟩ ⟨Nat.zero_le _, Nat.zero_le _⟩ hF (fun x5 σ H locs hF hw => ?_)
      refine lv_if_eq (tgt := 77) hx hb d_Md_close_31 (by decide) (fun hc => ?_) (fun hc => ?_)
      · have hF := fx_it hc hF
        exact h77 t0 _ _ _ _ hF hw (lv_sub hl [1, 0] rfl)
      · have hF := fx_if hc hF
        refine lv_aload_n hx hb d_Md_close_34 rfl (lv_at hl 1 rfl) ?_
        refine gR_Md_openAt X hw lk_Md_29 d_Md_close_35 ?_
        refine lv_aload_n hx hb d_Md_close_38 rfl (lv_at hl 1 rfl) ?_
        refine gI_Md_opened X hw lk_Md_143 d_Md_close_39 hF (fun x6 hF => ?_)
        refine lv_iconst (v := 1) hx hb d_Md_close_42 (by decide) ?_
        refine lv_isub hx hb d_Md_close_43 ?_
        refine lA_Md_openAt X hw d_Md_close_44 hF (fun x7 hF => ?_)
        refine lv_iconst (v := 1) hx hb d_Md_close_45 (by decide) ?_
        refine lv_iadd hx hb d_Md_close_46 ?_
        refine fx_topi hF (fun x8 hF => ?_)
        refine lv_istore_n (lv' := [(2, .int x8), (1, .int t0), (0, .ref (h 0))]) hx hb d_Md_close_47 rfl hl (by decide) rfl (fun ls hl => ?_)
        refine lv_aload_n hx hb d_Md_close_48 rfl (lv_at hl 2 rfl) ?_
        refine gI_Md_isPattern X hw lk_Md_146 d_Md_close_49 hF (fun x9 hF => ?_)
        refine lv_if_ne (tgt := 75) hx hb d_Md_close_52 (by decide) (fun hc => ?_) (fun hc => ?_)
        · have hF := fx_if hc hF
          exact h75 _ _ _ _ hF hw (lv_sub hl [2] rfl)
        · have hF := fx_it hc hF
          refine lv_aload_n hx hb d_Md_close_55 rfl (lv_at hl 2 rfl) ?_
          refine k_Md_lastKind X hw lk_Md_150 d_Md_close_56 hl.1 (lv_room (Nat.le_of_ble_eq_true rfl)) ⟨Nat.le_of_ble_eq_true rfl, Nat.le_of_ble_eq_true rfl⟩ ⟨Nat.zero_le _, Nat.zero_le _⟩ hF (fun x10 σ H locs hF hw => ?_)
          refine lv_iconst (v := 1) hx hb d_Md_close_59 (by decide) ?_
          refine lv_icmp_ne (tgt := 75) hx hb d_Md_close_60 (by decide) (fun hc => ?_) (fun hc => ?_)
          · have hF := fx_if hc hF
            exact h75 _ _ _ _ hF hw (lv_sub hl [2] rfl)
          · have hF := fx_it hc hF
            refine lv_aload_n hx hb d_Md_close_63 rfl (lv_at hl 2 rfl) ?_
            refine lv_iload_n hx hb d_Md_close_64 rfl (lv_at hl 0 rfl) ?_
            refine k_Md_begins X hw lk_Md_162 d_Md_close_65 hl.1 (lv_room (Nat.le_of_ble_eq_true rfl)) ⟨Nat.le_of_ble_eq_true rfl, Nat.le_of_ble_eq_true rfl⟩ ⟨Nat.zero_le _, Nat.zero_le _⟩ hF (fun x11 σ H locs hF hw => ?_)
            refine lv_if_ne (tgt := 75) hx hb d_Md_close_68 (by decide) (fun hc => ?_) (fun hc => ?_)
            · have hF := fx_if hc hF
              exact h75 _ _ _ _ hF hw (lv_sub hl [2] rfl)
            · have hF := fx_it hc hF
              refine lv_iconst (v := 1) hx hb d_Md_close_71 (by decide) ?_
              refine lv_goto (tgt := 76) hx hb d_Md_close_72 (by decide) ?_
              exact h76 1 _ _ _ _ hF hw (lv_sub hl [2] rfl)
  have h21 : ∀ (σ : fx_S) (H : Heap) (locs : List Loc) (ls : Array Slot), F_Md_close_J21 σ = some res → fx_B D fx_cl (rf_ws h cA) A s.heap σ H locs → lv_has ls 3 [(0, .ref (h 0))] → W p l e { frames := 2, cells := 0, slots := 0, locals := 42 } s m args below meth c H locs 0 0 Q (F0 m 21 ls []) := by
    intro σ H locs ls hF hw hl
    unfold F_Md_close_J21 at hF
    refine lv_iconst (v := 0) hx hb d_Md_close_21 (by decide) ?_
    exact h22 0 _ _ _ _ hF hw (lv_sub hl [0] rfl)
  refine lv_aload_n hx hb d_Md_close_0 rfl (lv_at hl 0 rfl) ?_
  refine gI_Md_count X hw lk_Md_140 d_Md_close_1 hF (fun x1 hF => ?_)
  refine lv_sipush (v := 200) hx hb d_Md_close_4 (by decide) ?_
  refine lv_icmp_ge (tgt := 21) hx hb d_Md_close_7 (by decide) (fun hc => ?_) (fun hc => ?_)
  · have hF := fx_it hc hF
    exact h21 _ _ _ _ hF hw (lv_sub hl [0] rfl)
  · have hF := fx_if hc hF
    refine lv_aload_n hx hb d_Md_close_10 rfl (lv_at hl 0 rfl) ?_
    refine gI_Md_opened X hw lk_Md_143 d_Md_close_11 hF (fun x12 hF => ?_)
    refine lv_if_le (tgt := 21) hx hb d_Md_close_14 (by decide) (fun hc => ?_) (fun hc => ?_)
    · have hF := fx_it hc hF
      exact h21 _ _ _ _ hF hw (lv_sub hl [0] rfl)
    · have hF := fx_if hc hF
      refine lv_iconst (v := 1) hx hb d_Md_close_17 (by decide) ?_
      refine lv_goto (tgt := 22) hx hb d_Md_close_18 (by decide) ?_
      exact h22 1 _ _ _ _ hF hw (lv_sub hl [0] rfl)
section
variable {p : Program} {l : Launch} {e : Env} {R : Room} {s : State} {m : MethodId} {args : Array Value} {below : List Frame} {meth : Method} {c : Code} {H : Heap} {locs : List Loc} {cells slots : Nat} {Q : State → Prop}
variable {cc : ByteArray} {pc nL ix : Nat} {ls : Array Slot} {rest : List Value} {own : String} {D : va_G} {A : Nat → Prop} {h : Nat → Nat} {cA : Nat → ClassId} {σ : fx_S} {β : Type} {res : β × fx_S}
theorem k_Md_close (X : fx_X p m c cc nL s args own D fx_cl (fx_tys cA) fx_g fx_G A) (hw : fx_B D fx_cl (rf_ws h cA) A s.heap σ H locs) (lk : Cond.methodLink own ix y_Md_close ∈ fx_g) (hdg : decode cc pc = .ok (.invokevirtual ix, 3)) (hsize : ls.size = nL) (hW : 2 * (F0 m pc ls (.ref (h 0) :: rest)).monitorRoom + (rest.map fun v => v.category).sum ≤ 8) (hR : 2 + 1 ≤ R.frames ∧ 8 + (3 + 11) + 42 ≤ R.locals) (hf : cells ≤ R.cells ∧ slots ≤ R.slots) {k : Int32 → fx_M β} (hF : fx_bnd (F_Md_close) k σ = some res) (kk : ∀ (r : Int32) (σ' : fx_S) (H' : Heap) (locs' : List Loc), k r σ' = some res → fx_B D fx_cl (rf_ws h cA) A s.heap σ' H' locs' → W p l e R s m args below meth c H' locs' cells slots Q (F0 m (pc + 3) ls (.int r :: rest))) : W p l e R s m args below meth c H locs cells slots Q (F0 m pc ls (.ref (h 0) :: rest)) :=
  fx_call_i X hw (c_Md_close l D h cA) (fx_cwV X lk hg_Md_close fx_gok (rm := { frames := 2, cells := 0, slots := 0, locals := 42 }) rfl rfl (by decide +kernel) hR) (va_recv X.2.1 hw.1 (ci := 8) (q0 := 0) rfl rfl) (n := 0) rfl hdg hsize rfl hW hf hF kk
end
set_option maxHeartbeats 4000000 in
set_option maxRecDepth 100000 in
theorem c_Md_whyNot (l : Launch) (D : va_G) (h : Nat → Nat) (cA : Nat → ClassId) (v1 : Int32) : fx_Mi l y_Md_whyNot b_Md_whyNot 2 (some .int) { frames := 2, cells := 0, slots := 0, locals := 43 } D fx_cl (fx_tys cA) fx_g fx_G (rf_ws h cA) [.ref (h 0), .int v1] (F_Md_whyNot v1) := by
  refine fx_start_i fx_G_ok (by decide) (Nat.le_of_ble_eq_true rfl) ?_
  intro p e s m args below meth c A ls σ res Q hF X hw hl hend
  have hx := X.1.1
  have hb := X.1.2.1
  have hl : lv_has ls 2 [(0, .ref (h 0)), (1, .int v1)] := hl
  unfold F_Md_whyNot at hF
  refine lv_aload_n hx hb d_Md_whyNot_0 rfl (lv_at hl 0 rfl) ?_
  refine lv_iload_n hx hb d_Md_whyNot_1 rfl (lv_at hl 1 rfl) ?_
  refine k_Md_isScope X hw lk_Md_120 d_Md_whyNot_2 hl.1 (lv_room (Nat.le_of_ble_eq_true rfl)) ⟨Nat.le_of_ble_eq_true rfl, Nat.le_of_ble_eq_true rfl⟩ ⟨Nat.zero_le _, Nat.zero_le _⟩ hF (fun x1 σ H locs hF hw => ?_)
  refine lv_if_ne (tgt := 12) hx hb d_Md_whyNot_5 (by decide) (fun hc => ?_) (fun hc => ?_)
  · have hF := fx_if hc hF
    refine lv_aload_n hx hb d_Md_whyNot_12 rfl (lv_at hl 0 rfl) ?_
    refine k_Md_isDue X hw lk_Md_154 d_Md_whyNot_13 hl.1 (lv_room (Nat.le_of_ble_eq_true rfl)) ⟨Nat.le_of_ble_eq_true rfl, Nat.le_of_ble_eq_true rfl⟩ ⟨Nat.zero_le _, Nat.zero_le _⟩ hF (fun x2 σ H locs hF hw => ?_)
    refine lv_if_ne (tgt := 26) hx hb d_Md_whyNot_16 (by decide) (fun hc => ?_) (fun hc => ?_)
    · have hF := fx_if hc hF
      refine lv_iconst (v := 2) hx hb d_Md_whyNot_26 (by decide) ?_
      refine lv_goto (tgt := 31) hx hb d_Md_whyNot_27 (by decide) ?_
      exact hend _ _ _ _ _ _ d_Md_whyNot_31 hF hw
    · have hF := fx_it hc hF
      refine lv_aload_n hx hb d_Md_whyNot_19 rfl (lv_at hl 0 rfl) ?_
      refine gI_Md_opened X hw lk_Md_143 d_Md_whyNot_20 hF (fun x3 hF => ?_)
      refine lv_if_le (tgt := 30) hx hb d_Md_whyNot_23 (by decide) (fun hc => ?_) (fun hc => ?_)
      · have hF := fx_it hc hF
        refine lv_iconst (v := 0) hx hb d_Md_whyNot_30 (by decide) ?_
        exact hend _ _ _ _ _ _ d_Md_whyNot_31 hF hw
      · have hF := fx_if hc hF
        refine lv_iconst (v := 2) hx hb d_Md_whyNot_26 (by decide) ?_
        refine lv_goto (tgt := 31) hx hb d_Md_whyNot_27 (by decide) ?_
        exact hend _ _ _ _ _ _ d_Md_whyNot_31 hF hw
  · have hF := fx_it hc hF
    refine lv_iconst (v := 1) hx hb d_Md_whyNot_8 (by decide) ?_
    refine lv_goto (tgt := 31) hx hb d_Md_whyNot_9 (by decide) ?_
    exact hend _ _ _ _ _ _ d_Md_whyNot_31 hF hw
section
variable {p : Program} {l : Launch} {e : Env} {R : Room} {s : State} {m : MethodId} {args : Array Value} {below : List Frame} {meth : Method} {c : Code} {H : Heap} {locs : List Loc} {cells slots : Nat} {Q : State → Prop}
variable {cc : ByteArray} {pc nL ix : Nat} {ls : Array Slot} {rest : List Value} {own : String} {D : va_G} {A : Nat → Prop} {h : Nat → Nat} {cA : Nat → ClassId} {σ : fx_S} {β : Type} {res : β × fx_S}
theorem k_Md_whyNot {v1 : Int32} (X : fx_X p m c cc nL s args own D fx_cl (fx_tys cA) fx_g fx_G A) (hw : fx_B D fx_cl (rf_ws h cA) A s.heap σ H locs) (lk : Cond.methodLink own ix y_Md_whyNot ∈ fx_g) (hdg : decode cc pc = .ok (.invokevirtual ix, 3)) (hsize : ls.size = nL) (hW : 2 * (F0 m pc ls (.int v1 :: .ref (h 0) :: rest)).monitorRoom + (rest.map fun v => v.category).sum ≤ 8) (hR : 2 + 1 ≤ R.frames ∧ 8 + (2 + 11) + 43 ≤ R.locals) (hf : cells ≤ R.cells ∧ slots ≤ R.slots) {k : Int32 → fx_M β} (hF : fx_bnd (F_Md_whyNot v1) k σ = some res) (kk : ∀ (r : Int32) (σ' : fx_S) (H' : Heap) (locs' : List Loc), k r σ' = some res → fx_B D fx_cl (rf_ws h cA) A s.heap σ' H' locs' → W p l e R s m args below meth c H' locs' cells slots Q (F0 m (pc + 3) ls (.int r :: rest))) : W p l e R s m args below meth c H locs cells slots Q (F0 m pc ls (.int v1 :: .ref (h 0) :: rest)) :=
  fx_call_i X hw (c_Md_whyNot l D h cA v1) (fx_cwV X lk hg_Md_whyNot fx_gok (rm := { frames := 2, cells := 0, slots := 0, locals := 43 }) rfl rfl (by decide +kernel) hR) (va_recv X.2.1 hw.1 (ci := 8) (q0 := 0) rfl rfl) (n := 1) rfl hdg hsize rfl hW hf hF kk
end
set_option maxHeartbeats 4000000 in
set_option maxRecDepth 100000 in
theorem c_Md_learn (l : Launch) (D : va_G) (h : Nat → Nat) (cA : Nat → ClassId) : fx_Mv l y_Md_learn b_Md_learn 3 none { frames := 0, cells := 0, slots := 0, locals := 0 } D fx_cl (fx_tys cA) fx_g fx_G (rf_ws h cA) [.ref (h 0)] (F_Md_learn) := by
  refine fx_start_v fx_G_ok (by decide) (Nat.le_of_ble_eq_true rfl) ?_
  intro p e s m args below meth c A ls σ res Q hF X hw hl hend
  have hx := X.1.1
  have hb := X.1.2.1
  have hl : lv_has ls 3 [(0, .ref (h 0))] := hl
  unfold F_Md_learn at hF
  have h4 : ∀ (n4 : Nat) (v1 : Int32) (v2 : Int32) (σ : fx_S) (H : Heap) (locs : List Loc) (ls : Array Slot), fx_loop2 (F_Md_learn_B4) n4 v1 v2 σ = some res → fx_B D fx_cl (rf_ws h cA) A s.heap σ H locs → lv_has ls 3 [(0, .ref (h 0)), (1, .int v1), (2, .int v2)] → W p l e { frames := 0, cells := 0, slots := 0, locals := 0 } s m args below meth c H locs 0 0 Q (F0 m 4 ls []) := by
    intro n4
    induction n4 with
    | zero => intro v1 v2 σ H locs ls hF; cases hF
    | succ n4 ih4 =>
      obtain ⟨K4, eK4⟩ : ∃ K, K = fx_loop2 (F_Md_learn_B4) n4 := ⟨_, rfl⟩
      rw [← eK4] at ih4
      have h91 : ∀ (v1 : Int32) (v2 : Int32) (σ : fx_S) (H : Heap) (locs : List Loc) (ls : Array Slot), F_Md_learn_J91 K4 v1 v2 σ = some res → fx_B D fx_cl (rf_ws h cA) A s.heap σ H locs → lv_has ls 3 [(0, .ref (h 0)), (1, .int v1), (2, .int v2)] → W p l e { frames := 0, cells := 0, slots := 0, locals := 0 } s m args below meth c H locs 0 0 Q (F0 m 91 ls []) := by
        intro v1 v2 σ H locs ls hF hw hl
        unfold F_Md_learn_J91 at hF
        refine fx_iinc (lv' := fun x5 => [(2, .int x5), (0, .ref (h 0)), (1, .int v1)]) hx hb d_Md_learn_91 hl (k := 2) rfl rfl (by decide) (fun _ => rfl) hF (fun x5 ls hF hl => ?_)
        refine lv_goto (tgt := 4) hx hb d_Md_learn_94 (by decide) ?_
        exact ih4 v1 x5 _ _ _ _ hF hw (lv_sub hl [1, 2, 0] rfl)
      have h70 : ∀ (v1 : Int32) (v2 : Int32) (t0 : Int32) (t1 : Int32) (σ : fx_S) (H : Heap) (locs : List Loc) (ls : Array Slot), F_Md_learn_J70 K4 v1 v2 t0 t1 σ = some res → fx_B D fx_cl (rf_ws h cA) A s.heap σ H locs → lv_has ls 3 [(0, .ref (h 0)), (1, .int v1), (2, .int v2)] → W p l e { frames := 0, cells := 0, slots := 0, locals := 0 } s m args below meth c H locs 0 0 Q (F0 m 70 ls [.int t0, .int t1, .ref (h 15)]) := by
        intro v1 v2 t0 t1 σ H locs ls hF hw hl
        unfold F_Md_learn_J70 at hF
        refine sA_Md_group X hw d_Md_learn_70 hF (fun σ H locs hF hw => ?_)
        refine lv_aload_n hx hb d_Md_learn_71 rfl (lv_at hl 0 rfl) ?_
        refine gR_Md_kinds X hw lk_Md_19 d_Md_learn_72 ?_
        refine lv_iload_n hx hb d_Md_learn_75 rfl (lv_at hl 2 rfl) ?_
        refine lA_Md_kinds X hw d_Md_learn_76 hF (fun x4 hF => ?_)
        refine lv_iconst (v := 3) hx hb d_Md_learn_77 (by decide) ?_
        refine lv_icmp_ne (tgt := 91) hx hb d_Md_learn_78 (by decide) (fun hc => ?_) (fun hc => ?_)
        · have hF := fx_if hc hF
          exact h91 v1 v2 _ _ _ _ hF hw (lv_sub hl [0, 1, 2] rfl)
        · have hF := fx_it hc hF
          refine lv_aload_n hx hb d_Md_learn_81 rfl (lv_at hl 0 rfl) ?_
          refine gR_Md_pile X hw lk_Md_73 d_Md_learn_82 ?_
          refine lv_iload_n hx hb d_Md_learn_85 rfl (lv_at hl 1 rfl) ?_
          refine lv_iload_n hx hb d_Md_learn_86 rfl (lv_at hl 2 rfl) ?_
          refine sA_Md_pile X hw d_Md_learn_87 hF (fun σ H locs hF hw => ?_)
          refine fx_iinc (lv' := fun x6 => [(1, .int x6), (0, .ref (h 0)), (2, .int v2)]) hx hb d_Md_learn_88 hl (k := 1) rfl rfl (by decide) (fun _ => rfl) hF (fun x6 ls hF hl => ?_)
          exact h91 x6 v2 _ _ _ _ hF hw (lv_sub hl [1, 0, 2] rfl)
      have h49 : ∀ (v1 : Int32) (v2 : Int32) (σ : fx_S) (H : Heap) (locs : List Loc) (ls : Array Slot), F_Md_learn_J49 K4 v1 v2 σ = some res → fx_B D fx_cl (rf_ws h cA) A s.heap σ H locs → lv_has ls 3 [(0, .ref (h 0)), (1, .int v1), (2, .int v2)] → W p l e { frames := 0, cells := 0, slots := 0, locals := 0 } s m args below meth c H locs 0 0 Q (F0 m 49 ls []) := by
        intro v1 v2 σ H locs ls hF hw hl
        unfold F_Md_learn_J49 at hF
        refine lv_aload_n hx hb d_Md_learn_49 rfl (lv_at hl 0 rfl) ?_
        refine gR_Md_group X hw lk_Md_63 d_Md_learn_50 ?_
        refine lv_iload_n hx hb d_Md_learn_53 rfl (lv_at hl 2 rfl) ?_
        refine lv_iload_n hx hb d_Md_learn_54 rfl (lv_at hl 1 rfl) ?_
        refine lv_if_ne (tgt := 62) hx hb d_Md_learn_55 (by decide) (fun hc => ?_) (fun hc => ?_)
        · have hF := fx_if hc hF
          refine lv_aload_n hx hb d_Md_learn_62 rfl (lv_at hl 0 rfl) ?_
          refine gR_Md_pile X hw lk_Md_73 d_Md_learn_63 ?_
          refine lv_iload_n hx hb d_Md_learn_66 rfl (lv_at hl 1 rfl) ?_
          refine lv_iconst (v := 1) hx hb d_Md_learn_67 (by decide) ?_
          refine lv_isub hx hb d_Md_learn_68 ?_
          refine lA_Md_pile X hw d_Md_learn_69 hF (fun x3 hF => ?_)
          exact h70 v1 v2 x3 v2 _ _ _ _ hF hw (lv_sub hl [0, 1, 2] rfl)
        · have hF := fx_it hc hF
          refine lv_iconst (v := (-1)) hx hb d_Md_learn_58 (by decide) ?_
          refine lv_goto (tgt := 70) hx hb d_Md_learn_59 (by decide) ?_
          exact h70 v1 v2 (-1) v2 _ _ _ _ hF hw (lv_sub hl [0, 1, 2] rfl)
      intro v1 v2 σ H locs ls hF hw hl
      replace hF : F_Md_learn_B4 (fx_loop2 (F_Md_learn_B4) n4) v1 v2 σ = some res := hF
      rw [← eK4] at hF
      unfold F_Md_learn_B4 at hF
      refine lv_iload_n hx hb d_Md_learn_4 rfl (lv_at hl 2 rfl) ?_
      refine lv_aload_n hx hb d_Md_learn_5 rfl (lv_at hl 0 rfl) ?_
      refine gI_Md_count X hw lk_Md_140 d_Md_learn_6 hF (fun x1 hF => ?_)
      refine lv_icmp_ge (tgt := 97) hx hb d_Md_learn_9 (by decide) (fun hc => ?_) (fun hc => ?_)
      · have hF := fx_it hc hF
        exact hend _ _ _ _ _ d_Md_learn_97 hF hw
      · have hF := fx_if hc hF
        refine lv_aload_n hx hb d_Md_learn_12 rfl (lv_at hl 0 rfl) ?_
        refine gR_Md_kinds X hw lk_Md_19 d_Md_learn_13 ?_
        refine lv_iload_n hx hb d_Md_learn_16 rfl (lv_at hl 2 rfl) ?_
        refine lA_Md_kinds X hw d_Md_learn_17 hF (fun x2 hF => ?_)
        refine lv_iconst (v := 4) hx hb d_Md_learn_18 (by decide) ?_
        refine lv_icmp_ne (tgt := 49) hx hb d_Md_learn_19 (by decide) (fun hc => ?_) (fun hc => ?_)
        · have hF := fx_if hc hF
          exact h49 v1 v2 _ _ _ _ hF hw (lv_sub hl [0, 1, 2] rfl)
        · have hF := fx_it hc hF
          refine fx_iinc (lv' := fun x7 => [(1, .int x7), (0, .ref (h 0)), (2, .int v2)]) hx hb d_Md_learn_22 hl (k := 1) rfl rfl (by decide) (fun _ => rfl) hF (fun x7 ls hF hl => ?_)
          refine lv_aload_n hx hb d_Md_learn_25 rfl (lv_at hl 1 rfl) ?_
          refine gR_Md_match X hw lk_Md_66 d_Md_learn_26 ?_
          refine lv_aload_n hx hb d_Md_learn_29 rfl (lv_at hl 1 rfl) ?_
          refine gR_Md_pile X hw lk_Md_73 d_Md_learn_30 ?_
          refine lv_iload_n hx hb d_Md_learn_33 rfl (lv_at hl 0 rfl) ?_
          refine lA_Md_pile X hw d_Md_learn_34 hF (fun x8 hF => ?_)
          refine lv_iload_n hx hb d_Md_learn_35 rfl (lv_at hl 2 rfl) ?_
          refine sA_Md_match X hw d_Md_learn_36 hF (fun σ H locs hF hw => ?_)
          refine lv_aload_n hx hb d_Md_learn_37 rfl (lv_at hl 1 rfl) ?_
          refine gR_Md_match X hw lk_Md_66 d_Md_learn_38 ?_
          refine lv_iload_n hx hb d_Md_learn_41 rfl (lv_at hl 2 rfl) ?_
          refine lv_aload_n hx hb d_Md_learn_42 rfl (lv_at hl 1 rfl) ?_
          refine gR_Md_pile X hw lk_Md_73 d_Md_learn_43 ?_
          refine lv_iload_n hx hb d_Md_learn_46 rfl (lv_at hl 0 rfl) ?_
          refine lA_Md_pile X hw d_Md_learn_47 hF (fun x9 hF => ?_)
          refine sA_Md_match X hw d_Md_learn_48 hF (fun σ H locs hF hw => ?_)
          exact h49 x7 v2 _ _ _ _ hF hw (lv_sub hl [1, 0, 2] rfl)
  refine lv_iconst (v := 0) hx hb d_Md_learn_0 (by decide) ?_
  refine lv_istore_n (lv' := [(1, .int 0), (0, .ref (h 0))]) hx hb d_Md_learn_1 rfl hl (by decide) rfl (fun ls hl => ?_)
  refine lv_iconst (v := 0) hx hb d_Md_learn_2 (by decide) ?_
  refine lv_istore_n (lv' := [(2, .int 0), (1, .int 0), (0, .ref (h 0))]) hx hb d_Md_learn_3 rfl hl (by decide) rfl (fun ls hl => ?_)
  exact h4 fx_fuel 0 0 _ _ _ _ hF hw (lv_sub hl [2, 1, 0] rfl)
section
variable {p : Program} {l : Launch} {e : Env} {R : Room} {s : State} {m : MethodId} {args : Array Value} {below : List Frame} {meth : Method} {c : Code} {H : Heap} {locs : List Loc} {cells slots : Nat} {Q : State → Prop}
variable {cc : ByteArray} {pc nL ix : Nat} {ls : Array Slot} {rest : List Value} {own : String} {D : va_G} {A : Nat → Prop} {h : Nat → Nat} {cA : Nat → ClassId} {σ : fx_S} {β : Type} {res : β × fx_S}
theorem k_Md_learn (X : fx_X p m c cc nL s args own D fx_cl (fx_tys cA) fx_g fx_G A) (hw : fx_B D fx_cl (rf_ws h cA) A s.heap σ H locs) (lk : Cond.methodLink own ix y_Md_learn ∈ fx_g) (hdg : decode cc pc = .ok (.invokevirtual ix, 3)) (hsize : ls.size = nL) (hW : 2 * (F0 m pc ls (.ref (h 0) :: rest)).monitorRoom + (rest.map fun v => v.category).sum ≤ 8) (hR : 0 + 1 ≤ R.frames ∧ 8 + (3 + 11) + 0 ≤ R.locals) (hf : cells ≤ R.cells ∧ slots ≤ R.slots) {k : Unit → fx_M β} (hF : fx_bnd (F_Md_learn) k σ = some res) (kk : ∀ (σ' : fx_S) (H' : Heap) (locs' : List Loc), k () σ' = some res → fx_B D fx_cl (rf_ws h cA) A s.heap σ' H' locs' → W p l e R s m args below meth c H' locs' cells slots Q (F0 m (pc + 3) ls rest)) : W p l e R s m args below meth c H locs cells slots Q (F0 m pc ls (.ref (h 0) :: rest)) :=
  fx_call_v X hw (c_Md_learn l D h cA) (fx_cwV X lk hg_Md_learn fx_gok (rm := { frames := 0, cells := 0, slots := 0, locals := 0 }) rfl rfl (by decide +kernel) hR) (va_recv X.2.1 hw.1 (ci := 8) (q0 := 0) rfl rfl) (n := 0) rfl hdg hsize rfl hW hf hF kk
end
set_option maxHeartbeats 4000000 in
set_option maxRecDepth 100000 in
theorem c_Md_newest (l : Launch) (D : va_G) (h : Nat → Nat) (cA : Nat → ClassId) (v1 : Int32) (v2 : Int32) : fx_Mi l y_Md_newest b_Md_newest 4 (some .int) { frames := 0, cells := 0, slots := 0, locals := 0 } D fx_cl (fx_tys cA) fx_g fx_G (rf_ws h cA) [.ref (h 0), .int v1, .int v2] (F_Md_newest v1 v2) := by
  refine fx_start_i fx_G_ok (by decide) (Nat.le_of_ble_eq_true rfl) ?_
  intro p e s m args below meth c A ls σ res Q hF X hw hl hend
  have hx := X.1.1
  have hb := X.1.2.1
  have hl : lv_has ls 4 [(0, .ref (h 0)), (1, .int v1), (2, .int v2)] := hl
  unfold F_Md_newest at hF
  have h4 : ∀ (n4 : Nat) (v1 : Int32) (v3 : Int32) (σ : fx_S) (H : Heap) (locs : List Loc) (ls : Array Slot), fx_loop2 (F_Md_newest_B4) n4 v1 v3 σ = some res → fx_B D fx_cl (rf_ws h cA) A s.heap σ H locs → lv_has ls 4 [(0, .ref (h 0)), (1, .int v1), (3, .int v3)] → W p l e { frames := 0, cells := 0, slots := 0, locals := 0 } s m args below meth c H locs 0 0 Q (F0 m 4 ls []) := by
    intro n4
    induction n4 with
    | zero => intro v1 v3 σ H locs ls hF; cases hF
    | succ n4 ih4 =>
      obtain ⟨K4, eK4⟩ : ∃ K, K = fx_loop2 (F_Md_newest_B4) n4 := ⟨_, rfl⟩
      rw [← eK4] at ih4
      have h27 : ∀ (v1 : Int32) (v3 : Int32) (σ : fx_S) (H : Heap) (locs : List Loc) (ls : Array Slot), F_Md_newest_J27 K4 v1 v3 σ = some res → fx_B D fx_cl (rf_ws h cA) A s.heap σ H locs → lv_has ls 4 [(0, .ref (h 0)), (1, .int v1), (3, .int v3)] → W p l e { frames := 0, cells := 0, slots := 0, locals := 0 } s m args below meth c H locs 0 0 Q (F0 m 27 ls []) := by
        intro v1 v3 σ H locs ls hF hw hl
        unfold F_Md_newest_J27 at hF
        refine fx_iinc (lv' := fun x3 => [(3, .int x3), (0, .ref (h 0)), (1, .int v1)]) hx hb d_Md_newest_27 hl (k := 2) rfl rfl (by decide) (fun _ => rfl) hF (fun x3 ls hF hl => ?_)
        refine lv_goto (tgt := 4) hx hb d_Md_newest_30 (by decide) ?_
        exact ih4 v1 x3 _ _ _ _ hF hw (lv_sub hl [1, 2, 0] rfl)
      intro v1 v3 σ H locs ls hF hw hl
      replace hF : F_Md_newest_B4 (fx_loop2 (F_Md_newest_B4) n4) v1 v3 σ = some res := hF
      rw [← eK4] at hF
      unfold F_Md_newest_B4 at hF
      refine lv_iload_n hx hb d_Md_newest_4 rfl (lv_at hl 2 rfl) ?_
      refine lv_if_lt (tgt := 33) hx hb d_Md_newest_5 (by decide) (fun hc => ?_) (fun hc => ?_)
      · have hF := fx_it hc hF
        refine lv_iload_n hx hb d_Md_newest_33 rfl (lv_at hl 2 rfl) ?_
        exact hend _ _ _ _ _ _ d_Md_newest_34 hF hw
      · have hF := fx_if hc hF
        refine lv_aload_n hx hb d_Md_newest_8 rfl (lv_at hl 0 rfl) ?_
        refine gR_Md_waits X hw lk_Md_69 d_Md_newest_9 ?_
        refine lv_iload_n hx hb d_Md_newest_12 rfl (lv_at hl 2 rfl) ?_
        refine lA_Md_waits X hw d_Md_newest_13 hF (fun x2 hF => ?_)
        refine lv_if_eq (tgt := 27) hx hb d_Md_newest_14 (by decide) (fun hc => ?_) (fun hc => ?_)
        · have hF := fx_it hc hF
          exact h27 v1 v3 _ _ _ _ hF hw (lv_sub hl [0, 1, 2] rfl)
        · have hF := fx_if hc hF
          refine lv_aload_n hx hb d_Md_newest_17 rfl (lv_at hl 0 rfl) ?_
          refine gR_Md_group X hw lk_Md_63 d_Md_newest_18 ?_
          refine lv_iload_n hx hb d_Md_newest_21 rfl (lv_at hl 2 rfl) ?_
          refine lA_Md_group X hw d_Md_newest_22 hF (fun x4 hF => ?_)
          refine lv_iload_n hx hb d_Md_newest_23 rfl (lv_at hl 1 rfl) ?_
          refine lv_icmp_eq (tgt := 33) hx hb d_Md_newest_24 (by decide) (fun hc => ?_) (fun hc => ?_)
          · have hF := fx_it hc hF
            refine lv_iload_n hx hb d_Md_newest_33 rfl (lv_at hl 2 rfl) ?_
            exact hend _ _ _ _ _ _ d_Md_newest_34 hF hw
          · have hF := fx_if hc hF
            exact h27 v1 v3 _ _ _ _ hF hw (lv_sub hl [0, 1, 2] rfl)
  refine lv_iload_n hx hb d_Md_newest_0 rfl (lv_at hl 2 rfl) ?_
  refine lv_iconst (v := 1) hx hb d_Md_newest_1 (by decide) ?_
  refine lv_isub hx hb d_Md_newest_2 ?_
  refine fx_topi hF (fun x1 hF => ?_)
  refine lv_istore_n (lv' := [(3, .int x1), (0, .ref (h 0)), (1, .int v1), (2, .int v2)]) hx hb d_Md_newest_3 rfl hl (by decide) rfl (fun ls hl => ?_)
  exact h4 fx_fuel v1 x1 _ _ _ _ hF hw (lv_sub hl [1, 2, 0] rfl)
section
variable {p : Program} {l : Launch} {e : Env} {R : Room} {s : State} {m : MethodId} {args : Array Value} {below : List Frame} {meth : Method} {c : Code} {H : Heap} {locs : List Loc} {cells slots : Nat} {Q : State → Prop}
variable {cc : ByteArray} {pc nL ix : Nat} {ls : Array Slot} {rest : List Value} {own : String} {D : va_G} {A : Nat → Prop} {h : Nat → Nat} {cA : Nat → ClassId} {σ : fx_S} {β : Type} {res : β × fx_S}
theorem k_Md_newest {v1 : Int32} {v2 : Int32} (X : fx_X p m c cc nL s args own D fx_cl (fx_tys cA) fx_g fx_G A) (hw : fx_B D fx_cl (rf_ws h cA) A s.heap σ H locs) (lk : Cond.methodLink own ix y_Md_newest ∈ fx_g) (hdg : decode cc pc = .ok (.invokevirtual ix, 3)) (hsize : ls.size = nL) (hW : 2 * (F0 m pc ls (.int v2 :: .int v1 :: .ref (h 0) :: rest)).monitorRoom + (rest.map fun v => v.category).sum ≤ 8) (hR : 0 + 1 ≤ R.frames ∧ 8 + (4 + 11) + 0 ≤ R.locals) (hf : cells ≤ R.cells ∧ slots ≤ R.slots) {k : Int32 → fx_M β} (hF : fx_bnd (F_Md_newest v1 v2) k σ = some res) (kk : ∀ (r : Int32) (σ' : fx_S) (H' : Heap) (locs' : List Loc), k r σ' = some res → fx_B D fx_cl (rf_ws h cA) A s.heap σ' H' locs' → W p l e R s m args below meth c H' locs' cells slots Q (F0 m (pc + 3) ls (.int r :: rest))) : W p l e R s m args below meth c H locs cells slots Q (F0 m pc ls (.int v2 :: .int v1 :: .ref (h 0) :: rest)) :=
  fx_call_i X hw (c_Md_newest l D h cA v1 v2) (fx_cwV X lk hg_Md_newest fx_gok (rm := { frames := 0, cells := 0, slots := 0, locals := 0 }) rfl rfl (by decide +kernel) hR) (va_recv X.2.1 hw.1 (ci := 8) (q0 := 0) rfl rfl) (n := 2) rfl hdg hsize rfl hW hf hF kk
end
set_option maxHeartbeats 4000000 in
set_option maxRecDepth 100000 in
theorem c_Md_clashes (l : Launch) (D : va_G) (h : Nat → Nat) (cA : Nat → ClassId) (v1 : Int32) (v2 : Int32) (v3 : Int32) : fx_Mv l y_Md_clashes b_Md_clashes 4 none { frames := 0, cells := 0, slots := 0, locals := 0 } D fx_cl (fx_tys cA) fx_g fx_G (rf_ws h cA) [.ref (h 0), .int v1, .int v2, .int v3] (F_Md_clashes v1 v2 v3) := by
  refine fx_start_v fx_G_ok (by decide) (Nat.le_of_ble_eq_true rfl) ?_
  intro p e s m args below meth c A ls σ res Q hF X hw hl hend
  have hx := X.1.1
  have hb := X.1.2.1
  have hl : lv_has ls 4 [(0, .ref (h 0)), (1, .int v1), (2, .int v2), (3, .int v3)] := hl
  unfold F_Md_clashes at hF
  refine lv_aload_n hx hb d_Md_clashes_0 rfl (lv_at hl 0 rfl) ?_
  refine lv_iload_n hx hb d_Md_clashes_1 rfl (lv_at hl 1 rfl) ?_
  refine pI_Md_foundKind X hw lk_Md_165 d_Md_clashes_2 hF (fun σ H locs hF hw => ?_)
  refine lv_aload_n hx hb d_Md_clashes_5 rfl (lv_at hl 0 rfl) ?_
  refine lv_iload_n hx hb d_Md_clashes_6 rfl (lv_at hl 2 rfl) ?_
  refine pI_Md_foundFirst X hw lk_Md_168 d_Md_clashes_7 hF (fun σ H locs hF hw => ?_)
  refine lv_aload_n hx hb d_Md_clashes_10 rfl (lv_at hl 0 rfl) ?_
  refine lv_iload_n hx hb d_Md_clashes_11 rfl (lv_at hl 3 rfl) ?_
  refine pI_Md_foundSecond X hw lk_Md_171 d_Md_clashes_12 hF (fun σ H locs hF hw => ?_)
  exact hend _ _ _ _ _ d_Md_clashes_15 hF hw
section
variable {p : Program} {l : Launch} {e : Env} {R : Room} {s : State} {m : MethodId} {args : Array Value} {below : List Frame} {meth : Method} {c : Code} {H : Heap} {locs : List Loc} {cells slots : Nat} {Q : State → Prop}
variable {cc : ByteArray} {pc nL ix : Nat} {ls : Array Slot} {rest : List Value} {own : String} {D : va_G} {A : Nat → Prop} {h : Nat → Nat} {cA : Nat → ClassId} {σ : fx_S} {β : Type} {res : β × fx_S}
theorem k_Md_clashes {v1 : Int32} {v2 : Int32} {v3 : Int32} (X : fx_X p m c cc nL s args own D fx_cl (fx_tys cA) fx_g fx_G A) (hw : fx_B D fx_cl (rf_ws h cA) A s.heap σ H locs) (lk : Cond.methodLink own ix y_Md_clashes ∈ fx_g) (hdg : decode cc pc = .ok (.invokevirtual ix, 3)) (hsize : ls.size = nL) (hW : 2 * (F0 m pc ls (.int v3 :: .int v2 :: .int v1 :: .ref (h 0) :: rest)).monitorRoom + (rest.map fun v => v.category).sum ≤ 8) (hR : 0 + 1 ≤ R.frames ∧ 8 + (4 + 11) + 0 ≤ R.locals) (hf : cells ≤ R.cells ∧ slots ≤ R.slots) {k : Unit → fx_M β} (hF : fx_bnd (F_Md_clashes v1 v2 v3) k σ = some res) (kk : ∀ (σ' : fx_S) (H' : Heap) (locs' : List Loc), k () σ' = some res → fx_B D fx_cl (rf_ws h cA) A s.heap σ' H' locs' → W p l e R s m args below meth c H' locs' cells slots Q (F0 m (pc + 3) ls rest)) : W p l e R s m args below meth c H locs cells slots Q (F0 m pc ls (.int v3 :: .int v2 :: .int v1 :: .ref (h 0) :: rest)) :=
  fx_call_v X hw (c_Md_clashes l D h cA v1 v2 v3) (fx_cwV X lk hg_Md_clashes fx_gok (rm := { frames := 0, cells := 0, slots := 0, locals := 0 }) rfl rfl (by decide +kernel) hR) (va_recv X.2.1 hw.1 (ci := 8) (q0 := 0) rfl rfl) (n := 3) rfl hdg hsize rfl hW hf hF kk
end
set_option maxHeartbeats 4000000 in
set_option maxRecDepth 100000 in
theorem c_Md_closes (l : Launch) (D : va_G) (h : Nat → Nat) (cA : Nat → ClassId) (v1 : Int32) : fx_Mv l y_Md_closes b_Md_closes 4 none { frames := 1, cells := 0, slots := 0, locals := 23 } D fx_cl (fx_tys cA) fx_g fx_G (rf_ws h cA) [.ref (h 0), .int v1] (F_Md_closes v1) := by
  refine fx_start_v fx_G_ok (by decide) (Nat.le_of_ble_eq_true rfl) ?_
  intro p e s m args below meth c A ls σ res Q hF X hw hl hend
  have hx := X.1.1
  have hb := X.1.2.1
  have hl : lv_has ls 4 [(0, .ref (h 0)), (1, .int v1)] := hl
  unfold F_Md_closes at hF
  have h47 : ∀ (n47 : Nat) (v1 : Int32) (v2 : Int32) (v3 : Int32) (σ : fx_S) (H : Heap) (locs : List Loc) (ls : Array Slot), fx_loop3 (F_Md_closes_B47) n47 v1 v2 v3 σ = some res → fx_B D fx_cl (rf_ws h cA) A s.heap σ H locs → lv_has ls 4 [(0, .ref (h 0)), (1, .int v1), (2, .int v2), (3, .int v3)] → W p l e { frames := 1, cells := 0, slots := 0, locals := 23 } s m args below meth c H locs 0 0 Q (F0 m 47 ls []) := by
    intro n47
    induction n47 with
    | zero => intro v1 v2 v3 σ H locs ls hF; cases hF
    | succ n47 ih47 =>
      obtain ⟨K47, eK47⟩ : ∃ K, K = fx_loop3 (F_Md_closes_B47) n47 := ⟨_, rfl⟩
      rw [← eK47] at ih47
      have h81 : ∀ (v1 : Int32) (v2 : Int32) (v3 : Int32) (t0 : Int32) (t1 : Int32) (σ : fx_S) (H : Heap) (locs : List Loc) (ls : Array Slot), F_Md_closes_J81 K47 v1 v2 v3 t0 t1 σ = some res → fx_B D fx_cl (rf_ws h cA) A s.heap σ H locs → lv_has ls 4 [(0, .ref (h 0)), (1, .int v1), (2, .int v2), (3, .int v3)] → W p l e { frames := 1, cells := 0, slots := 0, locals := 23 } s m args below meth c H locs 0 0 Q (F0 m 81 ls [.int t0, .int t1, .ref (h 17)]) := by
        intro v1 v2 v3 t0 t1 σ H locs ls hF hw hl
        unfold F_Md_closes_J81 at hF
        refine sA_Md_waits X hw d_Md_closes_81 hF (fun σ H locs hF hw => ?_)
        refine fx_iinc (lv' := fun x5 => [(3, .int x5), (0, .ref (h 0)), (1, .int v1), (2, .int v2)]) hx hb d_Md_closes_82 hl (k := 3) rfl rfl (by decide) (fun _ => rfl) hF (fun x5 ls hF hl => ?_)
        refine lv_goto (tgt := 47) hx hb d_Md_closes_85 (by decide) ?_
        exact ih47 v1 v2 x5 _ _ _ _ hF hw (lv_sub hl [1, 2, 3, 0] rfl)
      have h80 : ∀ (v1 : Int32) (v2 : Int32) (v3 : Int32) (t0 : Int32) (σ : fx_S) (H : Heap) (locs : List Loc) (ls : Array Slot), F_Md_closes_J80 K47 v1 v2 v3 t0 σ = some res → fx_B D fx_cl (rf_ws h cA) A s.heap σ H locs → lv_has ls 4 [(0, .ref (h 0)), (1, .int v1), (2, .int v2), (3, .int v3)] → W p l e { frames := 1, cells := 0, slots := 0, locals := 23 } s m args below meth c H locs 0 0 Q (F0 m 80 ls [.int t0, .ref (h 17)]) := by
        intro v1 v2 v3 t0 σ H locs ls hF hw hl
        unfold F_Md_closes_J80 at hF
        refine lv_iconst (v := 0) hx hb d_Md_closes_80 (by decide) ?_
        exact h81 v1 v2 v3 0 t0 _ _ _ _ hF hw (lv_sub hl [0, 1, 2, 3] rfl)
      intro v1 v2 v3 σ H locs ls hF hw hl
      replace hF : F_Md_closes_B47 (fx_loop3 (F_Md_closes_B47) n47) v1 v2 v3 σ = some res := hF
      rw [← eK47] at hF
      unfold F_Md_closes_B47 at hF
      refine lv_iload_n hx hb d_Md_closes_47 rfl (lv_at hl 3 rfl) ?_
      refine lv_iload_n hx hb d_Md_closes_48 rfl (lv_at hl 1 rfl) ?_
      refine lv_icmp_ge (tgt := 88) hx hb d_Md_closes_49 (by decide) (fun hc => ?_) (fun hc => ?_)
      · have hF := fx_it hc hF
        exact hend _ _ _ _ _ d_Md_closes_88 hF hw
      · have hF := fx_if hc hF
        refine lv_aload_n hx hb d_Md_closes_52 rfl (lv_at hl 0 rfl) ?_
        refine gR_Md_waits X hw lk_Md_69 d_Md_closes_53 ?_
        refine lv_iload_n hx hb d_Md_closes_56 rfl (lv_at hl 3 rfl) ?_
        refine lv_aload_n hx hb d_Md_closes_57 rfl (lv_at hl 0 rfl) ?_
        refine gR_Md_waits X hw lk_Md_69 d_Md_closes_58 ?_
        refine lv_iload_n hx hb d_Md_closes_61 rfl (lv_at hl 3 rfl) ?_
        refine lA_Md_waits X hw d_Md_closes_62 hF (fun x4 hF => ?_)
        refine lv_if_eq (tgt := 80) hx hb d_Md_closes_63 (by decide) (fun hc => ?_) (fun hc => ?_)
        · have hF := fx_it hc hF
          exact h80 v1 v2 v3 v3 _ _ _ _ hF hw (lv_sub hl [0, 1, 2, 3] rfl)
        · have hF := fx_if hc hF
          refine lv_aload_n hx hb d_Md_closes_66 rfl (lv_at hl 0 rfl) ?_
          refine gR_Md_group X hw lk_Md_63 d_Md_closes_67 ?_
          refine lv_iload_n hx hb d_Md_closes_70 rfl (lv_at hl 3 rfl) ?_
          refine lA_Md_group X hw d_Md_closes_71 hF (fun x6 hF => ?_)
          refine lv_iload_n hx hb d_Md_closes_72 rfl (lv_at hl 2 rfl) ?_
          refine lv_icmp_eq (tgt := 80) hx hb d_Md_closes_73 (by decide) (fun hc => ?_) (fun hc => ?_)
          · have hF := fx_it hc hF
            exact h80 v1 v2 v3 v3 _ _ _ _ hF hw (lv_sub hl [0, 1, 2, 3] rfl)
          · have hF := fx_if hc hF
            refine lv_iconst (v := 1) hx hb d_Md_closes_76 (by decide) ?_
            refine lv_goto (tgt := 81) hx hb d_Md_closes_77 (by decide) ?_
            exact h81 v1 v2 v3 1 v3 _ _ _ _ hF hw (lv_sub hl [0, 1, 2, 3] rfl)
  have h43 : ∀ (v1 : Int32) (v2 : Int32) (σ : fx_S) (H : Heap) (locs : List Loc) (ls : Array Slot), F_Md_closes_J43 v1 v2 σ = some res → fx_B D fx_cl (rf_ws h cA) A s.heap σ H locs → lv_has ls 4 [(0, .ref (h 0)), (1, .int v1), (2, .int v2)] → W p l e { frames := 1, cells := 0, slots := 0, locals := 23 } s m args below meth c H locs 0 0 Q (F0 m 43 ls []) := by
    intro v1 v2 σ H locs ls hF hw hl
    unfold F_Md_closes_J43 at hF
    refine lv_iload_n hx hb d_Md_closes_43 rfl (lv_at hl 2 rfl) ?_
    refine lv_iconst (v := 1) hx hb d_Md_closes_44 (by decide) ?_
    refine lv_iadd hx hb d_Md_closes_45 ?_
    refine fx_topi hF (fun x3 hF => ?_)
    refine lv_istore_n (lv' := [(3, .int x3), (0, .ref (h 0)), (1, .int v1), (2, .int v2)]) hx hb d_Md_closes_46 rfl hl (by decide) rfl (fun ls hl => ?_)
    exact h47 fx_fuel v1 v2 x3 _ _ _ _ hF hw (lv_sub hl [1, 2, 3, 0] rfl)
  refine lv_aload_n hx hb d_Md_closes_0 rfl (lv_at hl 0 rfl) ?_
  refine gR_Md_match X hw lk_Md_66 d_Md_closes_1 ?_
  refine lv_iload_n hx hb d_Md_closes_4 rfl (lv_at hl 1 rfl) ?_
  refine lA_Md_match X hw d_Md_closes_5 hF (fun x1 hF => ?_)
  refine lv_istore_n (lv' := [(2, .int x1), (0, .ref (h 0)), (1, .int v1)]) hx hb d_Md_closes_6 rfl hl (by decide) rfl (fun ls hl => ?_)
  refine lv_aload_n hx hb d_Md_closes_7 rfl (lv_at hl 1 rfl) ?_
  refine gR_Md_kinds X hw lk_Md_19 d_Md_closes_8 ?_
  refine lv_iload_n hx hb d_Md_closes_11 rfl (lv_at hl 2 rfl) ?_
  refine lv_iconst (v := 1) hx hb d_Md_closes_12 (by decide) ?_
  refine lv_isub hx hb d_Md_closes_13 ?_
  refine lA_Md_kinds X hw d_Md_closes_14 hF (fun x2 hF => ?_)
  refine lv_iconst (v := 1) hx hb d_Md_closes_15 (by decide) ?_
  refine lv_icmp_ne (tgt := 43) hx hb d_Md_closes_16 (by decide) (fun hc => ?_) (fun hc => ?_)
  · have hF := fx_if hc hF
    exact h43 v1 x1 _ _ _ _ hF hw (lv_sub hl [1, 2, 0] rfl)
  · have hF := fx_it hc hF
    refine lv_aload_n hx hb d_Md_closes_19 rfl (lv_at hl 1 rfl) ?_
    refine lv_iload_n hx hb d_Md_closes_20 rfl (lv_at hl 0 rfl) ?_
    refine lv_iload_n hx hb d_Md_closes_21 rfl (lv_at hl 2 rfl) ?_
    refine lv_iconst (v := 1) hx hb d_Md_closes_22 (by decide) ?_
    refine lv_isub hx hb d_Md_closes_23 ?_
    refine k_Md_newest X hw lk_Md_190 d_Md_closes_24 hl.1 (lv_room (Nat.le_of_ble_eq_true rfl)) ⟨Nat.le_of_ble_eq_true rfl, Nat.le_of_ble_eq_true rfl⟩ ⟨Nat.zero_le _, Nat.zero_le _⟩ hF (fun x7 σ H locs hF hw => ?_)
    refine lv_istore_n (lv' := [(3, .int x7), (2, .int x1), (0, .ref (h 0)), (1, .int v1)]) hx hb d_Md_closes_27 rfl hl (by decide) rfl (fun ls hl => ?_)
    refine lv_iload_n hx hb d_Md_closes_28 rfl (lv_at hl 0 rfl) ?_
    refine lv_iconst (v := (-1)) hx hb d_Md_closes_29 (by decide) ?_
    refine lv_icmp_eq (tgt := 43) hx hb d_Md_closes_30 (by decide) (fun hc => ?_) (fun hc => ?_)
    · have hF := fx_it hc hF
      exact h43 v1 x1 _ _ _ _ hF hw (lv_sub hl [2, 3, 1] rfl)
    · have hF := fx_if hc hF
      refine lv_aload_n hx hb d_Md_closes_33 rfl (lv_at hl 2 rfl) ?_
      refine lv_iconst (v := 3) hx hb d_Md_closes_34 (by decide) ?_
      refine lv_iload_n hx hb d_Md_closes_35 rfl (lv_at hl 0 rfl) ?_
      refine lv_iload_n hx hb d_Md_closes_36 rfl (lv_at hl 3 rfl) ?_
      refine lv_iconst (v := 1) hx hb d_Md_closes_37 (by decide) ?_
      refine lv_isub hx hb d_Md_closes_38 ?_
      refine k_Md_clashes X hw lk_Md_193 d_Md_closes_39 hl.1 (lv_room (Nat.le_of_ble_eq_true rfl)) ⟨Nat.le_of_ble_eq_true rfl, Nat.le_of_ble_eq_true rfl⟩ ⟨Nat.zero_le _, Nat.zero_le _⟩ hF (fun σ H locs hF hw => ?_)
      exact hend _ _ _ _ _ d_Md_closes_42 hF hw
section
variable {p : Program} {l : Launch} {e : Env} {R : Room} {s : State} {m : MethodId} {args : Array Value} {below : List Frame} {meth : Method} {c : Code} {H : Heap} {locs : List Loc} {cells slots : Nat} {Q : State → Prop}
variable {cc : ByteArray} {pc nL ix : Nat} {ls : Array Slot} {rest : List Value} {own : String} {D : va_G} {A : Nat → Prop} {h : Nat → Nat} {cA : Nat → ClassId} {σ : fx_S} {β : Type} {res : β × fx_S}
theorem k_Md_closes {v1 : Int32} (X : fx_X p m c cc nL s args own D fx_cl (fx_tys cA) fx_g fx_G A) (hw : fx_B D fx_cl (rf_ws h cA) A s.heap σ H locs) (lk : Cond.methodLink own ix y_Md_closes ∈ fx_g) (hdg : decode cc pc = .ok (.invokevirtual ix, 3)) (hsize : ls.size = nL) (hW : 2 * (F0 m pc ls (.int v1 :: .ref (h 0) :: rest)).monitorRoom + (rest.map fun v => v.category).sum ≤ 8) (hR : 1 + 1 ≤ R.frames ∧ 8 + (4 + 11) + 23 ≤ R.locals) (hf : cells ≤ R.cells ∧ slots ≤ R.slots) {k : Unit → fx_M β} (hF : fx_bnd (F_Md_closes v1) k σ = some res) (kk : ∀ (σ' : fx_S) (H' : Heap) (locs' : List Loc), k () σ' = some res → fx_B D fx_cl (rf_ws h cA) A s.heap σ' H' locs' → W p l e R s m args below meth c H' locs' cells slots Q (F0 m (pc + 3) ls rest)) : W p l e R s m args below meth c H locs cells slots Q (F0 m pc ls (.int v1 :: .ref (h 0) :: rest)) :=
  fx_call_v X hw (c_Md_closes l D h cA v1) (fx_cwV X lk hg_Md_closes fx_gok (rm := { frames := 1, cells := 0, slots := 0, locals := 23 }) rfl rfl (by decide +kernel) hR) (va_recv X.2.1 hw.1 (ci := 8) (q0 := 0) rfl rfl) (n := 1) rfl hdg hsize rfl hW hf hF kk
end
set_option maxHeartbeats 4000000 in
set_option maxRecDepth 100000 in
theorem c_Md_comes (l : Launch) (D : va_G) (h : Nat → Nat) (cA : Nat → ClassId) (v1 : Int32) (v2 : Int32) : fx_Mv l y_Md_comes b_Md_comes 9 none { frames := 2, cells := 0, slots := 0, locals := 46 } D fx_cl (fx_tys cA) fx_g fx_G (rf_ws h cA) [.ref (h 0), .int v1, .int v2] (F_Md_comes v1 v2) := by
  refine fx_start_v fx_G_ok (by decide) (Nat.le_of_ble_eq_true rfl) ?_
  intro p e s m args below meth c A ls σ res Q hF X hw hl hend
  have hx := X.1.1
  have hb := X.1.2.1
  have hl : lv_has ls 9 [(0, .ref (h 0)), (1, .int v1), (2, .int v2)] := hl
  unfold F_Md_comes at hF
  have h103 : ∀ (v2 : Int32) (v5 : Int32) (σ : fx_S) (H : Heap) (locs : List Loc) (ls : Array Slot), F_Md_comes_J103 v2 v5 σ = some res → fx_B D fx_cl (rf_ws h cA) A s.heap σ H locs → lv_has ls 9 [(0, .ref (h 0)), (2, .int v2), (5, .int v5)] → W p l e { frames := 2, cells := 0, slots := 0, locals := 46 } s m args below meth c H locs 0 0 Q (F0 m 103 ls []) := by
    intro v2 v5 σ H locs ls hF hw hl
    unfold F_Md_comes_J103 at hF
    refine lv_aload_n hx hb d_Md_comes_103 rfl (lv_at hl 0 rfl) ?_
    refine lv_iconst (v := 1) hx hb d_Md_comes_104 (by decide) ?_
    refine lv_iload hx hb d_Md_comes_105 (lv_at hl 2 rfl) ?_
    refine lv_iload_n hx hb d_Md_comes_107 rfl (lv_at hl 1 rfl) ?_
    refine k_Md_clashes X hw lk_Md_193 d_Md_comes_108 hl.1 (lv_room (Nat.le_of_ble_eq_true rfl)) ⟨Nat.le_of_ble_eq_true rfl, Nat.le_of_ble_eq_true rfl⟩ ⟨Nat.zero_le _, Nat.zero_le _⟩ hF (fun σ H locs hF hw => ?_)
    exact hend _ _ _ _ _ d_Md_comes_111 hF hw
  have h51 : ∀ (n51 : Nat) (v1 : Int32) (v2 : Int32) (v3 : Int32) (v4 : Int32) (v5 : Int32) (v6 : Int32) (σ : fx_S) (H : Heap) (locs : List Loc) (ls : Array Slot), fx_loop6 (F_Md_comes_B51) n51 v1 v2 v3 v4 v5 v6 σ = some res → fx_B D fx_cl (rf_ws h cA) A s.heap σ H locs → lv_has ls 9 [(0, .ref (h 0)), (1, .int v1), (2, .int v2), (3, .int v3), (4, .int v4), (5, .int v5), (6, .int v6)] → W p l e { frames := 2, cells := 0, slots := 0, locals := 46 } s m args below meth c H locs 0 0 Q (F0 m 51 ls []) := by
    intro n51
    induction n51 with
    | zero => intro v1 v2 v3 v4 v5 v6 σ H locs ls hF; cases hF
    | succ n51 ih51 =>
      obtain ⟨K51, eK51⟩ : ∃ K, K = fx_loop6 (F_Md_comes_B51) n51 := ⟨_, rfl⟩
      rw [← eK51] at ih51
      have h214 : ∀ (v1 : Int32) (v2 : Int32) (v3 : Int32) (v4 : Int32) (v5 : Int32) (v6 : Int32) (σ : fx_S) (H : Heap) (locs : List Loc) (ls : Array Slot), F_Md_comes_J214 K51 v1 v2 v3 v4 v5 v6 σ = some res → fx_B D fx_cl (rf_ws h cA) A s.heap σ H locs → lv_has ls 9 [(0, .ref (h 0)), (1, .int v1), (2, .int v2), (3, .int v3), (4, .int v4), (5, .int v5), (6, .int v6)] → W p l e { frames := 2, cells := 0, slots := 0, locals := 46 } s m args below meth c H locs 0 0 Q (F0 m 214 ls []) := by
        intro v1 v2 v3 v4 v5 v6 σ H locs ls hF hw hl
        unfold F_Md_comes_J214 at hF
        refine lv_goto (tgt := 51) hx hb d_Md_comes_214 (by decide) ?_
        exact ih51 v1 v2 v3 v4 v5 v6 _ _ _ _ hF hw (lv_sub hl [0, 1, 2, 3, 4, 5, 6] rfl)
      have h211 : ∀ (v1 : Int32) (v2 : Int32) (v3 : Int32) (v4 : Int32) (v5 : Int32) (σ : fx_S) (H : Heap) (locs : List Loc) (ls : Array Slot), F_Md_comes_J211 K51 v1 v2 v3 v4 v5 σ = some res → fx_B D fx_cl (rf_ws h cA) A s.heap σ H locs → lv_has ls 9 [(0, .ref (h 0)), (1, .int v1), (2, .int v2), (3, .int v3), (4, .int v4), (5, .int v5)] → W p l e { frames := 2, cells := 0, slots := 0, locals := 46 } s m args below meth c H locs 0 0 Q (F0 m 211 ls []) := by
        intro v1 v2 v3 v4 v5 σ H locs ls hF hw hl
        unfold F_Md_comes_J211 at hF
        refine lv_iconst (v := 0) hx hb d_Md_comes_211 (by decide) ?_
        refine lv_istore (lv' := [(6, .int 0), (0, .ref (h 0)), (1, .int v1), (2, .int v2), (3, .int v3), (4, .int v4), (5, .int v5)]) hx hb d_Md_comes_212 hl (by decide) rfl (fun ls hl => ?_)
        exact h214 v1 v2 v3 v4 v5 0 _ _ _ _ hF hw (lv_sub hl [1, 2, 3, 4, 5, 6, 0] rfl)
      have h184 : ∀ (v1 : Int32) (v2 : Int32) (v3 : Int32) (v4 : Int32) (v5 : Int32) (σ : fx_S) (H : Heap) (locs : List Loc) (ls : Array Slot), F_Md_comes_J184 K51 v1 v2 v3 v4 v5 σ = some res → fx_B D fx_cl (rf_ws h cA) A s.heap σ H locs → lv_has ls 9 [(0, .ref (h 0)), (1, .int v1), (2, .int v2), (3, .int v3), (4, .int v4), (5, .int v5)] → W p l e { frames := 2, cells := 0, slots := 0, locals := 46 } s m args below meth c H locs 0 0 Q (F0 m 184 ls []) := by
        intro v1 v2 v3 v4 v5 σ H locs ls hF hw hl
        unfold F_Md_comes_J184 at hF
        refine lv_aload_n hx hb d_Md_comes_184 rfl (lv_at hl 0 rfl) ?_
        refine gI_Md_isPattern X hw lk_Md_146 d_Md_comes_185 hF (fun x14 hF => ?_)
        refine lv_if_eq (tgt := 211) hx hb d_Md_comes_188 (by decide) (fun hc => ?_) (fun hc => ?_)
        · have hF := fx_it hc hF
          exact h211 v1 v2 v3 v4 v5 _ _ _ _ hF hw (lv_sub hl [0, 1, 2, 3, 4, 5] rfl)
        · have hF := fx_if hc hF
          refine lv_aload_n hx hb d_Md_comes_191 rfl (lv_at hl 0 rfl) ?_
          refine gR_Md_kinds X hw lk_Md_19 d_Md_comes_192 ?_
          refine lv_iload hx hb d_Md_comes_195 (lv_at hl 5 rfl) ?_
          refine lA_Md_kinds X hw d_Md_comes_197 hF (fun x15 hF => ?_)
          refine lv_iconst (v := 2) hx hb d_Md_comes_198 (by decide) ?_
          refine lv_icmp_ne (tgt := 211) hx hb d_Md_comes_199 (by decide) (fun hc => ?_) (fun hc => ?_)
          · have hF := fx_if hc hF
            exact h211 v1 v2 v3 v4 v5 _ _ _ _ hF hw (lv_sub hl [0, 1, 2, 3, 4, 5] rfl)
          · have hF := fx_it hc hF
            refine lv_aload_n hx hb d_Md_comes_202 rfl (lv_at hl 0 rfl) ?_
            refine lv_iconst (v := 4) hx hb d_Md_comes_203 (by decide) ?_
            refine lv_iload hx hb d_Md_comes_204 (lv_at hl 5 rfl) ?_
            refine lv_iload_n hx hb d_Md_comes_206 rfl (lv_at hl 2 rfl) ?_
            refine k_Md_clashes X hw lk_Md_193 d_Md_comes_207 hl.1 (lv_room (Nat.le_of_ble_eq_true rfl)) ⟨Nat.le_of_ble_eq_true rfl, Nat.le_of_ble_eq_true rfl⟩ ⟨Nat.zero_le _, Nat.zero_le _⟩ hF (fun σ H locs hF hw => ?_)
            exact hend _ _ _ _ _ d_Md_comes_210 hF hw
      have h179 : ∀ (v1 : Int32) (v2 : Int32) (v3 : Int32) (v4 : Int32) (v5 : Int32) (t0 : Int32) (σ : fx_S) (H : Heap) (locs : List Loc) (ls : Array Slot), F_Md_comes_J179 K51 v1 v2 v3 v4 v5 t0 σ = some res → fx_B D fx_cl (rf_ws h cA) A s.heap σ H locs → lv_has ls 9 [(0, .ref (h 0)), (1, .int v1), (2, .int v2), (3, .int v3), (4, .int v4), (5, .int v5)] → W p l e { frames := 2, cells := 0, slots := 0, locals := 46 } s m args below meth c H locs 0 0 Q (F0 m 179 ls [.int t0]) := by
        intro v1 v2 v3 v4 v5 t0 σ H locs ls hF hw hl
        unfold F_Md_comes_J179 at hF
        refine lv_istore (lv' := [(6, .int t0), (0, .ref (h 0)), (1, .int v1), (2, .int v2), (3, .int v3), (4, .int v4), (5, .int v5)]) hx hb d_Md_comes_179 hl (by decide) rfl (fun ls hl => ?_)
        refine lv_goto (tgt := 214) hx hb d_Md_comes_181 (by decide) ?_
        exact h214 v1 v2 v3 v4 v5 t0 _ _ _ _ hF hw (lv_sub hl [1, 2, 3, 4, 5, 6, 0] rfl)
      have h129 : ∀ (v1 : Int32) (v2 : Int32) (v3 : Int32) (v4 : Int32) (v5 : Int32) (σ : fx_S) (H : Heap) (locs : List Loc) (ls : Array Slot), F_Md_comes_J129 K51 v1 v2 v3 v4 v5 σ = some res → fx_B D fx_cl (rf_ws h cA) A s.heap σ H locs → lv_has ls 9 [(0, .ref (h 0)), (1, .int v1), (2, .int v2), (3, .int v3), (4, .int v4), (5, .int v5)] → W p l e { frames := 2, cells := 0, slots := 0, locals := 46 } s m args below meth c H locs 0 0 Q (F0 m 129 ls []) := by
        intro v1 v2 v3 v4 v5 σ H locs ls hF hw hl
        unfold F_Md_comes_J129 at hF
        refine lv_aload_n hx hb d_Md_comes_129 rfl (lv_at hl 0 rfl) ?_
        refine lv_iload hx hb d_Md_comes_130 (lv_at hl 5 rfl) ?_
        refine k_Md_begins X hw lk_Md_162 d_Md_comes_132 hl.1 (lv_room (Nat.le_of_ble_eq_true rfl)) ⟨Nat.le_of_ble_eq_true rfl, Nat.le_of_ble_eq_true rfl⟩ ⟨Nat.zero_le _, Nat.zero_le _⟩ hF (fun x11 σ H locs hF hw => ?_)
        refine lv_if_eq (tgt := 147) hx hb d_Md_comes_135 (by decide) (fun hc => ?_) (fun hc => ?_)
        · have hF := fx_it hc hF
          refine lv_aload_n hx hb d_Md_comes_147 rfl (lv_at hl 0 rfl) ?_
          refine gR_Md_waits X hw lk_Md_69 d_Md_comes_148 ?_
          refine lv_iload hx hb d_Md_comes_151 (lv_at hl 5 rfl) ?_
          refine lv_iconst (v := 0) hx hb d_Md_comes_153 (by decide) ?_
          refine sA_Md_waits X hw d_Md_comes_154 hF (fun σ H locs hF hw => ?_)
          refine lv_aload_n hx hb d_Md_comes_155 rfl (lv_at hl 0 rfl) ?_
          refine lv_aload_n hx hb d_Md_comes_156 rfl (lv_at hl 0 rfl) ?_
          refine gR_Md_group X hw lk_Md_63 d_Md_comes_157 ?_
          refine lv_iload_n hx hb d_Md_comes_160 rfl (lv_at hl 2 rfl) ?_
          refine lA_Md_group X hw d_Md_comes_161 hF (fun x12 hF => ?_)
          refine lv_iload_n hx hb d_Md_comes_162 rfl (lv_at hl 2 rfl) ?_
          refine k_Md_newest X hw lk_Md_190 d_Md_comes_163 hl.1 (lv_room (Nat.le_of_ble_eq_true rfl)) ⟨Nat.le_of_ble_eq_true rfl, Nat.le_of_ble_eq_true rfl⟩ ⟨Nat.zero_le _, Nat.zero_le _⟩ hF (fun x13 σ H locs hF hw => ?_)
          refine lv_istore (lv' := [(5, .int x13), (0, .ref (h 0)), (1, .int v1), (2, .int v2), (3, .int v3), (4, .int v4)]) hx hb d_Md_comes_166 hl (by decide) rfl (fun ls hl => ?_)
          refine lv_iload hx hb d_Md_comes_168 (lv_at hl 0 rfl) ?_
          refine lv_iconst (v := (-1)) hx hb d_Md_comes_170 (by decide) ?_
          refine lv_icmp_eq (tgt := 178) hx hb d_Md_comes_171 (by decide) (fun hc => ?_) (fun hc => ?_)
          · have hF := fx_it hc hF
            refine lv_iconst (v := 0) hx hb d_Md_comes_178 (by decide) ?_
            exact h179 v1 v2 v3 v4 x13 0 _ _ _ _ hF hw (lv_sub hl [1, 2, 3, 4, 5, 0] rfl)
          · have hF := fx_if hc hF
            refine lv_iconst (v := 1) hx hb d_Md_comes_174 (by decide) ?_
            refine lv_goto (tgt := 179) hx hb d_Md_comes_175 (by decide) ?_
            exact h179 v1 v2 v3 v4 x13 1 _ _ _ _ hF hw (lv_sub hl [1, 2, 3, 4, 5, 0] rfl)
        · have hF := fx_if hc hF
          refine lv_aload_n hx hb d_Md_comes_138 rfl (lv_at hl 0 rfl) ?_
          refine lv_iconst (v := 3) hx hb d_Md_comes_139 (by decide) ?_
          refine lv_iload hx hb d_Md_comes_140 (lv_at hl 5 rfl) ?_
          refine lv_iload_n hx hb d_Md_comes_142 rfl (lv_at hl 2 rfl) ?_
          refine k_Md_clashes X hw lk_Md_193 d_Md_comes_143 hl.1 (lv_room (Nat.le_of_ble_eq_true rfl)) ⟨Nat.le_of_ble_eq_true rfl, Nat.le_of_ble_eq_true rfl⟩ ⟨Nat.zero_le _, Nat.zero_le _⟩ hF (fun σ H locs hF hw => ?_)
          exact hend _ _ _ _ _ d_Md_comes_146 hF hw
      have h112 : ∀ (v1 : Int32) (v2 : Int32) (v3 : Int32) (v4 : Int32) (v5 : Int32) (v7 : Int32) (σ : fx_S) (H : Heap) (locs : List Loc) (ls : Array Slot), F_Md_comes_J112 K51 v1 v2 v3 v4 v5 v7 σ = some res → fx_B D fx_cl (rf_ws h cA) A s.heap σ H locs → lv_has ls 9 [(0, .ref (h 0)), (1, .int v1), (2, .int v2), (3, .int v3), (4, .int v4), (5, .int v5), (7, .int v7)] → W p l e { frames := 2, cells := 0, slots := 0, locals := 46 } s m args below meth c H locs 0 0 Q (F0 m 112 ls []) := by
        intro v1 v2 v3 v4 v5 v7 σ H locs ls hF hw hl
        unfold F_Md_comes_J112 at hF
        refine lv_iload hx hb d_Md_comes_112 (lv_at hl 6 rfl) ?_
        refine lv_iload_n hx hb d_Md_comes_114 rfl (lv_at hl 3 rfl) ?_
        refine lv_icmp_gt (tgt := 129) hx hb d_Md_comes_115 (by decide) (fun hc => ?_) (fun hc => ?_)
        · have hF := fx_it hc hF
          exact h129 v1 v2 v3 v4 v5 _ _ _ _ hF hw (lv_sub hl [0, 1, 2, 3, 4, 5] rfl)
        · have hF := fx_if hc hF
          refine lv_iload hx hb d_Md_comes_118 (lv_at hl 6 rfl) ?_
          refine lv_iload_n hx hb d_Md_comes_120 rfl (lv_at hl 3 rfl) ?_
          refine lv_icmp_ne (tgt := 184) hx hb d_Md_comes_121 (by decide) (fun hc => ?_) (fun hc => ?_)
          · have hF := fx_if hc hF
            exact h184 v1 v2 v3 v4 v5 _ _ _ _ hF hw (lv_sub hl [0, 1, 2, 3, 4, 5] rfl)
          · have hF := fx_it hc hF
            refine lv_iload hx hb d_Md_comes_124 (lv_at hl 4 rfl) ?_
            refine lv_if_ne (tgt := 184) hx hb d_Md_comes_126 (by decide) (fun hc => ?_) (fun hc => ?_)
            · have hF := fx_if hc hF
              exact h184 v1 v2 v3 v4 v5 _ _ _ _ hF hw (lv_sub hl [0, 1, 2, 3, 4, 5] rfl)
            · have hF := fx_it hc hF
              exact h129 v1 v2 v3 v4 v5 _ _ _ _ hF hw (lv_sub hl [0, 1, 2, 3, 4, 5] rfl)
      intro v1 v2 v3 v4 v5 v6 σ H locs ls hF hw hl
      replace hF : F_Md_comes_B51 (fx_loop6 (F_Md_comes_B51) n51) v1 v2 v3 v4 v5 v6 σ = some res := hF
      rw [← eK51] at hF
      unfold F_Md_comes_B51 at hF
      refine lv_iload hx hb d_Md_comes_51 (lv_at hl 6 rfl) ?_
      refine lv_if_eq (tgt := 217) hx hb d_Md_comes_53 (by decide) (fun hc => ?_) (fun hc => ?_)
      · have hF := fx_it hc hF
        refine lv_aload_n hx hb d_Md_comes_217 rfl (lv_at hl 0 rfl) ?_
        refine gR_Md_waits X hw lk_Md_69 d_Md_comes_218 ?_
        refine lv_iload_n hx hb d_Md_comes_221 rfl (lv_at hl 2 rfl) ?_
        refine lv_iconst (v := 1) hx hb d_Md_comes_222 (by decide) ?_
        refine sA_Md_waits X hw d_Md_comes_223 hF (fun σ H locs hF hw => ?_)
        exact hend _ _ _ _ _ d_Md_comes_224 hF hw
      · have hF := fx_if hc hF
        refine lv_aload_n hx hb d_Md_comes_56 rfl (lv_at hl 0 rfl) ?_
        refine lv_iload_n hx hb d_Md_comes_57 rfl (lv_at hl 1 rfl) ?_
        refine lv_aload_n hx hb d_Md_comes_58 rfl (lv_at hl 0 rfl) ?_
        refine gR_Md_operators X hw lk_Md_22 d_Md_comes_59 ?_
        refine lv_iload hx hb d_Md_comes_62 (lv_at hl 5 rfl) ?_
        refine lA_Md_operators X hw d_Md_comes_64 hF (fun x7 hF => ?_)
        refine k_Md_rankOf X hw lk_Md_137 d_Md_comes_65 hl.1 (lv_room (Nat.le_of_ble_eq_true rfl)) ⟨Nat.le_of_ble_eq_true rfl, Nat.le_of_ble_eq_true rfl⟩ ⟨Nat.zero_le _, Nat.zero_le _⟩ hF (fun x8 σ H locs hF hw => ?_)
        refine lv_istore (lv' := [(7, .int x8), (0, .ref (h 0)), (1, .int v1), (2, .int v2), (3, .int v3), (4, .int v4), (5, .int v5), (6, .int v6)]) hx hb d_Md_comes_68 hl (by decide) rfl (fun ls hl => ?_)
        refine lv_aload_n hx hb d_Md_comes_70 rfl (lv_at hl 1 rfl) ?_
        refine lv_iload_n hx hb d_Md_comes_71 rfl (lv_at hl 2 rfl) ?_
        refine lv_aload_n hx hb d_Md_comes_72 rfl (lv_at hl 1 rfl) ?_
        refine gR_Md_operators X hw lk_Md_22 d_Md_comes_73 ?_
        refine lv_iload hx hb d_Md_comes_76 (lv_at hl 6 rfl) ?_
        refine lA_Md_operators X hw d_Md_comes_78 hF (fun x9 hF => ?_)
        refine k_Md_sideOf X hw lk_Md_134 d_Md_comes_79 hl.1 (lv_room (Nat.le_of_ble_eq_true rfl)) ⟨Nat.le_of_ble_eq_true rfl, Nat.le_of_ble_eq_true rfl⟩ ⟨Nat.zero_le _, Nat.zero_le _⟩ hF (fun x10 σ H locs hF hw => ?_)
        refine lv_istore (lv' := [(8, .int x10), (7, .int x8), (0, .ref (h 0)), (1, .int v1), (2, .int v2), (3, .int v3), (4, .int v4), (5, .int v5), (6, .int v6)]) hx hb d_Md_comes_82 hl (by decide) rfl (fun ls hl => ?_)
        refine lv_iload hx hb d_Md_comes_84 (lv_at hl 1 rfl) ?_
        refine lv_iload_n hx hb d_Md_comes_86 rfl (lv_at hl 5 rfl) ?_
        refine lv_icmp_ne (tgt := 112) hx hb d_Md_comes_87 (by decide) (fun hc => ?_) (fun hc => ?_)
        · have hF := fx_if hc hF
          exact h112 v1 v2 v3 v4 v5 x8 _ _ _ _ hF hw (lv_sub hl [2, 3, 4, 5, 6, 7, 1] rfl)
        · have hF := fx_it hc hF
          refine lv_iload hx hb d_Md_comes_90 (lv_at hl 0 rfl) ?_
          refine lv_iload hx hb d_Md_comes_92 (lv_at hl 6 rfl) ?_
          refine lv_icmp_ne (tgt := 103) hx hb d_Md_comes_94 (by decide) (fun hc => ?_) (fun hc => ?_)
          · have hF := fx_if hc hF
            exact h103 v2 v5 _ _ _ _ hF hw (lv_sub hl [2, 4, 7] rfl)
          · have hF := fx_it hc hF
            refine lv_iload hx hb d_Md_comes_97 (lv_at hl 6 rfl) ?_
            refine lv_iconst (v := 1) hx hb d_Md_comes_99 (by decide) ?_
            refine lv_icmp_le (tgt := 112) hx hb d_Md_comes_100 (by decide) (fun hc => ?_) (fun hc => ?_)
            · have hF := fx_it hc hF
              exact h112 v1 v2 v3 v4 v5 x8 _ _ _ _ hF hw (lv_sub hl [2, 3, 4, 5, 6, 7, 1] rfl)
            · have hF := fx_if hc hF
              exact h103 v2 v5 _ _ _ _ hF hw (lv_sub hl [2, 4, 7] rfl)
  have h49 : ∀ (v1 : Int32) (v2 : Int32) (v3 : Int32) (v4 : Int32) (v5 : Int32) (t0 : Int32) (σ : fx_S) (H : Heap) (locs : List Loc) (ls : Array Slot), F_Md_comes_J49 v1 v2 v3 v4 v5 t0 σ = some res → fx_B D fx_cl (rf_ws h cA) A s.heap σ H locs → lv_has ls 9 [(0, .ref (h 0)), (1, .int v1), (2, .int v2), (3, .int v3), (4, .int v4), (5, .int v5)] → W p l e { frames := 2, cells := 0, slots := 0, locals := 46 } s m args below meth c H locs 0 0 Q (F0 m 49 ls [.int t0]) := by
    intro v1 v2 v3 v4 v5 t0 σ H locs ls hF hw hl
    unfold F_Md_comes_J49 at hF
    refine lv_istore (lv' := [(6, .int t0), (0, .ref (h 0)), (1, .int v1), (2, .int v2), (3, .int v3), (4, .int v4), (5, .int v5)]) hx hb d_Md_comes_49 hl (by decide) rfl (fun ls hl => ?_)
    exact h51 fx_fuel v1 v2 v3 v4 v5 t0 _ _ _ _ hF hw (lv_sub hl [1, 2, 3, 4, 5, 6, 0] rfl)
  refine lv_aload_n hx hb d_Md_comes_0 rfl (lv_at hl 0 rfl) ?_
  refine lv_iload_n hx hb d_Md_comes_1 rfl (lv_at hl 1 rfl) ?_
  refine lv_aload_n hx hb d_Md_comes_2 rfl (lv_at hl 0 rfl) ?_
  refine gR_Md_operators X hw lk_Md_22 d_Md_comes_3 ?_
  refine lv_iload_n hx hb d_Md_comes_6 rfl (lv_at hl 2 rfl) ?_
  refine lA_Md_operators X hw d_Md_comes_7 hF (fun x1 hF => ?_)
  refine k_Md_rankOf X hw lk_Md_137 d_Md_comes_8 hl.1 (lv_room (Nat.le_of_ble_eq_true rfl)) ⟨Nat.le_of_ble_eq_true rfl, Nat.le_of_ble_eq_true rfl⟩ ⟨Nat.zero_le _, Nat.zero_le _⟩ hF (fun x2 σ H locs hF hw => ?_)
  refine lv_istore_n (lv' := [(3, .int x2), (0, .ref (h 0)), (1, .int v1), (2, .int v2)]) hx hb d_Md_comes_11 rfl hl (by decide) rfl (fun ls hl => ?_)
  refine lv_aload_n hx hb d_Md_comes_12 rfl (lv_at hl 1 rfl) ?_
  refine lv_iload_n hx hb d_Md_comes_13 rfl (lv_at hl 2 rfl) ?_
  refine lv_aload_n hx hb d_Md_comes_14 rfl (lv_at hl 1 rfl) ?_
  refine gR_Md_operators X hw lk_Md_22 d_Md_comes_15 ?_
  refine lv_iload_n hx hb d_Md_comes_18 rfl (lv_at hl 3 rfl) ?_
  refine lA_Md_operators X hw d_Md_comes_19 hF (fun x3 hF => ?_)
  refine k_Md_sideOf X hw lk_Md_134 d_Md_comes_20 hl.1 (lv_room (Nat.le_of_ble_eq_true rfl)) ⟨Nat.le_of_ble_eq_true rfl, Nat.le_of_ble_eq_true rfl⟩ ⟨Nat.zero_le _, Nat.zero_le _⟩ hF (fun x4 σ H locs hF hw => ?_)
  refine lv_istore (lv' := [(4, .int x4), (3, .int x2), (0, .ref (h 0)), (1, .int v1), (2, .int v2)]) hx hb d_Md_comes_23 hl (by decide) rfl (fun ls hl => ?_)
  refine lv_aload_n hx hb d_Md_comes_25 rfl (lv_at hl 2 rfl) ?_
  refine lv_aload_n hx hb d_Md_comes_26 rfl (lv_at hl 2 rfl) ?_
  refine gR_Md_group X hw lk_Md_63 d_Md_comes_27 ?_
  refine lv_iload_n hx hb d_Md_comes_30 rfl (lv_at hl 4 rfl) ?_
  refine lA_Md_group X hw d_Md_comes_31 hF (fun x5 hF => ?_)
  refine lv_iload_n hx hb d_Md_comes_32 rfl (lv_at hl 4 rfl) ?_
  refine k_Md_newest X hw lk_Md_190 d_Md_comes_33 hl.1 (lv_room (Nat.le_of_ble_eq_true rfl)) ⟨Nat.le_of_ble_eq_true rfl, Nat.le_of_ble_eq_true rfl⟩ ⟨Nat.zero_le _, Nat.zero_le _⟩ hF (fun x6 σ H locs hF hw => ?_)
  refine lv_istore (lv' := [(5, .int x6), (4, .int x4), (3, .int x2), (0, .ref (h 0)), (1, .int v1), (2, .int v2)]) hx hb d_Md_comes_36 hl (by decide) rfl (fun ls hl => ?_)
  refine lv_iload hx hb d_Md_comes_38 (lv_at hl 0 rfl) ?_
  refine lv_iconst (v := (-1)) hx hb d_Md_comes_40 (by decide) ?_
  refine lv_icmp_eq (tgt := 48) hx hb d_Md_comes_41 (by decide) (fun hc => ?_) (fun hc => ?_)
  · have hF := fx_it hc hF
    refine lv_iconst (v := 0) hx hb d_Md_comes_48 (by decide) ?_
    exact h49 v1 v2 x2 x4 x6 0 _ _ _ _ hF hw (lv_sub hl [3, 4, 5, 2, 1, 0] rfl)
  · have hF := fx_if hc hF
    refine lv_iconst (v := 1) hx hb d_Md_comes_44 (by decide) ?_
    refine lv_goto (tgt := 49) hx hb d_Md_comes_45 (by decide) ?_
    exact h49 v1 v2 x2 x4 x6 1 _ _ _ _ hF hw (lv_sub hl [3, 4, 5, 2, 1, 0] rfl)
section
variable {p : Program} {l : Launch} {e : Env} {R : Room} {s : State} {m : MethodId} {args : Array Value} {below : List Frame} {meth : Method} {c : Code} {H : Heap} {locs : List Loc} {cells slots : Nat} {Q : State → Prop}
variable {cc : ByteArray} {pc nL ix : Nat} {ls : Array Slot} {rest : List Value} {own : String} {D : va_G} {A : Nat → Prop} {h : Nat → Nat} {cA : Nat → ClassId} {σ : fx_S} {β : Type} {res : β × fx_S}
theorem k_Md_comes {v1 : Int32} {v2 : Int32} (X : fx_X p m c cc nL s args own D fx_cl (fx_tys cA) fx_g fx_G A) (hw : fx_B D fx_cl (rf_ws h cA) A s.heap σ H locs) (lk : Cond.methodLink own ix y_Md_comes ∈ fx_g) (hdg : decode cc pc = .ok (.invokevirtual ix, 3)) (hsize : ls.size = nL) (hW : 2 * (F0 m pc ls (.int v2 :: .int v1 :: .ref (h 0) :: rest)).monitorRoom + (rest.map fun v => v.category).sum ≤ 8) (hR : 2 + 1 ≤ R.frames ∧ 8 + (9 + 11) + 46 ≤ R.locals) (hf : cells ≤ R.cells ∧ slots ≤ R.slots) {k : Unit → fx_M β} (hF : fx_bnd (F_Md_comes v1 v2) k σ = some res) (kk : ∀ (σ' : fx_S) (H' : Heap) (locs' : List Loc), k () σ' = some res → fx_B D fx_cl (rf_ws h cA) A s.heap σ' H' locs' → W p l e R s m args below meth c H' locs' cells slots Q (F0 m (pc + 3) ls rest)) : W p l e R s m args below meth c H locs cells slots Q (F0 m pc ls (.int v2 :: .int v1 :: .ref (h 0) :: rest)) :=
  fx_call_v X hw (c_Md_comes l D h cA v1 v2) (fx_cwV X lk hg_Md_comes fx_gok (rm := { frames := 2, cells := 0, slots := 0, locals := 46 }) rfl rfl (by decide +kernel) hR) (va_recv X.2.1 hw.1 (ci := 8) (q0 := 0) rfl rfl) (n := 2) rfl hdg hsize rfl hW hf hF kk
end
set_option maxHeartbeats 4000000 in
set_option maxRecDepth 100000 in
theorem c_Md_negates (l : Launch) (D : va_G) (h : Nat → Nat) (cA : Nat → ClassId) (v1 : Int32) (v2 : Int32) : fx_Mv l y_Md_negates b_Md_negates 4 none { frames := 2, cells := 0, slots := 0, locals := 46 } D fx_cl (fx_tys cA) fx_g fx_G (rf_ws h cA) [.ref (h 0), .int v1, .int v2] (F_Md_negates v1 v2) := by
  refine fx_start_v fx_G_ok (by decide) (Nat.le_of_ble_eq_true rfl) ?_
  intro p e s m args below meth c A ls σ res Q hF X hw hl hend
  have hx := X.1.1
  have hb := X.1.2.1
  have hl : lv_has ls 4 [(0, .ref (h 0)), (1, .int v1), (2, .int v2)] := hl
  unfold F_Md_negates at hF
  have h43 : ∀ (v2 : Int32) (σ : fx_S) (H : Heap) (locs : List Loc) (ls : Array Slot), F_Md_negates_J43 v2 σ = some res → fx_B D fx_cl (rf_ws h cA) A s.heap σ H locs → lv_has ls 4 [(0, .ref (h 0)), (2, .int v2)] → W p l e { frames := 2, cells := 0, slots := 0, locals := 46 } s m args below meth c H locs 0 0 Q (F0 m 43 ls []) := by
    intro v2 σ H locs ls hF hw hl
    unfold F_Md_negates_J43 at hF
    refine lv_aload_n hx hb d_Md_negates_43 rfl (lv_at hl 0 rfl) ?_
    refine gR_Md_waits X hw lk_Md_69 d_Md_negates_44 ?_
    refine lv_iload_n hx hb d_Md_negates_47 rfl (lv_at hl 1 rfl) ?_
    refine lv_iconst (v := 1) hx hb d_Md_negates_48 (by decide) ?_
    refine sA_Md_waits X hw d_Md_negates_49 hF (fun σ H locs hF hw => ?_)
    exact hend _ _ _ _ _ d_Md_negates_50 hF hw
  refine lv_aload_n hx hb d_Md_negates_0 rfl (lv_at hl 0 rfl) ?_
  refine lv_aload_n hx hb d_Md_negates_1 rfl (lv_at hl 0 rfl) ?_
  refine gR_Md_group X hw lk_Md_63 d_Md_negates_2 ?_
  refine lv_iload_n hx hb d_Md_negates_5 rfl (lv_at hl 2 rfl) ?_
  refine lA_Md_group X hw d_Md_negates_6 hF (fun x1 hF => ?_)
  refine lv_iload_n hx hb d_Md_negates_7 rfl (lv_at hl 2 rfl) ?_
  refine k_Md_newest X hw lk_Md_190 d_Md_negates_8 hl.1 (lv_room (Nat.le_of_ble_eq_true rfl)) ⟨Nat.le_of_ble_eq_true rfl, Nat.le_of_ble_eq_true rfl⟩ ⟨Nat.zero_le _, Nat.zero_le _⟩ hF (fun x2 σ H locs hF hw => ?_)
  refine lv_istore_n (lv' := [(3, .int x2), (0, .ref (h 0)), (1, .int v1), (2, .int v2)]) hx hb d_Md_negates_11 rfl hl (by decide) rfl (fun ls hl => ?_)
  refine lv_iload_n hx hb d_Md_negates_12 rfl (lv_at hl 0 rfl) ?_
  refine lv_iconst (v := (-1)) hx hb d_Md_negates_13 (by decide) ?_
  refine lv_icmp_eq (tgt := 43) hx hb d_Md_negates_14 (by decide) (fun hc => ?_) (fun hc => ?_)
  · have hF := fx_it hc hF
    exact h43 v2 _ _ _ _ hF hw (lv_sub hl [1, 3] rfl)
  · have hF := fx_if hc hF
    refine lv_aload_n hx hb d_Md_negates_17 rfl (lv_at hl 1 rfl) ?_
    refine lv_iload_n hx hb d_Md_negates_18 rfl (lv_at hl 2 rfl) ?_
    refine lv_aload_n hx hb d_Md_negates_19 rfl (lv_at hl 1 rfl) ?_
    refine gR_Md_operators X hw lk_Md_22 d_Md_negates_20 ?_
    refine lv_iload_n hx hb d_Md_negates_23 rfl (lv_at hl 0 rfl) ?_
    refine lA_Md_operators X hw d_Md_negates_24 hF (fun x3 hF => ?_)
    refine k_Md_rankOf X hw lk_Md_137 d_Md_negates_25 hl.1 (lv_room (Nat.le_of_ble_eq_true rfl)) ⟨Nat.le_of_ble_eq_true rfl, Nat.le_of_ble_eq_true rfl⟩ ⟨Nat.zero_le _, Nat.zero_le _⟩ hF (fun x4 σ H locs hF hw => ?_)
    refine lv_bipush (v := 6) hx hb d_Md_negates_28 (by decide) ?_
    refine lv_icmp_lt (tgt := 43) hx hb d_Md_negates_30 (by decide) (fun hc => ?_) (fun hc => ?_)
    · have hF := fx_it hc hF
      exact h43 v2 _ _ _ _ hF hw (lv_sub hl [1, 3] rfl)
    · have hF := fx_if hc hF
      refine lv_aload_n hx hb d_Md_negates_33 rfl (lv_at hl 1 rfl) ?_
      refine lv_iconst (v := 2) hx hb d_Md_negates_34 (by decide) ?_
      refine lv_iload_n hx hb d_Md_negates_35 rfl (lv_at hl 0 rfl) ?_
      refine lv_iload_n hx hb d_Md_negates_36 rfl (lv_at hl 3 rfl) ?_
      refine k_Md_clashes X hw lk_Md_193 d_Md_negates_37 hl.1 (lv_room (Nat.le_of_ble_eq_true rfl)) ⟨Nat.le_of_ble_eq_true rfl, Nat.le_of_ble_eq_true rfl⟩ ⟨Nat.zero_le _, Nat.zero_le _⟩ hF (fun σ H locs hF hw => ?_)
      refine lv_goto (tgt := 50) hx hb d_Md_negates_40 (by decide) ?_
      exact hend _ _ _ _ _ d_Md_negates_50 hF hw
section
variable {p : Program} {l : Launch} {e : Env} {R : Room} {s : State} {m : MethodId} {args : Array Value} {below : List Frame} {meth : Method} {c : Code} {H : Heap} {locs : List Loc} {cells slots : Nat} {Q : State → Prop}
variable {cc : ByteArray} {pc nL ix : Nat} {ls : Array Slot} {rest : List Value} {own : String} {D : va_G} {A : Nat → Prop} {h : Nat → Nat} {cA : Nat → ClassId} {σ : fx_S} {β : Type} {res : β × fx_S}
theorem k_Md_negates {v1 : Int32} {v2 : Int32} (X : fx_X p m c cc nL s args own D fx_cl (fx_tys cA) fx_g fx_G A) (hw : fx_B D fx_cl (rf_ws h cA) A s.heap σ H locs) (lk : Cond.methodLink own ix y_Md_negates ∈ fx_g) (hdg : decode cc pc = .ok (.invokevirtual ix, 3)) (hsize : ls.size = nL) (hW : 2 * (F0 m pc ls (.int v2 :: .int v1 :: .ref (h 0) :: rest)).monitorRoom + (rest.map fun v => v.category).sum ≤ 8) (hR : 2 + 1 ≤ R.frames ∧ 8 + (4 + 11) + 46 ≤ R.locals) (hf : cells ≤ R.cells ∧ slots ≤ R.slots) {k : Unit → fx_M β} (hF : fx_bnd (F_Md_negates v1 v2) k σ = some res) (kk : ∀ (σ' : fx_S) (H' : Heap) (locs' : List Loc), k () σ' = some res → fx_B D fx_cl (rf_ws h cA) A s.heap σ' H' locs' → W p l e R s m args below meth c H' locs' cells slots Q (F0 m (pc + 3) ls rest)) : W p l e R s m args below meth c H locs cells slots Q (F0 m pc ls (.int v2 :: .int v1 :: .ref (h 0) :: rest)) :=
  fx_call_v X hw (c_Md_negates l D h cA v1 v2) (fx_cwV X lk hg_Md_negates fx_gok (rm := { frames := 2, cells := 0, slots := 0, locals := 46 }) rfl rfl (by decide +kernel) hR) (va_recv X.2.1 hw.1 (ci := 8) (q0 := 0) rfl rfl) (n := 2) rfl hdg hsize rfl hW hf hF kk
end
