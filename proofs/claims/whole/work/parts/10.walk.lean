set_option maxHeartbeats 4000000 in
set_option maxRecDepth 100000 in
theorem c_Row_kindAt (l : Launch) (D : va_G) (h : Nat → Nat) (cA : Nat → ClassId) (v1 : Int32) : fx_Mi l y_Row_kindAt b_Row_kindAt 2 (some .int) { frames := 1, cells := 0, slots := 0, locals := 21 } D fx_cl (fx_tys cA) fx_g fx_G (fx_ws h cA) [.ref (h 7), .int v1] (F_Row_kindAt v1) := by
  refine fx_start_i fx_G_ok (by decide) (Nat.le_of_ble_eq_true rfl) ?_
  intro p e s m args below meth c A ls σ res Q hF X hw hl hend
  have hx := X.1.1
  have hb := X.1.2.1
  have hl : lv_has ls 2 [(0, .ref (h 7)), (1, .int v1)] := hl
  unfold F_Row_kindAt at hF
  refine lv_aload_n hx hb d_Row_kindAt_0 rfl (lv_at hl 0 rfl) ?_
  refine lv_iload_n hx hb d_Row_kindAt_1 rfl (lv_at hl 1 rfl) ?_
  refine k_Row_has X hw lk_Row_40 d_Row_kindAt_2 hl.1 (lv_room (Nat.le_of_ble_eq_true rfl)) ⟨Nat.le_of_ble_eq_true rfl, Nat.le_of_ble_eq_true rfl⟩ ⟨Nat.zero_le _, Nat.zero_le _⟩ hF (fun x1 σ H locs hF hw => ?_)
  refine lv_if_eq (tgt := 17) hx hb d_Row_kindAt_5 (by decide) (fun hc => ?_) (fun hc => ?_)
  · have hF := fx_it hc hF
    refine lv_iconst (v := (-1)) hx hb d_Row_kindAt_17 (by decide) ?_
    exact hend _ _ _ _ _ _ d_Row_kindAt_18 hF hw
  · have hF := fx_if hc hF
    refine lv_aload_n hx hb d_Row_kindAt_8 rfl (lv_at hl 0 rfl) ?_
    refine gR_Row_kinds X hw lk_Row_9 d_Row_kindAt_9 ?_
    refine lv_iload_n hx hb d_Row_kindAt_12 rfl (lv_at hl 1 rfl) ?_
    refine lA_Row_kinds X hw d_Row_kindAt_13 hF (fun x2 hF => ?_)
    refine lv_goto (tgt := 18) hx hb d_Row_kindAt_14 (by decide) ?_
    exact hend _ _ _ _ _ _ d_Row_kindAt_18 hF hw
section
variable {p : Program} {l : Launch} {e : Env} {R : Room} {s : State} {m : MethodId} {args : Array Value} {below : List Frame} {meth : Method} {c : Code} {H : Heap} {locs : List Loc} {cells slots : Nat} {Q : State → Prop}
variable {cc : ByteArray} {pc nL ix : Nat} {ls : Array Slot} {rest : List Value} {own : String} {D : va_G} {A : Nat → Prop} {h : Nat → Nat} {cA : Nat → ClassId} {σ : fx_S} {β : Type} {res : β × fx_S}
theorem k_Row_kindAt {v1 : Int32} (X : fx_X p m c cc nL s args own D fx_cl (fx_tys cA) fx_g fx_G A) (hw : fx_B D fx_cl (fx_ws h cA) A s.heap σ H locs) (lk : Cond.methodLink own ix y_Row_kindAt ∈ fx_g) (hdg : decode cc pc = .ok (.invokevirtual ix, 3)) (hsize : ls.size = nL) (hW : 2 * (F0 m pc ls (.int v1 :: .ref (h 7) :: rest)).monitorRoom + (rest.map fun v => v.category).sum ≤ 8) (hR : 1 + 1 ≤ R.frames ∧ 8 + (2 + 11) + 21 ≤ R.locals) (hf : cells ≤ R.cells ∧ slots ≤ R.slots) {k : Int32 → fx_M β} (hF : fx_bnd (F_Row_kindAt v1) k σ = some res) (kk : ∀ (r : Int32) (σ' : fx_S) (H' : Heap) (locs' : List Loc), k r σ' = some res → fx_B D fx_cl (fx_ws h cA) A s.heap σ' H' locs' → W p l e R s m args below meth c H' locs' cells slots Q (F0 m (pc + 3) ls (.int r :: rest))) : W p l e R s m args below meth c H locs cells slots Q (F0 m pc ls (.int v1 :: .ref (h 7) :: rest)) :=
  fx_call_i X hw (c_Row_kindAt l D h cA v1) (fx_cwV X lk hg_Row_kindAt fx_gok (rm := { frames := 1, cells := 0, slots := 0, locals := 21 }) rfl rfl (by decide +kernel) hR) (va_recv X.2.1 hw.1 (ci := 3) (q0 := 7) rfl rfl) (n := 1) rfl hdg hsize rfl hW hf hF kk
end
set_option maxHeartbeats 4000000 in
set_option maxRecDepth 100000 in
theorem c_Row_lastKind (l : Launch) (D : va_G) (h : Nat → Nat) (cA : Nat → ClassId) : fx_Mi l y_Row_lastKind b_Row_lastKind 1 (some .int) { frames := 2, cells := 0, slots := 0, locals := 42 } D fx_cl (fx_tys cA) fx_g fx_G (fx_ws h cA) [.ref (h 7)] (F_Row_lastKind) := by
  refine fx_start_i fx_G_ok (by decide) (Nat.le_of_ble_eq_true rfl) ?_
  intro p e s m args below meth c A ls σ res Q hF X hw hl hend
  have hx := X.1.1
  have hb := X.1.2.1
  have hl : lv_has ls 1 [(0, .ref (h 7))] := hl
  unfold F_Row_lastKind at hF
  refine lv_aload_n hx hb d_Row_lastKind_0 rfl (lv_at hl 0 rfl) ?_
  refine lv_aload_n hx hb d_Row_lastKind_1 rfl (lv_at hl 0 rfl) ?_
  refine gI_Row_size X hw lk_Row_29 d_Row_lastKind_2 hF (fun x1 hF => ?_)
  refine lv_iconst (v := 1) hx hb d_Row_lastKind_5 (by decide) ?_
  refine lv_isub hx hb d_Row_lastKind_6 ?_
  refine k_Row_kindAt X hw lk_Row_70 d_Row_lastKind_7 hl.1 (lv_room (Nat.le_of_ble_eq_true rfl)) ⟨Nat.le_of_ble_eq_true rfl, Nat.le_of_ble_eq_true rfl⟩ ⟨Nat.zero_le _, Nat.zero_le _⟩ hF (fun x2 σ H locs hF hw => ?_)
  exact hend _ _ _ _ _ _ d_Row_lastKind_10 hF hw
section
variable {p : Program} {l : Launch} {e : Env} {R : Room} {s : State} {m : MethodId} {args : Array Value} {below : List Frame} {meth : Method} {c : Code} {H : Heap} {locs : List Loc} {cells slots : Nat} {Q : State → Prop}
variable {cc : ByteArray} {pc nL ix : Nat} {ls : Array Slot} {rest : List Value} {own : String} {D : va_G} {A : Nat → Prop} {h : Nat → Nat} {cA : Nat → ClassId} {σ : fx_S} {β : Type} {res : β × fx_S}
theorem k_Row_lastKind (X : fx_X p m c cc nL s args own D fx_cl (fx_tys cA) fx_g fx_G A) (hw : fx_B D fx_cl (fx_ws h cA) A s.heap σ H locs) (lk : Cond.methodLink own ix y_Row_lastKind ∈ fx_g) (hdg : decode cc pc = .ok (.invokevirtual ix, 3)) (hsize : ls.size = nL) (hW : 2 * (F0 m pc ls (.ref (h 7) :: rest)).monitorRoom + (rest.map fun v => v.category).sum ≤ 8) (hR : 2 + 1 ≤ R.frames ∧ 8 + (1 + 11) + 42 ≤ R.locals) (hf : cells ≤ R.cells ∧ slots ≤ R.slots) {k : Int32 → fx_M β} (hF : fx_bnd (F_Row_lastKind) k σ = some res) (kk : ∀ (r : Int32) (σ' : fx_S) (H' : Heap) (locs' : List Loc), k r σ' = some res → fx_B D fx_cl (fx_ws h cA) A s.heap σ' H' locs' → W p l e R s m args below meth c H' locs' cells slots Q (F0 m (pc + 3) ls (.int r :: rest))) : W p l e R s m args below meth c H locs cells slots Q (F0 m pc ls (.ref (h 7) :: rest)) :=
  fx_call_i X hw (c_Row_lastKind l D h cA) (fx_cwV X lk hg_Row_lastKind fx_gok (rm := { frames := 2, cells := 0, slots := 0, locals := 42 }) rfl rfl (by decide +kernel) hR) (va_recv X.2.1 hw.1 (ci := 3) (q0 := 7) rfl rfl) (n := 0) rfl hdg hsize rfl hW hf hF kk
end
set_option maxHeartbeats 4000000 in
set_option maxRecDepth 100000 in
theorem c_Row_operandIsDue (l : Launch) (D : va_G) (h : Nat → Nat) (cA : Nat → ClassId) : fx_Mi l y_Row_operandIsDue b_Row_operandIsDue 2 (some .boolean) { frames := 3, cells := 0, slots := 0, locals := 62 } D fx_cl (fx_tys cA) fx_g fx_G (fx_ws h cA) [.ref (h 7)] (F_Row_operandIsDue) := by
  refine fx_start_z fx_G_ok (by decide) (Nat.le_of_ble_eq_true rfl) ?_
  intro p e s m args below meth c A ls σ res Q hF X hw hl hend
  have hx := X.1.1
  have hb := X.1.2.1
  have hl : lv_has ls 2 [(0, .ref (h 7))] := hl
  unfold F_Row_operandIsDue at hF
  refine lv_aload_n hx hb d_Row_operandIsDue_0 rfl (lv_at hl 0 rfl) ?_
  refine k_Row_lastKind X hw lk_Row_44 d_Row_operandIsDue_1 hl.1 (lv_room (Nat.le_of_ble_eq_true rfl)) ⟨Nat.le_of_ble_eq_true rfl, Nat.le_of_ble_eq_true rfl⟩ ⟨Nat.zero_le _, Nat.zero_le _⟩ hF (fun x1 σ H locs hF hw => ?_)
  refine lv_istore_n (lv' := [(1, .int x1), (0, .ref (h 7))]) hx hb d_Row_operandIsDue_4 rfl hl (by decide) rfl (fun ls hl => ?_)
  refine lv_iload_n hx hb d_Row_operandIsDue_5 rfl (lv_at hl 0 rfl) ?_
  refine lv_if_eq (tgt := 18) hx hb d_Row_operandIsDue_6 (by decide) (fun hc => ?_) (fun hc => ?_)
  · have hF := fx_it hc hF
    refine lv_iconst (v := 0) hx hb d_Row_operandIsDue_18 (by decide) ?_
    exact hend _ _ _ _ _ _ d_Row_operandIsDue_19 hF hw
  · have hF := fx_if hc hF
    refine lv_iload_n hx hb d_Row_operandIsDue_9 rfl (lv_at hl 0 rfl) ?_
    refine lv_iconst (v := 4) hx hb d_Row_operandIsDue_10 (by decide) ?_
    refine lv_icmp_eq (tgt := 18) hx hb d_Row_operandIsDue_11 (by decide) (fun hc => ?_) (fun hc => ?_)
    · have hF := fx_it hc hF
      refine lv_iconst (v := 0) hx hb d_Row_operandIsDue_18 (by decide) ?_
      exact hend _ _ _ _ _ _ d_Row_operandIsDue_19 hF hw
    · have hF := fx_if hc hF
      refine lv_iconst (v := 1) hx hb d_Row_operandIsDue_14 (by decide) ?_
      refine lv_goto (tgt := 19) hx hb d_Row_operandIsDue_15 (by decide) ?_
      exact hend _ _ _ _ _ _ d_Row_operandIsDue_19 hF hw
section
variable {p : Program} {l : Launch} {e : Env} {R : Room} {s : State} {m : MethodId} {args : Array Value} {below : List Frame} {meth : Method} {c : Code} {H : Heap} {locs : List Loc} {cells slots : Nat} {Q : State → Prop}
variable {cc : ByteArray} {pc nL ix : Nat} {ls : Array Slot} {rest : List Value} {own : String} {D : va_G} {A : Nat → Prop} {h : Nat → Nat} {cA : Nat → ClassId} {σ : fx_S} {β : Type} {res : β × fx_S}
theorem k_Row_operandIsDue (X : fx_X p m c cc nL s args own D fx_cl (fx_tys cA) fx_g fx_G A) (hw : fx_B D fx_cl (fx_ws h cA) A s.heap σ H locs) (lk : Cond.methodLink own ix y_Row_operandIsDue ∈ fx_g) (hdg : decode cc pc = .ok (.invokevirtual ix, 3)) (hsize : ls.size = nL) (hW : 2 * (F0 m pc ls (.ref (h 7) :: rest)).monitorRoom + (rest.map fun v => v.category).sum ≤ 8) (hR : 3 + 1 ≤ R.frames ∧ 8 + (2 + 11) + 62 ≤ R.locals) (hf : cells ≤ R.cells ∧ slots ≤ R.slots) {k : Int32 → fx_M β} (hF : fx_bnd (F_Row_operandIsDue) k σ = some res) (kk : ∀ (r : Int32) (σ' : fx_S) (H' : Heap) (locs' : List Loc), k r σ' = some res → fx_B D fx_cl (fx_ws h cA) A s.heap σ' H' locs' → W p l e R s m args below meth c H' locs' cells slots Q (F0 m (pc + 3) ls (.int r :: rest))) : W p l e R s m args below meth c H locs cells slots Q (F0 m pc ls (.ref (h 7) :: rest)) :=
  fx_call_i X hw (c_Row_operandIsDue l D h cA) (fx_cwV X lk hg_Row_operandIsDue fx_gok (rm := { frames := 3, cells := 0, slots := 0, locals := 62 }) rfl rfl (by decide +kernel) hR) (va_recv X.2.1 hw.1 (ci := 3) (q0 := 7) rfl rfl) (n := 0) rfl hdg hsize rfl hW hf hF kk
end
set_option maxHeartbeats 4000000 in
set_option maxRecDepth 100000 in
theorem c_Row_takesOperand (l : Launch) (D : va_G) (h : Nat → Nat) (cA : Nat → ClassId) : fx_Mi l y_Row_takesOperand b_Row_takesOperand 1 (some .boolean) { frames := 4, cells := 0, slots := 0, locals := 83 } D fx_cl (fx_tys cA) fx_g fx_G (fx_ws h cA) [.ref (h 7)] (F_Row_takesOperand) := by
  refine fx_start_z fx_G_ok (by decide) (Nat.le_of_ble_eq_true rfl) ?_
  intro p e s m args below meth c A ls σ res Q hF X hw hl hend
  have hx := X.1.1
  have hb := X.1.2.1
  have hl : lv_has ls 1 [(0, .ref (h 7))] := hl
  unfold F_Row_takesOperand at hF
  refine lv_aload_n hx hb d_Row_takesOperand_0 rfl (lv_at hl 0 rfl) ?_
  refine k_Row_isFull X hw lk_Row_48 d_Row_takesOperand_1 hl.1 (lv_room (Nat.le_of_ble_eq_true rfl)) ⟨Nat.le_of_ble_eq_true rfl, Nat.le_of_ble_eq_true rfl⟩ ⟨Nat.zero_le _, Nat.zero_le _⟩ hF (fun x1 σ H locs hF hw => ?_)
  refine lv_if_ne (tgt := 18) hx hb d_Row_takesOperand_4 (by decide) (fun hc => ?_) (fun hc => ?_)
  · have hF := fx_if hc hF
    refine lv_iconst (v := 0) hx hb d_Row_takesOperand_18 (by decide) ?_
    exact hend _ _ _ _ _ _ d_Row_takesOperand_19 hF hw
  · have hF := fx_it hc hF
    refine lv_aload_n hx hb d_Row_takesOperand_7 rfl (lv_at hl 0 rfl) ?_
    refine k_Row_operandIsDue X hw lk_Row_52 d_Row_takesOperand_8 hl.1 (lv_room (Nat.le_of_ble_eq_true rfl)) ⟨Nat.le_of_ble_eq_true rfl, Nat.le_of_ble_eq_true rfl⟩ ⟨Nat.zero_le _, Nat.zero_le _⟩ hF (fun x2 σ H locs hF hw => ?_)
    refine lv_if_eq (tgt := 18) hx hb d_Row_takesOperand_11 (by decide) (fun hc => ?_) (fun hc => ?_)
    · have hF := fx_it hc hF
      refine lv_iconst (v := 0) hx hb d_Row_takesOperand_18 (by decide) ?_
      exact hend _ _ _ _ _ _ d_Row_takesOperand_19 hF hw
    · have hF := fx_if hc hF
      refine lv_iconst (v := 1) hx hb d_Row_takesOperand_14 (by decide) ?_
      refine lv_goto (tgt := 19) hx hb d_Row_takesOperand_15 (by decide) ?_
      exact hend _ _ _ _ _ _ d_Row_takesOperand_19 hF hw
section
variable {p : Program} {l : Launch} {e : Env} {R : Room} {s : State} {m : MethodId} {args : Array Value} {below : List Frame} {meth : Method} {c : Code} {H : Heap} {locs : List Loc} {cells slots : Nat} {Q : State → Prop}
variable {cc : ByteArray} {pc nL ix : Nat} {ls : Array Slot} {rest : List Value} {own : String} {D : va_G} {A : Nat → Prop} {h : Nat → Nat} {cA : Nat → ClassId} {σ : fx_S} {β : Type} {res : β × fx_S}
theorem k_Row_takesOperand (X : fx_X p m c cc nL s args own D fx_cl (fx_tys cA) fx_g fx_G A) (hw : fx_B D fx_cl (fx_ws h cA) A s.heap σ H locs) (lk : Cond.methodLink own ix y_Row_takesOperand ∈ fx_g) (hdg : decode cc pc = .ok (.invokevirtual ix, 3)) (hsize : ls.size = nL) (hW : 2 * (F0 m pc ls (.ref (h 7) :: rest)).monitorRoom + (rest.map fun v => v.category).sum ≤ 8) (hR : 4 + 1 ≤ R.frames ∧ 8 + (1 + 11) + 83 ≤ R.locals) (hf : cells ≤ R.cells ∧ slots ≤ R.slots) {k : Int32 → fx_M β} (hF : fx_bnd (F_Row_takesOperand) k σ = some res) (kk : ∀ (r : Int32) (σ' : fx_S) (H' : Heap) (locs' : List Loc), k r σ' = some res → fx_B D fx_cl (fx_ws h cA) A s.heap σ' H' locs' → W p l e R s m args below meth c H' locs' cells slots Q (F0 m (pc + 3) ls (.int r :: rest))) : W p l e R s m args below meth c H locs cells slots Q (F0 m pc ls (.ref (h 7) :: rest)) :=
  fx_call_i X hw (c_Row_takesOperand l D h cA) (fx_cwV X lk hg_Row_takesOperand fx_gok (rm := { frames := 4, cells := 0, slots := 0, locals := 83 }) rfl rfl (by decide +kernel) hR) (va_recv X.2.1 hw.1 (ci := 3) (q0 := 7) rfl rfl) (n := 0) rfl hdg hsize rfl hW hf hF kk
end
set_option maxHeartbeats 4000000 in
set_option maxRecDepth 100000 in
theorem c_Row_beginRightSection (l : Launch) (D : va_G) (h : Nat → Nat) (cA : Nat → ClassId) : fx_Mv l y_Row_beginRightSection b_Row_beginRightSection 1 none { frames := 0, cells := 0, slots := 0, locals := 0 } D fx_cl (fx_tys cA) fx_g fx_G (fx_ws h cA) [.ref (h 7)] (F_Row_beginRightSection) := by
  refine fx_start_v fx_G_ok (by decide) (Nat.le_of_ble_eq_true rfl) ?_
  intro p e s m args below meth c A ls σ res Q hF X hw hl hend
  have hx := X.1.1
  have hb := X.1.2.1
  have hl : lv_has ls 1 [(0, .ref (h 7))] := hl
  unfold F_Row_beginRightSection at hF
  refine lv_aload_n hx hb d_Row_beginRightSection_0 rfl (lv_at hl 0 rfl) ?_
  refine gR_Row_nodeKinds X hw lk_Row_15 d_Row_beginRightSection_1 ?_
  refine lv_aload_n hx hb d_Row_beginRightSection_4 rfl (lv_at hl 0 rfl) ?_
  refine gI_Row_size X hw lk_Row_29 d_Row_beginRightSection_5 hF (fun x1 hF => ?_)
  refine lv_iconst (v := 4) hx hb d_Row_beginRightSection_8 (by decide) ?_
  refine sA_Row_nodeKinds X hw d_Row_beginRightSection_9 hF (fun σ H locs hF hw => ?_)
  refine lv_aload_n hx hb d_Row_beginRightSection_10 rfl (lv_at hl 0 rfl) ?_
  refine gI_Row_openSize X hw lk_Row_33 d_Row_beginRightSection_11 hF (fun x2 hF => ?_)
  refine lv_if_le (tgt := 29) hx hb d_Row_beginRightSection_14 (by decide) (fun hc => ?_) (fun hc => ?_)
  · have hF := fx_it hc hF
    exact hend _ _ _ _ _ d_Row_beginRightSection_29 hF hw
  · have hF := fx_if hc hF
    refine lv_aload_n hx hb d_Row_beginRightSection_17 rfl (lv_at hl 0 rfl) ?_
    refine gR_Row_rightSections X hw lk_Row_25 d_Row_beginRightSection_18 ?_
    refine lv_aload_n hx hb d_Row_beginRightSection_21 rfl (lv_at hl 0 rfl) ?_
    refine gI_Row_openSize X hw lk_Row_33 d_Row_beginRightSection_22 hF (fun x3 hF => ?_)
    refine lv_iconst (v := 1) hx hb d_Row_beginRightSection_25 (by decide) ?_
    refine lv_isub hx hb d_Row_beginRightSection_26 ?_
    refine lv_iconst (v := 1) hx hb d_Row_beginRightSection_27 (by decide) ?_
    refine sA_Row_rightSections X hw d_Row_beginRightSection_28 hF (fun σ H locs hF hw => ?_)
    exact hend _ _ _ _ _ d_Row_beginRightSection_29 hF hw
section
variable {p : Program} {l : Launch} {e : Env} {R : Room} {s : State} {m : MethodId} {args : Array Value} {below : List Frame} {meth : Method} {c : Code} {H : Heap} {locs : List Loc} {cells slots : Nat} {Q : State → Prop}
variable {cc : ByteArray} {pc nL ix : Nat} {ls : Array Slot} {rest : List Value} {own : String} {D : va_G} {A : Nat → Prop} {h : Nat → Nat} {cA : Nat → ClassId} {σ : fx_S} {β : Type} {res : β × fx_S}
theorem k_Row_beginRightSection (X : fx_X p m c cc nL s args own D fx_cl (fx_tys cA) fx_g fx_G A) (hw : fx_B D fx_cl (fx_ws h cA) A s.heap σ H locs) (lk : Cond.methodLink own ix y_Row_beginRightSection ∈ fx_g) (hdg : decode cc pc = .ok (.invokevirtual ix, 3)) (hsize : ls.size = nL) (hW : 2 * (F0 m pc ls (.ref (h 7) :: rest)).monitorRoom + (rest.map fun v => v.category).sum ≤ 8) (hR : 0 + 1 ≤ R.frames ∧ 8 + (1 + 11) + 0 ≤ R.locals) (hf : cells ≤ R.cells ∧ slots ≤ R.slots) {k : Unit → fx_M β} (hF : fx_bnd (F_Row_beginRightSection) k σ = some res) (kk : ∀ (σ' : fx_S) (H' : Heap) (locs' : List Loc), k () σ' = some res → fx_B D fx_cl (fx_ws h cA) A s.heap σ' H' locs' → W p l e R s m args below meth c H' locs' cells slots Q (F0 m (pc + 3) ls rest)) : W p l e R s m args below meth c H locs cells slots Q (F0 m pc ls (.ref (h 7) :: rest)) :=
  fx_call_v X hw (c_Row_beginRightSection l D h cA) (fx_cwV X lk hg_Row_beginRightSection fx_gok (rm := { frames := 0, cells := 0, slots := 0, locals := 0 }) rfl rfl (by decide +kernel) hR) (va_recv X.2.1 hw.1 (ci := 3) (q0 := 7) rfl rfl) (n := 0) rfl hdg hsize rfl hW hf hF kk
end
set_option maxHeartbeats 4000000 in
set_option maxRecDepth 100000 in
theorem c_Row_closeGroup (l : Launch) (D : va_G) (h : Nat → Nat) (cA : Nat → ClassId) : fx_Mv l y_Row_closeGroup b_Row_closeGroup 1 none { frames := 3, cells := 0, slots := 0, locals := 62 } D fx_cl (fx_tys cA) fx_g fx_G (fx_ws h cA) [.ref (h 7)] (F_Row_closeGroup) := by
  refine fx_start_v fx_G_ok (by decide) (Nat.le_of_ble_eq_true rfl) ?_
  intro p e s m args below meth c A ls σ res Q hF X hw hl hend
  have hx := X.1.1
  have hb := X.1.2.1
  have hl : lv_has ls 1 [(0, .ref (h 7))] := hl
  unfold F_Row_closeGroup at hF
  have h17 : ∀ (σ : fx_S) (H : Heap) (locs : List Loc) (ls : Array Slot), F_Row_closeGroup_J17 σ = some res → fx_B D fx_cl (fx_ws h cA) A s.heap σ H locs → lv_has ls 1 [(0, .ref (h 7))] → W p l e { frames := 3, cells := 0, slots := 0, locals := 62 } s m args below meth c H locs 0 0 Q (F0 m 17 ls []) := by
    intro σ H locs ls hF hw hl
    unfold F_Row_closeGroup_J17 at hF
    refine lv_aload_n hx hb d_Row_closeGroup_17 rfl (lv_at hl 0 rfl) ?_
    refine k_Row_lastKind X hw lk_Row_44 d_Row_closeGroup_18 hl.1 (lv_room (Nat.le_of_ble_eq_true rfl)) ⟨Nat.le_of_ble_eq_true rfl, Nat.le_of_ble_eq_true rfl⟩ ⟨Nat.zero_le _, Nat.zero_le _⟩ hF (fun x2 σ H locs hF hw => ?_)
    refine lv_iconst (v := 1) hx hb d_Row_closeGroup_21 (by decide) ?_
    refine lv_icmp_ne (tgt := 44) hx hb d_Row_closeGroup_22 (by decide) (fun hc => ?_) (fun hc => ?_)
    · have hF := fx_if hc hF
      exact hend _ _ _ _ _ d_Row_closeGroup_44 hF hw
    · have hF := fx_it hc hF
      refine lv_aload_n hx hb d_Row_closeGroup_25 rfl (lv_at hl 0 rfl) ?_
      refine gI_Row_size X hw lk_Row_29 d_Row_closeGroup_26 hF (fun x3 hF => ?_)
      refine lv_if_le (tgt := 44) hx hb d_Row_closeGroup_29 (by decide) (fun hc => ?_) (fun hc => ?_)
      · have hF := fx_it hc hF
        exact hend _ _ _ _ _ d_Row_closeGroup_44 hF hw
      · have hF := fx_if hc hF
        refine lv_aload_n hx hb d_Row_closeGroup_32 rfl (lv_at hl 0 rfl) ?_
        refine gR_Row_nodeKinds X hw lk_Row_15 d_Row_closeGroup_33 ?_
        refine lv_aload_n hx hb d_Row_closeGroup_36 rfl (lv_at hl 0 rfl) ?_
        refine gI_Row_size X hw lk_Row_29 d_Row_closeGroup_37 hF (fun x4 hF => ?_)
        refine lv_iconst (v := 1) hx hb d_Row_closeGroup_40 (by decide) ?_
        refine lv_isub hx hb d_Row_closeGroup_41 ?_
        refine lv_iconst (v := 3) hx hb d_Row_closeGroup_42 (by decide) ?_
        refine sA_Row_nodeKinds X hw d_Row_closeGroup_43 hF (fun σ H locs hF hw => ?_)
        exact hend _ _ _ _ _ d_Row_closeGroup_44 hF hw
  refine lv_aload_n hx hb d_Row_closeGroup_0 rfl (lv_at hl 0 rfl) ?_
  refine gI_Row_openSize X hw lk_Row_33 d_Row_closeGroup_1 hF (fun x1 hF => ?_)
  refine lv_if_le (tgt := 17) hx hb d_Row_closeGroup_4 (by decide) (fun hc => ?_) (fun hc => ?_)
  · have hF := fx_it hc hF
    exact h17 _ _ _ _ hF hw (lv_sub hl [0] rfl)
  · have hF := fx_if hc hF
    refine lv_aload_n hx hb d_Row_closeGroup_7 rfl (lv_at hl 0 rfl) ?_
    refine lv_dup hx hb d_Row_closeGroup_8 rfl ?_
    refine gI_Row_openSize X hw lk_Row_33 d_Row_closeGroup_9 hF (fun x5 hF => ?_)
    refine lv_iconst (v := 1) hx hb d_Row_closeGroup_12 (by decide) ?_
    refine lv_isub hx hb d_Row_closeGroup_13 ?_
    refine pI_Row_openSize X hw lk_Row_33 d_Row_closeGroup_14 hF (fun σ H locs hF hw => ?_)
    exact h17 _ _ _ _ hF hw (lv_sub hl [0] rfl)
section
variable {p : Program} {l : Launch} {e : Env} {R : Room} {s : State} {m : MethodId} {args : Array Value} {below : List Frame} {meth : Method} {c : Code} {H : Heap} {locs : List Loc} {cells slots : Nat} {Q : State → Prop}
variable {cc : ByteArray} {pc nL ix : Nat} {ls : Array Slot} {rest : List Value} {own : String} {D : va_G} {A : Nat → Prop} {h : Nat → Nat} {cA : Nat → ClassId} {σ : fx_S} {β : Type} {res : β × fx_S}
theorem k_Row_closeGroup (X : fx_X p m c cc nL s args own D fx_cl (fx_tys cA) fx_g fx_G A) (hw : fx_B D fx_cl (fx_ws h cA) A s.heap σ H locs) (lk : Cond.methodLink own ix y_Row_closeGroup ∈ fx_g) (hdg : decode cc pc = .ok (.invokevirtual ix, 3)) (hsize : ls.size = nL) (hW : 2 * (F0 m pc ls (.ref (h 7) :: rest)).monitorRoom + (rest.map fun v => v.category).sum ≤ 8) (hR : 3 + 1 ≤ R.frames ∧ 8 + (1 + 11) + 62 ≤ R.locals) (hf : cells ≤ R.cells ∧ slots ≤ R.slots) {k : Unit → fx_M β} (hF : fx_bnd (F_Row_closeGroup) k σ = some res) (kk : ∀ (σ' : fx_S) (H' : Heap) (locs' : List Loc), k () σ' = some res → fx_B D fx_cl (fx_ws h cA) A s.heap σ' H' locs' → W p l e R s m args below meth c H' locs' cells slots Q (F0 m (pc + 3) ls rest)) : W p l e R s m args below meth c H locs cells slots Q (F0 m pc ls (.ref (h 7) :: rest)) :=
  fx_call_v X hw (c_Row_closeGroup l D h cA) (fx_cwV X lk hg_Row_closeGroup fx_gok (rm := { frames := 3, cells := 0, slots := 0, locals := 62 }) rfl rfl (by decide +kernel) hR) (va_recv X.2.1 hw.1 (ci := 3) (q0 := 7) rfl rfl) (n := 0) rfl hdg hsize rfl hW hf hF kk
end
set_option maxHeartbeats 4000000 in
set_option maxRecDepth 100000 in
theorem c_Row_openGroup (l : Launch) (D : va_G) (h : Nat → Nat) (cA : Nat → ClassId) : fx_Mv l y_Row_openGroup b_Row_openGroup 1 none { frames := 0, cells := 0, slots := 0, locals := 0 } D fx_cl (fx_tys cA) fx_g fx_G (fx_ws h cA) [.ref (h 7)] (F_Row_openGroup) := by
  refine fx_start_v fx_G_ok (by decide) (Nat.le_of_ble_eq_true rfl) ?_
  intro p e s m args below meth c A ls σ res Q hF X hw hl hend
  have hx := X.1.1
  have hb := X.1.2.1
  have hl : lv_has ls 1 [(0, .ref (h 7))] := hl
  unfold F_Row_openGroup at hF
  refine lv_aload_n hx hb d_Row_openGroup_0 rfl (lv_at hl 0 rfl) ?_
  refine gI_Row_openSize X hw lk_Row_33 d_Row_openGroup_1 hF (fun x1 hF => ?_)
  refine lv_bipush (v := 40) hx hb d_Row_openGroup_4 (by decide) ?_
  refine lv_icmp_ge (tgt := 29) hx hb d_Row_openGroup_6 (by decide) (fun hc => ?_) (fun hc => ?_)
  · have hF := fx_it hc hF
    exact hend _ _ _ _ _ d_Row_openGroup_29 hF hw
  · have hF := fx_if hc hF
    refine lv_aload_n hx hb d_Row_openGroup_9 rfl (lv_at hl 0 rfl) ?_
    refine gR_Row_rightSections X hw lk_Row_25 d_Row_openGroup_10 ?_
    refine lv_aload_n hx hb d_Row_openGroup_13 rfl (lv_at hl 0 rfl) ?_
    refine gI_Row_openSize X hw lk_Row_33 d_Row_openGroup_14 hF (fun x2 hF => ?_)
    refine lv_iconst (v := 0) hx hb d_Row_openGroup_17 (by decide) ?_
    refine sA_Row_rightSections X hw d_Row_openGroup_18 hF (fun σ H locs hF hw => ?_)
    refine lv_aload_n hx hb d_Row_openGroup_19 rfl (lv_at hl 0 rfl) ?_
    refine lv_dup hx hb d_Row_openGroup_20 rfl ?_
    refine gI_Row_openSize X hw lk_Row_33 d_Row_openGroup_21 hF (fun x3 hF => ?_)
    refine lv_iconst (v := 1) hx hb d_Row_openGroup_24 (by decide) ?_
    refine lv_iadd hx hb d_Row_openGroup_25 ?_
    refine pI_Row_openSize X hw lk_Row_33 d_Row_openGroup_26 hF (fun σ H locs hF hw => ?_)
    exact hend _ _ _ _ _ d_Row_openGroup_29 hF hw
section
variable {p : Program} {l : Launch} {e : Env} {R : Room} {s : State} {m : MethodId} {args : Array Value} {below : List Frame} {meth : Method} {c : Code} {H : Heap} {locs : List Loc} {cells slots : Nat} {Q : State → Prop}
variable {cc : ByteArray} {pc nL ix : Nat} {ls : Array Slot} {rest : List Value} {own : String} {D : va_G} {A : Nat → Prop} {h : Nat → Nat} {cA : Nat → ClassId} {σ : fx_S} {β : Type} {res : β × fx_S}
theorem k_Row_openGroup (X : fx_X p m c cc nL s args own D fx_cl (fx_tys cA) fx_g fx_G A) (hw : fx_B D fx_cl (fx_ws h cA) A s.heap σ H locs) (lk : Cond.methodLink own ix y_Row_openGroup ∈ fx_g) (hdg : decode cc pc = .ok (.invokevirtual ix, 3)) (hsize : ls.size = nL) (hW : 2 * (F0 m pc ls (.ref (h 7) :: rest)).monitorRoom + (rest.map fun v => v.category).sum ≤ 8) (hR : 0 + 1 ≤ R.frames ∧ 8 + (1 + 11) + 0 ≤ R.locals) (hf : cells ≤ R.cells ∧ slots ≤ R.slots) {k : Unit → fx_M β} (hF : fx_bnd (F_Row_openGroup) k σ = some res) (kk : ∀ (σ' : fx_S) (H' : Heap) (locs' : List Loc), k () σ' = some res → fx_B D fx_cl (fx_ws h cA) A s.heap σ' H' locs' → W p l e R s m args below meth c H' locs' cells slots Q (F0 m (pc + 3) ls rest)) : W p l e R s m args below meth c H locs cells slots Q (F0 m pc ls (.ref (h 7) :: rest)) :=
  fx_call_v X hw (c_Row_openGroup l D h cA) (fx_cwV X lk hg_Row_openGroup fx_gok (rm := { frames := 0, cells := 0, slots := 0, locals := 0 }) rfl rfl (by decide +kernel) hR) (va_recv X.2.1 hw.1 (ci := 3) (q0 := 7) rfl rfl) (n := 0) rfl hdg hsize rfl hW hf hF kk
end
set_option maxHeartbeats 4000000 in
set_option maxRecDepth 100000 in
theorem c_Row_add (l : Launch) (D : va_G) (h : Nat → Nat) (cA : Nat → ClassId) (v1 : Int32) (v2 : Int32) (v3 : Int64) : fx_Mv l y_Row_add b_Row_add 5 none { frames := 4, cells := 0, slots := 0, locals := 82 } D fx_cl (fx_tys cA) fx_g fx_G (fx_ws h cA) [.ref (h 7), .int v1, .int v2, .long v3] (F_Row_add v1 v2 v3) := by
  refine fx_start_v fx_G_ok (by decide) (Nat.le_of_ble_eq_true rfl) ?_
  intro p e s m args below meth c A ls σ res Q hF X hw hl hend
  have hx := X.1.1
  have hb := X.1.2.1
  have hl : lv_has ls 5 [(0, .ref (h 7)), (1, .int v1), (2, .int v2), (3, .long v3)] := hl
  unfold F_Row_add at hF
  have h103 : ∀ (σ : fx_S) (H : Heap) (locs : List Loc) (ls : Array Slot), F_Row_add_J103 σ = some res → fx_B D fx_cl (fx_ws h cA) A s.heap σ H locs → lv_has ls 5 [(0, .ref (h 7))] → W p l e { frames := 4, cells := 0, slots := 0, locals := 82 } s m args below meth c H locs 0 0 Q (F0 m 103 ls []) := by
    intro σ H locs ls hF hw hl
    unfold F_Row_add_J103 at hF
    refine lv_aload_n hx hb d_Row_add_103 rfl (lv_at hl 0 rfl) ?_
    refine lv_dup hx hb d_Row_add_104 rfl ?_
    refine gI_Row_size X hw lk_Row_29 d_Row_add_105 hF (fun x6 hF => ?_)
    refine lv_iconst (v := 1) hx hb d_Row_add_108 (by decide) ?_
    refine lv_iadd hx hb d_Row_add_109 ?_
    refine pI_Row_size X hw lk_Row_29 d_Row_add_110 hF (fun σ H locs hF hw => ?_)
    exact hend _ _ _ _ _ d_Row_add_113 hF hw
  have h61 : ∀ (v1 : Int32) (t0 : Int32) (t1 : Int32) (σ : fx_S) (H : Heap) (locs : List Loc) (ls : Array Slot), F_Row_add_J61 v1 t0 t1 σ = some res → fx_B D fx_cl (fx_ws h cA) A s.heap σ H locs → lv_has ls 5 [(0, .ref (h 7)), (1, .int v1)] → W p l e { frames := 4, cells := 0, slots := 0, locals := 82 } s m args below meth c H locs 0 0 Q (F0 m 61 ls [.int t0, .int t1, .ref (h 9)]) := by
    intro v1 t0 t1 σ H locs ls hF hw hl
    unfold F_Row_add_J61 at hF
    refine sA_Row_nodeKinds X hw d_Row_add_61 hF (fun σ H locs hF hw => ?_)
    refine lv_iload_n hx hb d_Row_add_62 rfl (lv_at hl 1 rfl) ?_
    refine lv_iconst (v := 3) hx hb d_Row_add_63 (by decide) ?_
    refine lv_icmp_ne (tgt := 74) hx hb d_Row_add_64 (by decide) (fun hc => ?_) (fun hc => ?_)
    · have hF := fx_if hc hF
      refine lv_iload_n hx hb d_Row_add_74 rfl (lv_at hl 1 rfl) ?_
      refine lv_iconst (v := 4) hx hb d_Row_add_75 (by decide) ?_
      refine lv_icmp_ne (tgt := 86) hx hb d_Row_add_76 (by decide) (fun hc => ?_) (fun hc => ?_)
      · have hF := fx_if hc hF
        refine lv_iload_n hx hb d_Row_add_86 rfl (lv_at hl 1 rfl) ?_
        refine lv_iconst (v := 1) hx hb d_Row_add_87 (by decide) ?_
        refine lv_icmp_ne (tgt := 103) hx hb d_Row_add_88 (by decide) (fun hc => ?_) (fun hc => ?_)
        · have hF := fx_if hc hF
          exact h103 _ _ _ _ hF hw (lv_sub hl [0] rfl)
        · have hF := fx_it hc hF
          refine lv_aload_n hx hb d_Row_add_91 rfl (lv_at hl 0 rfl) ?_
          refine k_Row_lastKind X hw lk_Row_44 d_Row_add_92 hl.1 (lv_room (Nat.le_of_ble_eq_true rfl)) ⟨Nat.le_of_ble_eq_true rfl, Nat.le_of_ble_eq_true rfl⟩ ⟨Nat.zero_le _, Nat.zero_le _⟩ hF (fun x7 σ H locs hF hw => ?_)
          refine lv_iconst (v := 3) hx hb d_Row_add_95 (by decide) ?_
          refine lv_icmp_ne (tgt := 103) hx hb d_Row_add_96 (by decide) (fun hc => ?_) (fun hc => ?_)
          · have hF := fx_if hc hF
            exact h103 _ _ _ _ hF hw (lv_sub hl [0] rfl)
          · have hF := fx_it hc hF
            refine lv_aload_n hx hb d_Row_add_99 rfl (lv_at hl 0 rfl) ?_
            refine k_Row_beginRightSection X hw lk_Row_67 d_Row_add_100 hl.1 (lv_room (Nat.le_of_ble_eq_true rfl)) ⟨Nat.le_of_ble_eq_true rfl, Nat.le_of_ble_eq_true rfl⟩ ⟨Nat.zero_le _, Nat.zero_le _⟩ hF (fun σ H locs hF hw => ?_)
            exact h103 _ _ _ _ hF hw (lv_sub hl [0] rfl)
      · have hF := fx_it hc hF
        refine lv_aload_n hx hb d_Row_add_79 rfl (lv_at hl 0 rfl) ?_
        refine k_Row_closeGroup X hw lk_Row_64 d_Row_add_80 hl.1 (lv_room (Nat.le_of_ble_eq_true rfl)) ⟨Nat.le_of_ble_eq_true rfl, Nat.le_of_ble_eq_true rfl⟩ ⟨Nat.zero_le _, Nat.zero_le _⟩ hF (fun σ H locs hF hw => ?_)
        refine lv_goto (tgt := 103) hx hb d_Row_add_83 (by decide) ?_
        exact h103 _ _ _ _ hF hw (lv_sub hl [0] rfl)
    · have hF := fx_it hc hF
      refine lv_aload_n hx hb d_Row_add_67 rfl (lv_at hl 0 rfl) ?_
      refine k_Row_openGroup X hw lk_Row_61 d_Row_add_68 hl.1 (lv_room (Nat.le_of_ble_eq_true rfl)) ⟨Nat.le_of_ble_eq_true rfl, Nat.le_of_ble_eq_true rfl⟩ ⟨Nat.zero_le _, Nat.zero_le _⟩ hF (fun σ H locs hF hw => ?_)
      refine lv_goto (tgt := 103) hx hb d_Row_add_71 (by decide) ?_
      exact h103 _ _ _ _ hF hw (lv_sub hl [0] rfl)
  have h56 : ∀ (v1 : Int32) (t0 : Int32) (σ : fx_S) (H : Heap) (locs : List Loc) (ls : Array Slot), F_Row_add_J56 v1 t0 σ = some res → fx_B D fx_cl (fx_ws h cA) A s.heap σ H locs → lv_has ls 5 [(0, .ref (h 7)), (1, .int v1)] → W p l e { frames := 4, cells := 0, slots := 0, locals := 82 } s m args below meth c H locs 0 0 Q (F0 m 56 ls [.int t0, .ref (h 9)]) := by
    intro v1 t0 σ H locs ls hF hw hl
    unfold F_Row_add_J56 at hF
    refine lv_iconst (v := (-1)) hx hb d_Row_add_56 (by decide) ?_
    refine lv_goto (tgt := 61) hx hb d_Row_add_57 (by decide) ?_
    exact h61 v1 (-1) t0 _ _ _ _ hF hw (lv_sub hl [0, 1] rfl)
  refine lv_aload_n hx hb d_Row_add_0 rfl (lv_at hl 0 rfl) ?_
  refine k_Row_isFull X hw lk_Row_48 d_Row_add_1 hl.1 (lv_room (Nat.le_of_ble_eq_true rfl)) ⟨Nat.le_of_ble_eq_true rfl, Nat.le_of_ble_eq_true rfl⟩ ⟨Nat.zero_le _, Nat.zero_le _⟩ hF (fun x1 σ H locs hF hw => ?_)
  refine lv_if_eq (tgt := 8) hx hb d_Row_add_4 (by decide) (fun hc => ?_) (fun hc => ?_)
  · have hF := fx_it hc hF
    refine lv_aload_n hx hb d_Row_add_8 rfl (lv_at hl 0 rfl) ?_
    refine gR_Row_kinds X hw lk_Row_9 d_Row_add_9 ?_
    refine lv_aload_n hx hb d_Row_add_12 rfl (lv_at hl 0 rfl) ?_
    refine gI_Row_size X hw lk_Row_29 d_Row_add_13 hF (fun x2 hF => ?_)
    refine lv_iload_n hx hb d_Row_add_16 rfl (lv_at hl 1 rfl) ?_
    refine sA_Row_kinds X hw d_Row_add_17 hF (fun σ H locs hF hw => ?_)
    refine lv_aload_n hx hb d_Row_add_18 rfl (lv_at hl 0 rfl) ?_
    refine gR_Row_operators X hw lk_Row_18 d_Row_add_19 ?_
    refine lv_aload_n hx hb d_Row_add_22 rfl (lv_at hl 0 rfl) ?_
    refine gI_Row_size X hw lk_Row_29 d_Row_add_23 hF (fun x3 hF => ?_)
    refine lv_iload_n hx hb d_Row_add_26 rfl (lv_at hl 2 rfl) ?_
    refine sA_Row_operators X hw d_Row_add_27 hF (fun σ H locs hF hw => ?_)
    refine lv_aload_n hx hb d_Row_add_28 rfl (lv_at hl 0 rfl) ?_
    refine gR_Row_numbers X hw lk_Row_21 d_Row_add_29 ?_
    refine lv_aload_n hx hb d_Row_add_32 rfl (lv_at hl 0 rfl) ?_
    refine gI_Row_size X hw lk_Row_29 d_Row_add_33 hF (fun x4 hF => ?_)
    refine lv_lload_n hx hb d_Row_add_36 rfl (lv_at hl 3 rfl) ?_
    refine sA_Row_numbers X hw d_Row_add_37 hF (fun σ H locs hF hw => ?_)
    refine lv_aload_n hx hb d_Row_add_38 rfl (lv_at hl 0 rfl) ?_
    refine gR_Row_nodeKinds X hw lk_Row_15 d_Row_add_39 ?_
    refine lv_aload_n hx hb d_Row_add_42 rfl (lv_at hl 0 rfl) ?_
    refine gI_Row_size X hw lk_Row_29 d_Row_add_43 hF (fun x5 hF => ?_)
    refine lv_iload_n hx hb d_Row_add_46 rfl (lv_at hl 1 rfl) ?_
    refine lv_iconst (v := 3) hx hb d_Row_add_47 (by decide) ?_
    refine lv_icmp_eq (tgt := 56) hx hb d_Row_add_48 (by decide) (fun hc => ?_) (fun hc => ?_)
    · have hF := fx_it hc hF
      exact h56 v1 x5 _ _ _ _ hF hw (lv_sub hl [0, 1] rfl)
    · have hF := fx_if hc hF
      refine lv_iload_n hx hb d_Row_add_51 rfl (lv_at hl 1 rfl) ?_
      refine lv_iconst (v := 4) hx hb d_Row_add_52 (by decide) ?_
      refine lv_icmp_ne (tgt := 60) hx hb d_Row_add_53 (by decide) (fun hc => ?_) (fun hc => ?_)
      · have hF := fx_if hc hF
        refine lv_iload_n hx hb d_Row_add_60 rfl (lv_at hl 1 rfl) ?_
        exact h61 v1 v1 x5 _ _ _ _ hF hw (lv_sub hl [0, 1] rfl)
      · have hF := fx_it hc hF
        exact h56 v1 x5 _ _ _ _ hF hw (lv_sub hl [0, 1] rfl)
  · have hF := fx_if hc hF
    exact hend _ _ _ _ _ d_Row_add_7 hF hw
section
variable {p : Program} {l : Launch} {e : Env} {R : Room} {s : State} {m : MethodId} {args : Array Value} {below : List Frame} {meth : Method} {c : Code} {H : Heap} {locs : List Loc} {cells slots : Nat} {Q : State → Prop}
variable {cc : ByteArray} {pc nL ix : Nat} {ls : Array Slot} {rest : List Value} {own : String} {D : va_G} {A : Nat → Prop} {h : Nat → Nat} {cA : Nat → ClassId} {σ : fx_S} {β : Type} {res : β × fx_S}
theorem k_Row_add {v1 : Int32} {v2 : Int32} {v3 : Int64} (X : fx_X p m c cc nL s args own D fx_cl (fx_tys cA) fx_g fx_G A) (hw : fx_B D fx_cl (fx_ws h cA) A s.heap σ H locs) (lk : Cond.methodLink own ix y_Row_add ∈ fx_g) (hdg : decode cc pc = .ok (.invokevirtual ix, 3)) (hsize : ls.size = nL) (hW : 2 * (F0 m pc ls (.long v3 :: .int v2 :: .int v1 :: .ref (h 7) :: rest)).monitorRoom + (rest.map fun v => v.category).sum ≤ 8) (hR : 4 + 1 ≤ R.frames ∧ 8 + (5 + 11) + 82 ≤ R.locals) (hf : cells ≤ R.cells ∧ slots ≤ R.slots) {k : Unit → fx_M β} (hF : fx_bnd (F_Row_add v1 v2 v3) k σ = some res) (kk : ∀ (σ' : fx_S) (H' : Heap) (locs' : List Loc), k () σ' = some res → fx_B D fx_cl (fx_ws h cA) A s.heap σ' H' locs' → W p l e R s m args below meth c H' locs' cells slots Q (F0 m (pc + 3) ls rest)) : W p l e R s m args below meth c H locs cells slots Q (F0 m pc ls (.long v3 :: .int v2 :: .int v1 :: .ref (h 7) :: rest)) :=
  fx_call_v X hw (c_Row_add l D h cA v1 v2 v3) (fx_cwV X lk hg_Row_add fx_gok (rm := { frames := 4, cells := 0, slots := 0, locals := 82 }) rfl rfl (by decide +kernel) hR) (va_recv X.2.1 hw.1 (ci := 3) (q0 := 7) rfl rfl) (n := 3) rfl hdg hsize rfl hW hf hF kk
end
set_option maxHeartbeats 4000000 in
set_option maxRecDepth 100000 in
theorem c_Row_size (l : Launch) (D : va_G) (h : Nat → Nat) (cA : Nat → ClassId) : fx_Mi l y_Row_size b_Row_size 1 (some .int) { frames := 0, cells := 0, slots := 0, locals := 0 } D fx_cl (fx_tys cA) fx_g fx_G (fx_ws h cA) [.ref (h 7)] (F_Row_size) := by
  refine fx_start_i fx_G_ok (by decide) (Nat.le_of_ble_eq_true rfl) ?_
  intro p e s m args below meth c A ls σ res Q hF X hw hl hend
  have hx := X.1.1
  have hb := X.1.2.1
  have hl : lv_has ls 1 [(0, .ref (h 7))] := hl
  unfold F_Row_size at hF
  refine lv_aload_n hx hb d_Row_size_0 rfl (lv_at hl 0 rfl) ?_
  refine gI_Row_size X hw lk_Row_29 d_Row_size_1 hF (fun x1 hF => ?_)
  exact hend _ _ _ _ _ _ d_Row_size_4 hF hw
section
variable {p : Program} {l : Launch} {e : Env} {R : Room} {s : State} {m : MethodId} {args : Array Value} {below : List Frame} {meth : Method} {c : Code} {H : Heap} {locs : List Loc} {cells slots : Nat} {Q : State → Prop}
variable {cc : ByteArray} {pc nL ix : Nat} {ls : Array Slot} {rest : List Value} {own : String} {D : va_G} {A : Nat → Prop} {h : Nat → Nat} {cA : Nat → ClassId} {σ : fx_S} {β : Type} {res : β × fx_S}
theorem k_Row_size (X : fx_X p m c cc nL s args own D fx_cl (fx_tys cA) fx_g fx_G A) (hw : fx_B D fx_cl (fx_ws h cA) A s.heap σ H locs) (lk : Cond.methodLink own ix y_Row_size ∈ fx_g) (hdg : decode cc pc = .ok (.invokevirtual ix, 3)) (hsize : ls.size = nL) (hW : 2 * (F0 m pc ls (.ref (h 7) :: rest)).monitorRoom + (rest.map fun v => v.category).sum ≤ 8) (hR : 0 + 1 ≤ R.frames ∧ 8 + (1 + 11) + 0 ≤ R.locals) (hf : cells ≤ R.cells ∧ slots ≤ R.slots) {k : Int32 → fx_M β} (hF : fx_bnd (F_Row_size) k σ = some res) (kk : ∀ (r : Int32) (σ' : fx_S) (H' : Heap) (locs' : List Loc), k r σ' = some res → fx_B D fx_cl (fx_ws h cA) A s.heap σ' H' locs' → W p l e R s m args below meth c H' locs' cells slots Q (F0 m (pc + 3) ls (.int r :: rest))) : W p l e R s m args below meth c H locs cells slots Q (F0 m pc ls (.ref (h 7) :: rest)) :=
  fx_call_i X hw (c_Row_size l D h cA) (fx_cwV X lk hg_Row_size fx_gok (rm := { frames := 0, cells := 0, slots := 0, locals := 0 }) rfl rfl (by decide +kernel) hR) (va_recv X.2.1 hw.1 (ci := 3) (q0 := 7) rfl rfl) (n := 0) rfl hdg hsize rfl hW hf hF kk
end
set_option maxHeartbeats 4000000 in
set_option maxRecDepth 100000 in
theorem c_Row_wantsBareOperand (l : Launch) (D : va_G) (h : Nat → Nat) (cA : Nat → ClassId) : fx_Mi l y_Row_wantsBareOperand b_Row_wantsBareOperand 1 (some .boolean) { frames := 3, cells := 0, slots := 0, locals := 62 } D fx_cl (fx_tys cA) fx_g fx_G (fx_ws h cA) [.ref (h 7)] (F_Row_wantsBareOperand) := by
  refine fx_start_z fx_G_ok (by decide) (Nat.le_of_ble_eq_true rfl) ?_
  intro p e s m args below meth c A ls σ res Q hF X hw hl hend
  have hx := X.1.1
  have hb := X.1.2.1
  have hl : lv_has ls 1 [(0, .ref (h 7))] := hl
  unfold F_Row_wantsBareOperand at hF
  refine lv_aload_n hx hb d_Row_wantsBareOperand_0 rfl (lv_at hl 0 rfl) ?_
  refine gI_Row_pattern X hw lk_Row_36 d_Row_wantsBareOperand_1 hF (fun x1 hF => ?_)
  refine lv_if_eq (tgt := 19) hx hb d_Row_wantsBareOperand_4 (by decide) (fun hc => ?_) (fun hc => ?_)
  · have hF := fx_it hc hF
    refine lv_iconst (v := 0) hx hb d_Row_wantsBareOperand_19 (by decide) ?_
    exact hend _ _ _ _ _ _ d_Row_wantsBareOperand_20 hF hw
  · have hF := fx_if hc hF
    refine lv_aload_n hx hb d_Row_wantsBareOperand_7 rfl (lv_at hl 0 rfl) ?_
    refine k_Row_lastKind X hw lk_Row_44 d_Row_wantsBareOperand_8 hl.1 (lv_room (Nat.le_of_ble_eq_true rfl)) ⟨Nat.le_of_ble_eq_true rfl, Nat.le_of_ble_eq_true rfl⟩ ⟨Nat.zero_le _, Nat.zero_le _⟩ hF (fun x2 σ H locs hF hw => ?_)
    refine lv_iconst (v := 2) hx hb d_Row_wantsBareOperand_11 (by decide) ?_
    refine lv_icmp_ne (tgt := 19) hx hb d_Row_wantsBareOperand_12 (by decide) (fun hc => ?_) (fun hc => ?_)
    · have hF := fx_if hc hF
      refine lv_iconst (v := 0) hx hb d_Row_wantsBareOperand_19 (by decide) ?_
      exact hend _ _ _ _ _ _ d_Row_wantsBareOperand_20 hF hw
    · have hF := fx_it hc hF
      refine lv_iconst (v := 1) hx hb d_Row_wantsBareOperand_15 (by decide) ?_
      refine lv_goto (tgt := 20) hx hb d_Row_wantsBareOperand_16 (by decide) ?_
      exact hend _ _ _ _ _ _ d_Row_wantsBareOperand_20 hF hw
section
variable {p : Program} {l : Launch} {e : Env} {R : Room} {s : State} {m : MethodId} {args : Array Value} {below : List Frame} {meth : Method} {c : Code} {H : Heap} {locs : List Loc} {cells slots : Nat} {Q : State → Prop}
variable {cc : ByteArray} {pc nL ix : Nat} {ls : Array Slot} {rest : List Value} {own : String} {D : va_G} {A : Nat → Prop} {h : Nat → Nat} {cA : Nat → ClassId} {σ : fx_S} {β : Type} {res : β × fx_S}
theorem k_Row_wantsBareOperand (X : fx_X p m c cc nL s args own D fx_cl (fx_tys cA) fx_g fx_G A) (hw : fx_B D fx_cl (fx_ws h cA) A s.heap σ H locs) (lk : Cond.methodLink own ix y_Row_wantsBareOperand ∈ fx_g) (hdg : decode cc pc = .ok (.invokevirtual ix, 3)) (hsize : ls.size = nL) (hW : 2 * (F0 m pc ls (.ref (h 7) :: rest)).monitorRoom + (rest.map fun v => v.category).sum ≤ 8) (hR : 3 + 1 ≤ R.frames ∧ 8 + (1 + 11) + 62 ≤ R.locals) (hf : cells ≤ R.cells ∧ slots ≤ R.slots) {k : Int32 → fx_M β} (hF : fx_bnd (F_Row_wantsBareOperand) k σ = some res) (kk : ∀ (r : Int32) (σ' : fx_S) (H' : Heap) (locs' : List Loc), k r σ' = some res → fx_B D fx_cl (fx_ws h cA) A s.heap σ' H' locs' → W p l e R s m args below meth c H' locs' cells slots Q (F0 m (pc + 3) ls (.int r :: rest))) : W p l e R s m args below meth c H locs cells slots Q (F0 m pc ls (.ref (h 7) :: rest)) :=
  fx_call_i X hw (c_Row_wantsBareOperand l D h cA) (fx_cwV X lk hg_Row_wantsBareOperand fx_gok (rm := { frames := 3, cells := 0, slots := 0, locals := 62 }) rfl rfl (by decide +kernel) hR) (va_recv X.2.1 hw.1 (ci := 3) (q0 := 7) rfl rfl) (n := 0) rfl hdg hsize rfl hW hf hF kk
end
set_option maxHeartbeats 4000000 in
set_option maxRecDepth 100000 in
theorem c_Row_kindIfNext (l : Launch) (D : va_G) (h : Nat → Nat) (cA : Nat → ClassId) (v1 : Int32) : fx_Mi l y_Row_kindIfNext b_Row_kindIfNext 2 (some .int) { frames := 4, cells := 0, slots := 0, locals := 83 } D fx_cl (fx_tys cA) fx_g fx_G (fx_ws h cA) [.ref (h 7), .int v1] (F_Row_kindIfNext v1) := by
  refine fx_start_i fx_G_ok (by decide) (Nat.le_of_ble_eq_true rfl) ?_
  intro p e s m args below meth c A ls σ res Q hF X hw hl hend
  have hx := X.1.1
  have hb := X.1.2.1
  have hl : lv_has ls 2 [(0, .ref (h 7)), (1, .int v1)] := hl
  unfold F_Row_kindIfNext at hF
  refine lv_aload_n hx hb d_Row_kindIfNext_0 rfl (lv_at hl 0 rfl) ?_
  refine k_Row_isFull X hw lk_Row_48 d_Row_kindIfNext_1 hl.1 (lv_room (Nat.le_of_ble_eq_true rfl)) ⟨Nat.le_of_ble_eq_true rfl, Nat.le_of_ble_eq_true rfl⟩ ⟨Nat.zero_le _, Nat.zero_le _⟩ hF (fun x1 σ H locs hF hw => ?_)
  refine lv_if_eq (tgt := 9) hx hb d_Row_kindIfNext_4 (by decide) (fun hc => ?_) (fun hc => ?_)
  · have hF := fx_it hc hF
    refine lv_aload_n hx hb d_Row_kindIfNext_9 rfl (lv_at hl 0 rfl) ?_
    refine k_Row_operandIsDue X hw lk_Row_52 d_Row_kindIfNext_10 hl.1 (lv_room (Nat.le_of_ble_eq_true rfl)) ⟨Nat.le_of_ble_eq_true rfl, Nat.le_of_ble_eq_true rfl⟩ ⟨Nat.zero_le _, Nat.zero_le _⟩ hF (fun x2 σ H locs hF hw => ?_)
    refine lv_if_ne (tgt := 18) hx hb d_Row_kindIfNext_13 (by decide) (fun hc => ?_) (fun hc => ?_)
    · have hF := fx_if hc hF
      refine lv_iload_n hx hb d_Row_kindIfNext_18 rfl (lv_at hl 1 rfl) ?_
      refine lv_if_ne (tgt := 35) hx hb d_Row_kindIfNext_19 (by decide) (fun hc => ?_) (fun hc => ?_)
      · have hF := fx_if hc hF
        refine lv_aload_n hx hb d_Row_kindIfNext_35 rfl (lv_at hl 0 rfl) ?_
        refine k_Row_lastKind X hw lk_Row_44 d_Row_kindIfNext_36 hl.1 (lv_room (Nat.le_of_ble_eq_true rfl)) ⟨Nat.le_of_ble_eq_true rfl, Nat.le_of_ble_eq_true rfl⟩ ⟨Nat.zero_le _, Nat.zero_le _⟩ hF (fun x3 σ H locs hF hw => ?_)
        refine lv_iconst (v := 3) hx hb d_Row_kindIfNext_39 (by decide) ?_
        refine lv_icmp_ne (tgt := 54) hx hb d_Row_kindIfNext_40 (by decide) (fun hc => ?_) (fun hc => ?_)
        · have hF := fx_if hc hF
          refine lv_iconst (v := (-1)) hx hb d_Row_kindIfNext_54 (by decide) ?_
          exact hend _ _ _ _ _ _ d_Row_kindIfNext_55 hF hw
        · have hF := fx_it hc hF
          refine lv_aload_n hx hb d_Row_kindIfNext_43 rfl (lv_at hl 0 rfl) ?_
          refine gI_Row_pattern X hw lk_Row_36 d_Row_kindIfNext_44 hF (fun x4 hF => ?_)
          refine lv_if_ne (tgt := 54) hx hb d_Row_kindIfNext_47 (by decide) (fun hc => ?_) (fun hc => ?_)
          · have hF := fx_if hc hF
            refine lv_iconst (v := (-1)) hx hb d_Row_kindIfNext_54 (by decide) ?_
            exact hend _ _ _ _ _ _ d_Row_kindIfNext_55 hF hw
          · have hF := fx_it hc hF
            refine lv_iconst (v := 1) hx hb d_Row_kindIfNext_50 (by decide) ?_
            refine lv_goto (tgt := 55) hx hb d_Row_kindIfNext_51 (by decide) ?_
            exact hend _ _ _ _ _ _ d_Row_kindIfNext_55 hF hw
      · have hF := fx_it hc hF
        refine lv_aload_n hx hb d_Row_kindIfNext_22 rfl (lv_at hl 0 rfl) ?_
        refine k_Row_wantsBareOperand X hw lk_Row_55 d_Row_kindIfNext_23 hl.1 (lv_room (Nat.le_of_ble_eq_true rfl)) ⟨Nat.le_of_ble_eq_true rfl, Nat.le_of_ble_eq_true rfl⟩ ⟨Nat.zero_le _, Nat.zero_le _⟩ hF (fun x5 σ H locs hF hw => ?_)
        refine lv_if_eq (tgt := 33) hx hb d_Row_kindIfNext_26 (by decide) (fun hc => ?_) (fun hc => ?_)
        · have hF := fx_it hc hF
          refine lv_iconst (v := 2) hx hb d_Row_kindIfNext_33 (by decide) ?_
          exact hend _ _ _ _ _ _ d_Row_kindIfNext_34 hF hw
        · have hF := fx_if hc hF
          refine lv_iconst (v := (-1)) hx hb d_Row_kindIfNext_29 (by decide) ?_
          refine lv_goto (tgt := 34) hx hb d_Row_kindIfNext_30 (by decide) ?_
          exact hend _ _ _ _ _ _ d_Row_kindIfNext_34 hF hw
    · have hF := fx_it hc hF
      refine lv_iconst (v := 1) hx hb d_Row_kindIfNext_16 (by decide) ?_
      exact hend _ _ _ _ _ _ d_Row_kindIfNext_17 hF hw
  · have hF := fx_if hc hF
    refine lv_iconst (v := (-1)) hx hb d_Row_kindIfNext_7 (by decide) ?_
    exact hend _ _ _ _ _ _ d_Row_kindIfNext_8 hF hw
section
variable {p : Program} {l : Launch} {e : Env} {R : Room} {s : State} {m : MethodId} {args : Array Value} {below : List Frame} {meth : Method} {c : Code} {H : Heap} {locs : List Loc} {cells slots : Nat} {Q : State → Prop}
variable {cc : ByteArray} {pc nL ix : Nat} {ls : Array Slot} {rest : List Value} {own : String} {D : va_G} {A : Nat → Prop} {h : Nat → Nat} {cA : Nat → ClassId} {σ : fx_S} {β : Type} {res : β × fx_S}
theorem k_Row_kindIfNext {v1 : Int32} (X : fx_X p m c cc nL s args own D fx_cl (fx_tys cA) fx_g fx_G A) (hw : fx_B D fx_cl (fx_ws h cA) A s.heap σ H locs) (lk : Cond.methodLink own ix y_Row_kindIfNext ∈ fx_g) (hdg : decode cc pc = .ok (.invokevirtual ix, 3)) (hsize : ls.size = nL) (hW : 2 * (F0 m pc ls (.int v1 :: .ref (h 7) :: rest)).monitorRoom + (rest.map fun v => v.category).sum ≤ 8) (hR : 4 + 1 ≤ R.frames ∧ 8 + (2 + 11) + 83 ≤ R.locals) (hf : cells ≤ R.cells ∧ slots ≤ R.slots) {k : Int32 → fx_M β} (hF : fx_bnd (F_Row_kindIfNext v1) k σ = some res) (kk : ∀ (r : Int32) (σ' : fx_S) (H' : Heap) (locs' : List Loc), k r σ' = some res → fx_B D fx_cl (fx_ws h cA) A s.heap σ' H' locs' → W p l e R s m args below meth c H' locs' cells slots Q (F0 m (pc + 3) ls (.int r :: rest))) : W p l e R s m args below meth c H locs cells slots Q (F0 m pc ls (.int v1 :: .ref (h 7) :: rest)) :=
  fx_call_i X hw (c_Row_kindIfNext l D h cA v1) (fx_cwV X lk hg_Row_kindIfNext fx_gok (rm := { frames := 4, cells := 0, slots := 0, locals := 83 }) rfl rfl (by decide +kernel) hR) (va_recv X.2.1 hw.1 (ci := 3) (q0 := 7) rfl rfl) (n := 1) rfl hdg hsize rfl hW hf hF kk
end
set_option maxHeartbeats 4000000 in
set_option maxRecDepth 100000 in
theorem c_Row_takesOpen (l : Launch) (D : va_G) (h : Nat → Nat) (cA : Nat → ClassId) : fx_Mi l y_Row_takesOpen b_Row_takesOpen 1 (some .boolean) { frames := 4, cells := 0, slots := 0, locals := 83 } D fx_cl (fx_tys cA) fx_g fx_G (fx_ws h cA) [.ref (h 7)] (F_Row_takesOpen) := by
  refine fx_start_z fx_G_ok (by decide) (Nat.le_of_ble_eq_true rfl) ?_
  intro p e s m args below meth c A ls σ res Q hF X hw hl hend
  have hx := X.1.1
  have hb := X.1.2.1
  have hl : lv_has ls 1 [(0, .ref (h 7))] := hl
  unfold F_Row_takesOpen at hF
  refine lv_aload_n hx hb d_Row_takesOpen_0 rfl (lv_at hl 0 rfl) ?_
  refine k_Row_isFull X hw lk_Row_48 d_Row_takesOpen_1 hl.1 (lv_room (Nat.le_of_ble_eq_true rfl)) ⟨Nat.le_of_ble_eq_true rfl, Nat.le_of_ble_eq_true rfl⟩ ⟨Nat.zero_le _, Nat.zero_le _⟩ hF (fun x1 σ H locs hF hw => ?_)
  refine lv_if_ne (tgt := 34) hx hb d_Row_takesOpen_4 (by decide) (fun hc => ?_) (fun hc => ?_)
  · have hF := fx_if hc hF
    refine lv_iconst (v := 0) hx hb d_Row_takesOpen_34 (by decide) ?_
    exact hend _ _ _ _ _ _ d_Row_takesOpen_35 hF hw
  · have hF := fx_it hc hF
    refine lv_aload_n hx hb d_Row_takesOpen_7 rfl (lv_at hl 0 rfl) ?_
    refine k_Row_operandIsDue X hw lk_Row_52 d_Row_takesOpen_8 hl.1 (lv_room (Nat.le_of_ble_eq_true rfl)) ⟨Nat.le_of_ble_eq_true rfl, Nat.le_of_ble_eq_true rfl⟩ ⟨Nat.zero_le _, Nat.zero_le _⟩ hF (fun x2 σ H locs hF hw => ?_)
    refine lv_if_eq (tgt := 34) hx hb d_Row_takesOpen_11 (by decide) (fun hc => ?_) (fun hc => ?_)
    · have hF := fx_it hc hF
      refine lv_iconst (v := 0) hx hb d_Row_takesOpen_34 (by decide) ?_
      exact hend _ _ _ _ _ _ d_Row_takesOpen_35 hF hw
    · have hF := fx_if hc hF
      refine lv_aload_n hx hb d_Row_takesOpen_14 rfl (lv_at hl 0 rfl) ?_
      refine gI_Row_openSize X hw lk_Row_33 d_Row_takesOpen_15 hF (fun x3 hF => ?_)
      refine lv_bipush (v := 40) hx hb d_Row_takesOpen_18 (by decide) ?_
      refine lv_icmp_ge (tgt := 34) hx hb d_Row_takesOpen_20 (by decide) (fun hc => ?_) (fun hc => ?_)
      · have hF := fx_it hc hF
        refine lv_iconst (v := 0) hx hb d_Row_takesOpen_34 (by decide) ?_
        exact hend _ _ _ _ _ _ d_Row_takesOpen_35 hF hw
      · have hF := fx_if hc hF
        refine lv_aload_n hx hb d_Row_takesOpen_23 rfl (lv_at hl 0 rfl) ?_
        refine k_Row_wantsBareOperand X hw lk_Row_55 d_Row_takesOpen_24 hl.1 (lv_room (Nat.le_of_ble_eq_true rfl)) ⟨Nat.le_of_ble_eq_true rfl, Nat.le_of_ble_eq_true rfl⟩ ⟨Nat.zero_le _, Nat.zero_le _⟩ hF (fun x4 σ H locs hF hw => ?_)
        refine lv_if_ne (tgt := 34) hx hb d_Row_takesOpen_27 (by decide) (fun hc => ?_) (fun hc => ?_)
        · have hF := fx_if hc hF
          refine lv_iconst (v := 0) hx hb d_Row_takesOpen_34 (by decide) ?_
          exact hend _ _ _ _ _ _ d_Row_takesOpen_35 hF hw
        · have hF := fx_it hc hF
          refine lv_iconst (v := 1) hx hb d_Row_takesOpen_30 (by decide) ?_
          refine lv_goto (tgt := 35) hx hb d_Row_takesOpen_31 (by decide) ?_
          exact hend _ _ _ _ _ _ d_Row_takesOpen_35 hF hw
section
variable {p : Program} {l : Launch} {e : Env} {R : Room} {s : State} {m : MethodId} {args : Array Value} {below : List Frame} {meth : Method} {c : Code} {H : Heap} {locs : List Loc} {cells slots : Nat} {Q : State → Prop}
variable {cc : ByteArray} {pc nL ix : Nat} {ls : Array Slot} {rest : List Value} {own : String} {D : va_G} {A : Nat → Prop} {h : Nat → Nat} {cA : Nat → ClassId} {σ : fx_S} {β : Type} {res : β × fx_S}
theorem k_Row_takesOpen (X : fx_X p m c cc nL s args own D fx_cl (fx_tys cA) fx_g fx_G A) (hw : fx_B D fx_cl (fx_ws h cA) A s.heap σ H locs) (lk : Cond.methodLink own ix y_Row_takesOpen ∈ fx_g) (hdg : decode cc pc = .ok (.invokevirtual ix, 3)) (hsize : ls.size = nL) (hW : 2 * (F0 m pc ls (.ref (h 7) :: rest)).monitorRoom + (rest.map fun v => v.category).sum ≤ 8) (hR : 4 + 1 ≤ R.frames ∧ 8 + (1 + 11) + 83 ≤ R.locals) (hf : cells ≤ R.cells ∧ slots ≤ R.slots) {k : Int32 → fx_M β} (hF : fx_bnd (F_Row_takesOpen) k σ = some res) (kk : ∀ (r : Int32) (σ' : fx_S) (H' : Heap) (locs' : List Loc), k r σ' = some res → fx_B D fx_cl (fx_ws h cA) A s.heap σ' H' locs' → W p l e R s m args below meth c H' locs' cells slots Q (F0 m (pc + 3) ls (.int r :: rest))) : W p l e R s m args below meth c H locs cells slots Q (F0 m pc ls (.ref (h 7) :: rest)) :=
  fx_call_i X hw (c_Row_takesOpen l D h cA) (fx_cwV X lk hg_Row_takesOpen fx_gok (rm := { frames := 4, cells := 0, slots := 0, locals := 83 }) rfl rfl (by decide +kernel) hR) (va_recv X.2.1 hw.1 (ci := 3) (q0 := 7) rfl rfl) (n := 0) rfl hdg hsize rfl hW hf hF kk
end
set_option maxHeartbeats 4000000 in
set_option maxRecDepth 100000 in
theorem c_Row_mayEndLeftSection (l : Launch) (D : va_G) (h : Nat → Nat) (cA : Nat → ClassId) : fx_Mi l y_Row_mayEndLeftSection b_Row_mayEndLeftSection 1 (some .boolean) { frames := 3, cells := 0, slots := 0, locals := 62 } D fx_cl (fx_tys cA) fx_g fx_G (fx_ws h cA) [.ref (h 7)] (F_Row_mayEndLeftSection) := by
  refine fx_start_z fx_G_ok (by decide) (Nat.le_of_ble_eq_true rfl) ?_
  intro p e s m args below meth c A ls σ res Q hF X hw hl hend
  have hx := X.1.1
  have hb := X.1.2.1
  have hl : lv_has ls 1 [(0, .ref (h 7))] := hl
  unfold F_Row_mayEndLeftSection at hF
  refine lv_aload_n hx hb d_Row_mayEndLeftSection_0 rfl (lv_at hl 0 rfl) ?_
  refine gI_Row_pattern X hw lk_Row_36 d_Row_mayEndLeftSection_1 hF (fun x1 hF => ?_)
  refine lv_if_ne (tgt := 40) hx hb d_Row_mayEndLeftSection_4 (by decide) (fun hc => ?_) (fun hc => ?_)
  · have hF := fx_if hc hF
    refine lv_iconst (v := 0) hx hb d_Row_mayEndLeftSection_40 (by decide) ?_
    exact hend _ _ _ _ _ _ d_Row_mayEndLeftSection_41 hF hw
  · have hF := fx_it hc hF
    refine lv_aload_n hx hb d_Row_mayEndLeftSection_7 rfl (lv_at hl 0 rfl) ?_
    refine k_Row_lastKind X hw lk_Row_44 d_Row_mayEndLeftSection_8 hl.1 (lv_room (Nat.le_of_ble_eq_true rfl)) ⟨Nat.le_of_ble_eq_true rfl, Nat.le_of_ble_eq_true rfl⟩ ⟨Nat.zero_le _, Nat.zero_le _⟩ hF (fun x2 σ H locs hF hw => ?_)
    refine lv_iconst (v := 1) hx hb d_Row_mayEndLeftSection_11 (by decide) ?_
    refine lv_icmp_ne (tgt := 40) hx hb d_Row_mayEndLeftSection_12 (by decide) (fun hc => ?_) (fun hc => ?_)
    · have hF := fx_if hc hF
      refine lv_iconst (v := 0) hx hb d_Row_mayEndLeftSection_40 (by decide) ?_
      exact hend _ _ _ _ _ _ d_Row_mayEndLeftSection_41 hF hw
    · have hF := fx_it hc hF
      refine lv_aload_n hx hb d_Row_mayEndLeftSection_15 rfl (lv_at hl 0 rfl) ?_
      refine gI_Row_openSize X hw lk_Row_33 d_Row_mayEndLeftSection_16 hF (fun x3 hF => ?_)
      refine lv_if_le (tgt := 40) hx hb d_Row_mayEndLeftSection_19 (by decide) (fun hc => ?_) (fun hc => ?_)
      · have hF := fx_it hc hF
        refine lv_iconst (v := 0) hx hb d_Row_mayEndLeftSection_40 (by decide) ?_
        exact hend _ _ _ _ _ _ d_Row_mayEndLeftSection_41 hF hw
      · have hF := fx_if hc hF
        refine lv_aload_n hx hb d_Row_mayEndLeftSection_22 rfl (lv_at hl 0 rfl) ?_
        refine gR_Row_rightSections X hw lk_Row_25 d_Row_mayEndLeftSection_23 ?_
        refine lv_aload_n hx hb d_Row_mayEndLeftSection_26 rfl (lv_at hl 0 rfl) ?_
        refine gI_Row_openSize X hw lk_Row_33 d_Row_mayEndLeftSection_27 hF (fun x4 hF => ?_)
        refine lv_iconst (v := 1) hx hb d_Row_mayEndLeftSection_30 (by decide) ?_
        refine lv_isub hx hb d_Row_mayEndLeftSection_31 ?_
        refine lA_Row_rightSections X hw d_Row_mayEndLeftSection_32 hF (fun x5 hF => ?_)
        refine lv_if_ne (tgt := 40) hx hb d_Row_mayEndLeftSection_33 (by decide) (fun hc => ?_) (fun hc => ?_)
        · have hF := fx_if hc hF
          refine lv_iconst (v := 0) hx hb d_Row_mayEndLeftSection_40 (by decide) ?_
          exact hend _ _ _ _ _ _ d_Row_mayEndLeftSection_41 hF hw
        · have hF := fx_it hc hF
          refine lv_iconst (v := 1) hx hb d_Row_mayEndLeftSection_36 (by decide) ?_
          refine lv_goto (tgt := 41) hx hb d_Row_mayEndLeftSection_37 (by decide) ?_
          exact hend _ _ _ _ _ _ d_Row_mayEndLeftSection_41 hF hw
section
variable {p : Program} {l : Launch} {e : Env} {R : Room} {s : State} {m : MethodId} {args : Array Value} {below : List Frame} {meth : Method} {c : Code} {H : Heap} {locs : List Loc} {cells slots : Nat} {Q : State → Prop}
variable {cc : ByteArray} {pc nL ix : Nat} {ls : Array Slot} {rest : List Value} {own : String} {D : va_G} {A : Nat → Prop} {h : Nat → Nat} {cA : Nat → ClassId} {σ : fx_S} {β : Type} {res : β × fx_S}
theorem k_Row_mayEndLeftSection (X : fx_X p m c cc nL s args own D fx_cl (fx_tys cA) fx_g fx_G A) (hw : fx_B D fx_cl (fx_ws h cA) A s.heap σ H locs) (lk : Cond.methodLink own ix y_Row_mayEndLeftSection ∈ fx_g) (hdg : decode cc pc = .ok (.invokevirtual ix, 3)) (hsize : ls.size = nL) (hW : 2 * (F0 m pc ls (.ref (h 7) :: rest)).monitorRoom + (rest.map fun v => v.category).sum ≤ 8) (hR : 3 + 1 ≤ R.frames ∧ 8 + (1 + 11) + 62 ≤ R.locals) (hf : cells ≤ R.cells ∧ slots ≤ R.slots) {k : Int32 → fx_M β} (hF : fx_bnd (F_Row_mayEndLeftSection) k σ = some res) (kk : ∀ (r : Int32) (σ' : fx_S) (H' : Heap) (locs' : List Loc), k r σ' = some res → fx_B D fx_cl (fx_ws h cA) A s.heap σ' H' locs' → W p l e R s m args below meth c H' locs' cells slots Q (F0 m (pc + 3) ls (.int r :: rest))) : W p l e R s m args below meth c H locs cells slots Q (F0 m pc ls (.ref (h 7) :: rest)) :=
  fx_call_i X hw (c_Row_mayEndLeftSection l D h cA) (fx_cwV X lk hg_Row_mayEndLeftSection fx_gok (rm := { frames := 3, cells := 0, slots := 0, locals := 62 }) rfl rfl (by decide +kernel) hR) (va_recv X.2.1 hw.1 (ci := 3) (q0 := 7) rfl rfl) (n := 0) rfl hdg hsize rfl hW hf hF kk
end
set_option maxHeartbeats 4000000 in
set_option maxRecDepth 100000 in
theorem c_Row_takesClose (l : Launch) (D : va_G) (h : Nat → Nat) (cA : Nat → ClassId) : fx_Mi l y_Row_takesClose b_Row_takesClose 1 (some .boolean) { frames := 4, cells := 0, slots := 0, locals := 83 } D fx_cl (fx_tys cA) fx_g fx_G (fx_ws h cA) [.ref (h 7)] (F_Row_takesClose) := by
  refine fx_start_z fx_G_ok (by decide) (Nat.le_of_ble_eq_true rfl) ?_
  intro p e s m args below meth c A ls σ res Q hF X hw hl hend
  have hx := X.1.1
  have hb := X.1.2.1
  have hl : lv_has ls 1 [(0, .ref (h 7))] := hl
  unfold F_Row_takesClose at hF
  refine lv_aload_n hx hb d_Row_takesClose_0 rfl (lv_at hl 0 rfl) ?_
  refine k_Row_isFull X hw lk_Row_48 d_Row_takesClose_1 hl.1 (lv_room (Nat.le_of_ble_eq_true rfl)) ⟨Nat.le_of_ble_eq_true rfl, Nat.le_of_ble_eq_true rfl⟩ ⟨Nat.zero_le _, Nat.zero_le _⟩ hF (fun x1 σ H locs hF hw => ?_)
  refine lv_if_ne (tgt := 32) hx hb d_Row_takesClose_4 (by decide) (fun hc => ?_) (fun hc => ?_)
  · have hF := fx_if hc hF
    refine lv_iconst (v := 0) hx hb d_Row_takesClose_32 (by decide) ?_
    exact hend _ _ _ _ _ _ d_Row_takesClose_33 hF hw
  · have hF := fx_it hc hF
    refine lv_aload_n hx hb d_Row_takesClose_7 rfl (lv_at hl 0 rfl) ?_
    refine gI_Row_openSize X hw lk_Row_33 d_Row_takesClose_8 hF (fun x2 hF => ?_)
    refine lv_if_le (tgt := 32) hx hb d_Row_takesClose_11 (by decide) (fun hc => ?_) (fun hc => ?_)
    · have hF := fx_it hc hF
      refine lv_iconst (v := 0) hx hb d_Row_takesClose_32 (by decide) ?_
      exact hend _ _ _ _ _ _ d_Row_takesClose_33 hF hw
    · have hF := fx_if hc hF
      refine lv_aload_n hx hb d_Row_takesClose_14 rfl (lv_at hl 0 rfl) ?_
      refine k_Row_operandIsDue X hw lk_Row_52 d_Row_takesClose_15 hl.1 (lv_room (Nat.le_of_ble_eq_true rfl)) ⟨Nat.le_of_ble_eq_true rfl, Nat.le_of_ble_eq_true rfl⟩ ⟨Nat.zero_le _, Nat.zero_le _⟩ hF (fun x3 σ H locs hF hw => ?_)
      refine lv_if_eq (tgt := 28) hx hb d_Row_takesClose_18 (by decide) (fun hc => ?_) (fun hc => ?_)
      · have hF := fx_it hc hF
        refine lv_iconst (v := 1) hx hb d_Row_takesClose_28 (by decide) ?_
        refine lv_goto (tgt := 33) hx hb d_Row_takesClose_29 (by decide) ?_
        exact hend _ _ _ _ _ _ d_Row_takesClose_33 hF hw
      · have hF := fx_if hc hF
        refine lv_aload_n hx hb d_Row_takesClose_21 rfl (lv_at hl 0 rfl) ?_
        refine k_Row_mayEndLeftSection X hw lk_Row_58 d_Row_takesClose_22 hl.1 (lv_room (Nat.le_of_ble_eq_true rfl)) ⟨Nat.le_of_ble_eq_true rfl, Nat.le_of_ble_eq_true rfl⟩ ⟨Nat.zero_le _, Nat.zero_le _⟩ hF (fun x4 σ H locs hF hw => ?_)
        refine lv_if_eq (tgt := 32) hx hb d_Row_takesClose_25 (by decide) (fun hc => ?_) (fun hc => ?_)
        · have hF := fx_it hc hF
          refine lv_iconst (v := 0) hx hb d_Row_takesClose_32 (by decide) ?_
          exact hend _ _ _ _ _ _ d_Row_takesClose_33 hF hw
        · have hF := fx_if hc hF
          refine lv_iconst (v := 1) hx hb d_Row_takesClose_28 (by decide) ?_
          refine lv_goto (tgt := 33) hx hb d_Row_takesClose_29 (by decide) ?_
          exact hend _ _ _ _ _ _ d_Row_takesClose_33 hF hw
section
variable {p : Program} {l : Launch} {e : Env} {R : Room} {s : State} {m : MethodId} {args : Array Value} {below : List Frame} {meth : Method} {c : Code} {H : Heap} {locs : List Loc} {cells slots : Nat} {Q : State → Prop}
variable {cc : ByteArray} {pc nL ix : Nat} {ls : Array Slot} {rest : List Value} {own : String} {D : va_G} {A : Nat → Prop} {h : Nat → Nat} {cA : Nat → ClassId} {σ : fx_S} {β : Type} {res : β × fx_S}
theorem k_Row_takesClose (X : fx_X p m c cc nL s args own D fx_cl (fx_tys cA) fx_g fx_G A) (hw : fx_B D fx_cl (fx_ws h cA) A s.heap σ H locs) (lk : Cond.methodLink own ix y_Row_takesClose ∈ fx_g) (hdg : decode cc pc = .ok (.invokevirtual ix, 3)) (hsize : ls.size = nL) (hW : 2 * (F0 m pc ls (.ref (h 7) :: rest)).monitorRoom + (rest.map fun v => v.category).sum ≤ 8) (hR : 4 + 1 ≤ R.frames ∧ 8 + (1 + 11) + 83 ≤ R.locals) (hf : cells ≤ R.cells ∧ slots ≤ R.slots) {k : Int32 → fx_M β} (hF : fx_bnd (F_Row_takesClose) k σ = some res) (kk : ∀ (r : Int32) (σ' : fx_S) (H' : Heap) (locs' : List Loc), k r σ' = some res → fx_B D fx_cl (fx_ws h cA) A s.heap σ' H' locs' → W p l e R s m args below meth c H' locs' cells slots Q (F0 m (pc + 3) ls (.int r :: rest))) : W p l e R s m args below meth c H locs cells slots Q (F0 m pc ls (.ref (h 7) :: rest)) :=
  fx_call_i X hw (c_Row_takesClose l D h cA) (fx_cwV X lk hg_Row_takesClose fx_gok (rm := { frames := 4, cells := 0, slots := 0, locals := 83 }) rfl rfl (by decide +kernel) hR) (va_recv X.2.1 hw.1 (ci := 3) (q0 := 7) rfl rfl) (n := 0) rfl hdg hsize rfl hW hf hF kk
end
