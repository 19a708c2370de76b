set_option maxHeartbeats 4000000 in
set_option maxRecDepth 100000 in
theorem c_IntStack2_pop (l : Launch) (D : va_G) (h : Nat → Nat) (cA : Nat → ClassId) : fx_Mi l y_IntStack_pop b_IntStack_pop 1 (some .int) { frames := 0, cells := 0, slots := 0, locals := 0 } D fx_cl (fx_tys cA) fx_g fx_G (fx_ws h cA) [.ref (h 18)] (F_IntStack2_pop) := by
  refine fx_start_i fx_G_ok (by decide) (Nat.le_of_ble_eq_true rfl) ?_
  intro p e s m args below meth c A ls σ res Q hF X hw hl hend
  have hx := X.1.1
  have hb := X.1.2.1
  have hl : lv_has ls 1 [(0, .ref (h 18))] := hl
  unfold F_IntStack2_pop at hF
  refine lv_aload_n hx hb d_IntStack_pop_0 rfl (lv_at hl 0 rfl) ?_
  refine gI_IntStack2_size X hw lk_IntStack_15 d_IntStack_pop_1 hF (fun x1 hF => ?_)
  refine lv_if_gt (tgt := 9) hx hb d_IntStack_pop_4 (by decide) (fun hc => ?_) (fun hc => ?_)
  · have hF := fx_it hc hF
    refine lv_aload_n hx hb d_IntStack_pop_9 rfl (lv_at hl 0 rfl) ?_
    refine lv_dup hx hb d_IntStack_pop_10 rfl ?_
    refine gI_IntStack2_size X hw lk_IntStack_15 d_IntStack_pop_11 hF (fun x2 hF => ?_)
    refine lv_iconst (v := 1) hx hb d_IntStack_pop_14 (by decide) ?_
    refine lv_isub hx hb d_IntStack_pop_15 ?_
    refine pI_IntStack2_size X hw lk_IntStack_15 d_IntStack_pop_16 hF (fun σ H locs hF hw => ?_)
    refine lv_aload_n hx hb d_IntStack_pop_19 rfl (lv_at hl 0 rfl) ?_
    refine gR_IntStack2_values X hw lk_IntStack_9 d_IntStack_pop_20 ?_
    refine lv_aload_n hx hb d_IntStack_pop_23 rfl (lv_at hl 0 rfl) ?_
    refine gI_IntStack2_size X hw lk_IntStack_15 d_IntStack_pop_24 hF (fun x3 hF => ?_)
    refine lA_IntStack2_values X hw d_IntStack_pop_27 hF (fun x4 hF => ?_)
    exact hend _ _ _ _ _ _ d_IntStack_pop_28 hF hw
  · have hF := fx_if hc hF
    refine lv_iconst (v := (-1)) hx hb d_IntStack_pop_7 (by decide) ?_
    exact hend _ _ _ _ _ _ d_IntStack_pop_8 hF hw
section
variable {p : Program} {l : Launch} {e : Env} {R : Room} {s : State} {m : MethodId} {args : Array Value} {below : List Frame} {meth : Method} {c : Code} {H : Heap} {locs : List Loc} {cells slots : Nat} {Q : State → Prop}
variable {cc : ByteArray} {pc nL ix : Nat} {ls : Array Slot} {rest : List Value} {own : String} {D : va_G} {A : Nat → Prop} {h : Nat → Nat} {cA : Nat → ClassId} {σ : fx_S} {β : Type} {res : β × fx_S}
theorem k_IntStack2_pop (X : fx_X p m c cc nL s args own D fx_cl (fx_tys cA) fx_g fx_G A) (hw : fx_B D fx_cl (fx_ws h cA) A s.heap σ H locs) (lk : Cond.methodLink own ix y_IntStack_pop ∈ fx_g) (hdg : decode cc pc = .ok (.invokevirtual ix, 3)) (hsize : ls.size = nL) (hW : 2 * (F0 m pc ls (.ref (h 18) :: rest)).monitorRoom + (rest.map fun v => v.category).sum ≤ 8) (hR : 0 + 1 ≤ R.frames ∧ 8 + (1 + 11) + 0 ≤ R.locals) (hf : cells ≤ R.cells ∧ slots ≤ R.slots) {k : Int32 → fx_M β} (hF : fx_bnd (F_IntStack2_pop) k σ = some res) (kk : ∀ (r : Int32) (σ' : fx_S) (H' : Heap) (locs' : List Loc), k r σ' = some res → fx_B D fx_cl (fx_ws h cA) A s.heap σ' H' locs' → W p l e R s m args below meth c H' locs' cells slots Q (F0 m (pc + 3) ls (.int r :: rest))) : W p l e R s m args below meth c H locs cells slots Q (F0 m pc ls (.ref (h 18) :: rest)) :=
  fx_call_i X hw (c_IntStack2_pop l D h cA) (fx_cwV X lk hg_IntStack_pop fx_gok (rm := { frames := 0, cells := 0, slots := 0, locals := 0 }) rfl rfl (by decide +kernel) hR) (va_recv X.2.1 hw.1 (ci := 5) (q0 := 18) rfl rfl) (n := 0) rfl hdg hsize rfl hW hf hF kk
end
set_option maxHeartbeats 4000000 in
set_option maxRecDepth 100000 in
theorem c_Resolver_sizeOf (l : Launch) (D : va_G) (h : Nat → Nat) (cA : Nat → ClassId) (v1 : Int32) : fx_Mi l y_Resolver_sizeOf b_Resolver_sizeOf 2 (some .int) { frames := 1, cells := 0, slots := 0, locals := 20 } D fx_cl (fx_tys cA) fx_g fx_G (fx_ws h cA) [.ref (h 13), .int v1] (F_Resolver_sizeOf v1) := by
  refine fx_start_i fx_G_ok (by decide) (Nat.le_of_ble_eq_true rfl) ?_
  intro p e s m args below meth c A ls σ res Q hF X hw hl hend
  have hx := X.1.1
  have hb := X.1.2.1
  have hl : lv_has ls 2 [(0, .ref (h 13)), (1, .int v1)] := hl
  unfold F_Resolver_sizeOf at hF
  refine lv_iload_n hx hb d_Resolver_sizeOf_0 rfl (lv_at hl 1 rfl) ?_
  refine k_Resolver_isPlace X hw lk_Resolver_160 d_Resolver_sizeOf_1 hl.1 (lv_room (Nat.le_of_ble_eq_true rfl)) ⟨Nat.le_of_ble_eq_true rfl, Nat.le_of_ble_eq_true rfl⟩ ⟨Nat.zero_le _, Nat.zero_le _⟩ hF (fun x1 σ H locs hF hw => ?_)
  refine lv_if_eq (tgt := 16) hx hb d_Resolver_sizeOf_4 (by decide) (fun hc => ?_) (fun hc => ?_)
  · have hF := fx_it hc hF
    refine lv_iconst (v := 0) hx hb d_Resolver_sizeOf_16 (by decide) ?_
    exact hend _ _ _ _ _ _ d_Resolver_sizeOf_17 hF hw
  · have hF := fx_if hc hF
    refine lv_aload_n hx hb d_Resolver_sizeOf_7 rfl (lv_at hl 0 rfl) ?_
    refine gR_Resolver_sizes X hw lk_Resolver_34 d_Resolver_sizeOf_8 ?_
    refine lv_iload_n hx hb d_Resolver_sizeOf_11 rfl (lv_at hl 1 rfl) ?_
    refine lA_Resolver_sizes X hw d_Resolver_sizeOf_12 hF (fun x2 hF => ?_)
    refine lv_goto (tgt := 17) hx hb d_Resolver_sizeOf_13 (by decide) ?_
    exact hend _ _ _ _ _ _ d_Resolver_sizeOf_17 hF hw
section
variable {p : Program} {l : Launch} {e : Env} {R : Room} {s : State} {m : MethodId} {args : Array Value} {below : List Frame} {meth : Method} {c : Code} {H : Heap} {locs : List Loc} {cells slots : Nat} {Q : State → Prop}
variable {cc : ByteArray} {pc nL ix : Nat} {ls : Array Slot} {rest : List Value} {own : String} {D : va_G} {A : Nat → Prop} {h : Nat → Nat} {cA : Nat → ClassId} {σ : fx_S} {β : Type} {res : β × fx_S}
theorem k_Resolver_sizeOf {v1 : Int32} (X : fx_X p m c cc nL s args own D fx_cl (fx_tys cA) fx_g fx_G A) (hw : fx_B D fx_cl (fx_ws h cA) A s.heap σ H locs) (lk : Cond.methodLink own ix y_Resolver_sizeOf ∈ fx_g) (hdg : decode cc pc = .ok (.invokevirtual ix, 3)) (hsize : ls.size = nL) (hW : 2 * (F0 m pc ls (.int v1 :: .ref (h 13) :: rest)).monitorRoom + (rest.map fun v => v.category).sum ≤ 8) (hR : 1 + 1 ≤ R.frames ∧ 8 + (2 + 11) + 20 ≤ R.locals) (hf : cells ≤ R.cells ∧ slots ≤ R.slots) {k : Int32 → fx_M β} (hF : fx_bnd (F_Resolver_sizeOf v1) k σ = some res) (kk : ∀ (r : Int32) (σ' : fx_S) (H' : Heap) (locs' : List Loc), k r σ' = some res → fx_B D fx_cl (fx_ws h cA) A s.heap σ' H' locs' → W p l e R s m args below meth c H' locs' cells slots Q (F0 m (pc + 3) ls (.int r :: rest))) : W p l e R s m args below meth c H locs cells slots Q (F0 m pc ls (.int v1 :: .ref (h 13) :: rest)) :=
  fx_call_i X hw (c_Resolver_sizeOf l D h cA v1) (fx_cwV X lk hg_Resolver_sizeOf fx_gok (rm := { frames := 1, cells := 0, slots := 0, locals := 20 }) rfl rfl (by decide +kernel) hR) (va_recv X.2.1 hw.1 (ci := 4) (q0 := 13) rfl rfl) (n := 1) rfl hdg hsize rfl hW hf hF kk
end
set_option maxHeartbeats 4000000 in
set_option maxRecDepth 100000 in
theorem c_Resolver_heightOf (l : Launch) (D : va_G) (h : Nat → Nat) (cA : Nat → ClassId) (v1 : Int32) : fx_Mi l y_Resolver_heightOf b_Resolver_heightOf 2 (some .int) { frames := 1, cells := 0, slots := 0, locals := 20 } D fx_cl (fx_tys cA) fx_g fx_G (fx_ws h cA) [.ref (h 13), .int v1] (F_Resolver_heightOf v1) := by
  refine fx_start_i fx_G_ok (by decide) (Nat.le_of_ble_eq_true rfl) ?_
  intro p e s m args below meth c A ls σ res Q hF X hw hl hend
  have hx := X.1.1
  have hb := X.1.2.1
  have hl : lv_has ls 2 [(0, .ref (h 13)), (1, .int v1)] := hl
  unfold F_Resolver_heightOf at hF
  refine lv_iload_n hx hb d_Resolver_heightOf_0 rfl (lv_at hl 1 rfl) ?_
  refine k_Resolver_isPlace X hw lk_Resolver_160 d_Resolver_heightOf_1 hl.1 (lv_room (Nat.le_of_ble_eq_true rfl)) ⟨Nat.le_of_ble_eq_true rfl, Nat.le_of_ble_eq_true rfl⟩ ⟨Nat.zero_le _, Nat.zero_le _⟩ hF (fun x1 σ H locs hF hw => ?_)
  refine lv_if_eq (tgt := 16) hx hb d_Resolver_heightOf_4 (by decide) (fun hc => ?_) (fun hc => ?_)
  · have hF := fx_it hc hF
    refine lv_iconst (v := 0) hx hb d_Resolver_heightOf_16 (by decide) ?_
    exact hend _ _ _ _ _ _ d_Resolver_heightOf_17 hF hw
  · have hF := fx_if hc hF
    refine lv_aload_n hx hb d_Resolver_heightOf_7 rfl (lv_at hl 0 rfl) ?_
    refine gR_Resolver_heights X hw lk_Resolver_37 d_Resolver_heightOf_8 ?_
    refine lv_iload_n hx hb d_Resolver_heightOf_11 rfl (lv_at hl 1 rfl) ?_
    refine lA_Resolver_heights X hw d_Resolver_heightOf_12 hF (fun x2 hF => ?_)
    refine lv_goto (tgt := 17) hx hb d_Resolver_heightOf_13 (by decide) ?_
    exact hend _ _ _ _ _ _ d_Resolver_heightOf_17 hF hw
section
variable {p : Program} {l : Launch} {e : Env} {R : Room} {s : State} {m : MethodId} {args : Array Value} {below : List Frame} {meth : Method} {c : Code} {H : Heap} {locs : List Loc} {cells slots : Nat} {Q : State → Prop}
variable {cc : ByteArray} {pc nL ix : Nat} {ls : Array Slot} {rest : List Value} {own : String} {D : va_G} {A : Nat → Prop} {h : Nat → Nat} {cA : Nat → ClassId} {σ : fx_S} {β : Type} {res : β × fx_S}
theorem k_Resolver_heightOf {v1 : Int32} (X : fx_X p m c cc nL s args own D fx_cl (fx_tys cA) fx_g fx_G A) (hw : fx_B D fx_cl (fx_ws h cA) A s.heap σ H locs) (lk : Cond.methodLink own ix y_Resolver_heightOf ∈ fx_g) (hdg : decode cc pc = .ok (.invokevirtual ix, 3)) (hsize : ls.size = nL) (hW : 2 * (F0 m pc ls (.int v1 :: .ref (h 13) :: rest)).monitorRoom + (rest.map fun v => v.category).sum ≤ 8) (hR : 1 + 1 ≤ R.frames ∧ 8 + (2 + 11) + 20 ≤ R.locals) (hf : cells ≤ R.cells ∧ slots ≤ R.slots) {k : Int32 → fx_M β} (hF : fx_bnd (F_Resolver_heightOf v1) k σ = some res) (kk : ∀ (r : Int32) (σ' : fx_S) (H' : Heap) (locs' : List Loc), k r σ' = some res → fx_B D fx_cl (fx_ws h cA) A s.heap σ' H' locs' → W p l e R s m args below meth c H' locs' cells slots Q (F0 m (pc + 3) ls (.int r :: rest))) : W p l e R s m args below meth c H locs cells slots Q (F0 m pc ls (.int v1 :: .ref (h 13) :: rest)) :=
  fx_call_i X hw (c_Resolver_heightOf l D h cA v1) (fx_cwV X lk hg_Resolver_heightOf fx_gok (rm := { frames := 1, cells := 0, slots := 0, locals := 20 }) rfl rfl (by decide +kernel) hR) (va_recv X.2.1 hw.1 (ci := 4) (q0 := 13) rfl rfl) (n := 1) rfl hdg hsize rfl hW hf hF kk
end
set_option maxHeartbeats 4000000 in
set_option maxRecDepth 100000 in
theorem c_IntStack2_push (l : Launch) (D : va_G) (h : Nat → Nat) (cA : Nat → ClassId) (v1 : Int32) : fx_Mv l y_IntStack_push b_IntStack_push 2 none { frames := 0, cells := 0, slots := 0, locals := 0 } D fx_cl (fx_tys cA) fx_g fx_G (fx_ws h cA) [.ref (h 18), .int v1] (F_IntStack2_push v1) := by
  refine fx_start_v fx_G_ok (by decide) (Nat.le_of_ble_eq_true rfl) ?_
  intro p e s m args below meth c A ls σ res Q hF X hw hl hend
  have hx := X.1.1
  have hb := X.1.2.1
  have hl : lv_has ls 2 [(0, .ref (h 18)), (1, .int v1)] := hl
  unfold F_IntStack2_push at hF
  refine lv_aload_n hx hb d_IntStack_push_0 rfl (lv_at hl 0 rfl) ?_
  refine gI_IntStack2_size X hw lk_IntStack_15 d_IntStack_push_1 hF (fun x1 hF => ?_)
  refine lv_sipush (v := 200) hx hb d_IntStack_push_4 (by decide) ?_
  refine lv_icmp_ge (tgt := 30) hx hb d_IntStack_push_7 (by decide) (fun hc => ?_) (fun hc => ?_)
  · have hF := fx_it hc hF
    exact hend _ _ _ _ _ d_IntStack_push_30 hF hw
  · have hF := fx_if hc hF
    refine lv_aload_n hx hb d_IntStack_push_10 rfl (lv_at hl 0 rfl) ?_
    refine gR_IntStack2_values X hw lk_IntStack_9 d_IntStack_push_11 ?_
    refine lv_aload_n hx hb d_IntStack_push_14 rfl (lv_at hl 0 rfl) ?_
    refine gI_IntStack2_size X hw lk_IntStack_15 d_IntStack_push_15 hF (fun x2 hF => ?_)
    refine lv_iload_n hx hb d_IntStack_push_18 rfl (lv_at hl 1 rfl) ?_
    refine sA_IntStack2_values X hw d_IntStack_push_19 hF (fun σ H locs hF hw => ?_)
    refine lv_aload_n hx hb d_IntStack_push_20 rfl (lv_at hl 0 rfl) ?_
    refine lv_dup hx hb d_IntStack_push_21 rfl ?_
    refine gI_IntStack2_size X hw lk_IntStack_15 d_IntStack_push_22 hF (fun x3 hF => ?_)
    refine lv_iconst (v := 1) hx hb d_IntStack_push_25 (by decide) ?_
    refine lv_iadd hx hb d_IntStack_push_26 ?_
    refine pI_IntStack2_size X hw lk_IntStack_15 d_IntStack_push_27 hF (fun σ H locs hF hw => ?_)
    exact hend _ _ _ _ _ d_IntStack_push_30 hF hw
section
variable {p : Program} {l : Launch} {e : Env} {R : Room} {s : State} {m : MethodId} {args : Array Value} {below : List Frame} {meth : Method} {c : Code} {H : Heap} {locs : List Loc} {cells slots : Nat} {Q : State → Prop}
variable {cc : ByteArray} {pc nL ix : Nat} {ls : Array Slot} {rest : List Value} {own : String} {D : va_G} {A : Nat → Prop} {h : Nat → Nat} {cA : Nat → ClassId} {σ : fx_S} {β : Type} {res : β × fx_S}
theorem k_IntStack2_push {v1 : Int32} (X : fx_X p m c cc nL s args own D fx_cl (fx_tys cA) fx_g fx_G A) (hw : fx_B D fx_cl (fx_ws h cA) A s.heap σ H locs) (lk : Cond.methodLink own ix y_IntStack_push ∈ fx_g) (hdg : decode cc pc = .ok (.invokevirtual ix, 3)) (hsize : ls.size = nL) (hW : 2 * (F0 m pc ls (.int v1 :: .ref (h 18) :: rest)).monitorRoom + (rest.map fun v => v.category).sum ≤ 8) (hR : 0 + 1 ≤ R.frames ∧ 8 + (2 + 11) + 0 ≤ R.locals) (hf : cells ≤ R.cells ∧ slots ≤ R.slots) {k : Unit → fx_M β} (hF : fx_bnd (F_IntStack2_push v1) k σ = some res) (kk : ∀ (σ' : fx_S) (H' : Heap) (locs' : List Loc), k () σ' = some res → fx_B D fx_cl (fx_ws h cA) A s.heap σ' H' locs' → W p l e R s m args below meth c H' locs' cells slots Q (F0 m (pc + 3) ls rest)) : W p l e R s m args below meth c H locs cells slots Q (F0 m pc ls (.int v1 :: .ref (h 18) :: rest)) :=
  fx_call_v X hw (c_IntStack2_push l D h cA v1) (fx_cwV X lk hg_IntStack_push fx_gok (rm := { frames := 0, cells := 0, slots := 0, locals := 0 }) rfl rfl (by decide +kernel) hR) (va_recv X.2.1 hw.1 (ci := 5) (q0 := 18) rfl rfl) (n := 1) rfl hdg hsize rfl hW hf hF kk
end
set_option maxHeartbeats 4000000 in
set_option maxRecDepth 100000 in
theorem c_Resolver_finish (l : Launch) (D : va_G) (h : Nat → Nat) (cA : Nat → ClassId) (v1 : Int32) : fx_Mv l y_Resolver_finish b_Resolver_finish 5 none { frames := 2, cells := 0, slots := 0, locals := 42 } D fx_cl (fx_tys cA) fx_g fx_G (fx_ws h cA) [.ref (h 13), .int v1] (F_Resolver_finish v1) := by
  refine fx_start_v fx_G_ok (by decide) (Nat.le_of_ble_eq_true rfl) ?_
  intro p e s m args below meth c A ls σ res Q hF X hw hl hend
  have hx := X.1.1
  have hb := X.1.2.1
  have hl : lv_has ls 5 [(0, .ref (h 13)), (1, .int v1)] := hl
  unfold F_Resolver_finish at hF
  have h49 : ∀ (v1 : Int32) (v3 : Int32) (t0 : Int32) (σ : fx_S) (H : Heap) (locs : List Loc) (ls : Array Slot), F_Resolver_finish_J49 v1 v3 t0 σ = some res → fx_B D fx_cl (fx_ws h cA) A s.heap σ H locs → lv_has ls 5 [(0, .ref (h 13)), (1, .int v1), (3, .int v3)] → W p l e { frames := 2, cells := 0, slots := 0, locals := 42 } s m args below meth c H locs 0 0 Q (F0 m 49 ls [.int t0]) := by
    intro v1 v3 t0 σ H locs ls hF hw hl
    unfold F_Resolver_finish_J49 at hF
    refine lv_istore (lv' := [(4, .int t0), (0, .ref (h 13)), (1, .int v1), (3, .int v3)]) hx hb d_Resolver_finish_49 hl (by decide) rfl (fun ls hl => ?_)
    refine lv_aload_n hx hb d_Resolver_finish_51 rfl (lv_at hl 1 rfl) ?_
    refine gR_Resolver_firsts X hw lk_Resolver_27 d_Resolver_finish_52 ?_
    refine lv_iload_n hx hb d_Resolver_finish_55 rfl (lv_at hl 2 rfl) ?_
    refine lv_iload hx hb d_Resolver_finish_56 (lv_at hl 0 rfl) ?_
    refine sA_Resolver_firsts X hw d_Resolver_finish_58 hF (fun σ H locs hF hw => ?_)
    refine lv_aload_n hx hb d_Resolver_finish_59 rfl (lv_at hl 1 rfl) ?_
    refine gR_Resolver_seconds X hw lk_Resolver_31 d_Resolver_finish_60 ?_
    refine lv_iload_n hx hb d_Resolver_finish_63 rfl (lv_at hl 2 rfl) ?_
    refine lv_iload_n hx hb d_Resolver_finish_64 rfl (lv_at hl 3 rfl) ?_
    refine sA_Resolver_seconds X hw d_Resolver_finish_65 hF (fun σ H locs hF hw => ?_)
    refine lv_aload_n hx hb d_Resolver_finish_66 rfl (lv_at hl 1 rfl) ?_
    refine gR_Resolver_sizes X hw lk_Resolver_34 d_Resolver_finish_67 ?_
    refine lv_iload_n hx hb d_Resolver_finish_70 rfl (lv_at hl 2 rfl) ?_
    refine lv_iconst (v := 1) hx hb d_Resolver_finish_71 (by decide) ?_
    refine lv_aload_n hx hb d_Resolver_finish_72 rfl (lv_at hl 1 rfl) ?_
    refine lv_iload hx hb d_Resolver_finish_73 (lv_at hl 0 rfl) ?_
    refine k_Resolver_sizeOf X hw lk_Resolver_130 d_Resolver_finish_75 hl.1 (lv_room (Nat.le_of_ble_eq_true rfl)) ⟨Nat.le_of_ble_eq_true rfl, Nat.le_of_ble_eq_true rfl⟩ ⟨Nat.zero_le _, Nat.zero_le _⟩ hF (fun x4 σ H locs hF hw => ?_)
    refine lv_iadd hx hb d_Resolver_finish_78 ?_
    refine lv_aload_n hx hb d_Resolver_finish_79 rfl (lv_at hl 1 rfl) ?_
    refine lv_iload_n hx hb d_Resolver_finish_80 rfl (lv_at hl 3 rfl) ?_
    refine k_Resolver_sizeOf X hw lk_Resolver_130 d_Resolver_finish_81 hl.1 (lv_room (Nat.le_of_ble_eq_true rfl)) ⟨Nat.le_of_ble_eq_true rfl, Nat.le_of_ble_eq_true rfl⟩ ⟨Nat.zero_le _, Nat.zero_le _⟩ hF (fun x5 σ H locs hF hw => ?_)
    refine lv_iadd hx hb d_Resolver_finish_84 ?_
    refine sA_Resolver_sizes X hw d_Resolver_finish_85 hF (fun σ H locs hF hw => ?_)
    refine lv_aload_n hx hb d_Resolver_finish_86 rfl (lv_at hl 1 rfl) ?_
    refine gR_Resolver_heights X hw lk_Resolver_37 d_Resolver_finish_87 ?_
    refine lv_iload_n hx hb d_Resolver_finish_90 rfl (lv_at hl 2 rfl) ?_
    refine lv_iconst (v := 1) hx hb d_Resolver_finish_91 (by decide) ?_
    refine lv_aload_n hx hb d_Resolver_finish_92 rfl (lv_at hl 1 rfl) ?_
    refine lv_iload hx hb d_Resolver_finish_93 (lv_at hl 0 rfl) ?_
    refine k_Resolver_heightOf X hw lk_Resolver_100 d_Resolver_finish_95 hl.1 (lv_room (Nat.le_of_ble_eq_true rfl)) ⟨Nat.le_of_ble_eq_true rfl, Nat.le_of_ble_eq_true rfl⟩ ⟨Nat.zero_le _, Nat.zero_le _⟩ hF (fun x6 σ H locs hF hw => ?_)
    refine lv_aload_n hx hb d_Resolver_finish_98 rfl (lv_at hl 1 rfl) ?_
    refine lv_iload_n hx hb d_Resolver_finish_99 rfl (lv_at hl 3 rfl) ?_
    refine k_Resolver_heightOf X hw lk_Resolver_100 d_Resolver_finish_100 hl.1 (lv_room (Nat.le_of_ble_eq_true rfl)) ⟨Nat.le_of_ble_eq_true rfl, Nat.le_of_ble_eq_true rfl⟩ ⟨Nat.zero_le _, Nat.zero_le _⟩ hF (fun x7 σ H locs hF hw => ?_)
    refine fx_max X hl.1 fx_mxg lk_Resolver_164 d_Resolver_finish_103 (Nat.le_of_ble_eq_true rfl) (Nat.le_of_ble_eq_true rfl) (Nat.zero_le _) (Nat.zero_le _) hF (fun x8 hF => ?_)
    refine lv_iadd hx hb d_Resolver_finish_106 ?_
    refine sA_Resolver_heights X hw d_Resolver_finish_107 hF (fun σ H locs hF hw => ?_)
    refine lv_aload_n hx hb d_Resolver_finish_108 rfl (lv_at hl 1 rfl) ?_
    refine gR_Resolver_ready X hw lk_Resolver_21 d_Resolver_finish_109 ?_
    refine lv_iload_n hx hb d_Resolver_finish_112 rfl (lv_at hl 2 rfl) ?_
    refine k_IntStack2_push X hw lk_Resolver_85 d_Resolver_finish_113 hl.1 (lv_room (Nat.le_of_ble_eq_true rfl)) ⟨Nat.le_of_ble_eq_true rfl, Nat.le_of_ble_eq_true rfl⟩ ⟨Nat.zero_le _, Nat.zero_le _⟩ hF (fun σ H locs hF hw => ?_)
    exact hend _ _ _ _ _ d_Resolver_finish_116 hF hw
  have h33 : ∀ (v1 : Int32) (v2 : Int32) (t0 : Int32) (σ : fx_S) (H : Heap) (locs : List Loc) (ls : Array Slot), F_Resolver_finish_J33 v1 v2 t0 σ = some res → fx_B D fx_cl (fx_ws h cA) A s.heap σ H locs → lv_has ls 5 [(0, .ref (h 13)), (1, .int v1), (2, .int v2)] → W p l e { frames := 2, cells := 0, slots := 0, locals := 42 } s m args below meth c H locs 0 0 Q (F0 m 33 ls [.int t0]) := by
    intro v1 v2 t0 σ H locs ls hF hw hl
    unfold F_Resolver_finish_J33 at hF
    refine lv_istore_n (lv' := [(3, .int t0), (0, .ref (h 13)), (1, .int v1), (2, .int v2)]) hx hb d_Resolver_finish_33 rfl hl (by decide) rfl (fun ls hl => ?_)
    refine lv_iload_n hx hb d_Resolver_finish_34 rfl (lv_at hl 3 rfl) ?_
    refine lv_if_ne (tgt := 42) hx hb d_Resolver_finish_35 (by decide) (fun hc => ?_) (fun hc => ?_)
    · have hF := fx_if hc hF
      refine lv_aload_n hx hb d_Resolver_finish_42 rfl (lv_at hl 1 rfl) ?_
      refine gR_Resolver_ready X hw lk_Resolver_21 d_Resolver_finish_43 ?_
      refine k_IntStack2_pop X hw lk_Resolver_107 d_Resolver_finish_46 hl.1 (lv_room (Nat.le_of_ble_eq_true rfl)) ⟨Nat.le_of_ble_eq_true rfl, Nat.le_of_ble_eq_true rfl⟩ ⟨Nat.zero_le _, Nat.zero_le _⟩ hF (fun x3 σ H locs hF hw => ?_)
      exact h49 v1 t0 x3 _ _ _ _ hF hw (lv_sub hl [1, 2, 0] rfl)
    · have hF := fx_it hc hF
      refine lv_iconst (v := (-1)) hx hb d_Resolver_finish_38 (by decide) ?_
      refine lv_goto (tgt := 49) hx hb d_Resolver_finish_39 (by decide) ?_
      exact h49 v1 t0 (-1) _ _ _ _ hF hw (lv_sub hl [1, 2, 0] rfl)
  refine lv_iload_n hx hb d_Resolver_finish_0 rfl (lv_at hl 1 rfl) ?_
  refine k_Resolver_isPlace X hw lk_Resolver_160 d_Resolver_finish_1 hl.1 (lv_room (Nat.le_of_ble_eq_true rfl)) ⟨Nat.le_of_ble_eq_true rfl, Nat.le_of_ble_eq_true rfl⟩ ⟨Nat.zero_le _, Nat.zero_le _⟩ hF (fun x1 σ H locs hF hw => ?_)
  refine lv_if_ne (tgt := 8) hx hb d_Resolver_finish_4 (by decide) (fun hc => ?_) (fun hc => ?_)
  · have hF := fx_if hc hF
    refine lv_aload_n hx hb d_Resolver_finish_8 rfl (lv_at hl 0 rfl) ?_
    refine gR_Resolver_row X hw lk_Resolver_40 d_Resolver_finish_9 ?_
    refine lv_iload_n hx hb d_Resolver_finish_12 rfl (lv_at hl 1 rfl) ?_
    refine k_Row_nodeKindAt X hw lk_Resolver_116 d_Resolver_finish_13 hl.1 (lv_room (Nat.le_of_ble_eq_true rfl)) ⟨Nat.le_of_ble_eq_true rfl, Nat.le_of_ble_eq_true rfl⟩ ⟨Nat.zero_le _, Nat.zero_le _⟩ hF (fun x2 σ H locs hF hw => ?_)
    refine lv_istore_n (lv' := [(2, .int x2), (0, .ref (h 13)), (1, .int v1)]) hx hb d_Resolver_finish_16 rfl hl (by decide) rfl (fun ls hl => ?_)
    refine lv_iload_n hx hb d_Resolver_finish_17 rfl (lv_at hl 0 rfl) ?_
    refine lv_iconst (v := 1) hx hb d_Resolver_finish_18 (by decide) ?_
    refine lv_icmp_ne (tgt := 32) hx hb d_Resolver_finish_19 (by decide) (fun hc => ?_) (fun hc => ?_)
    · have hF := fx_if hc hF
      refine lv_iconst (v := (-1)) hx hb d_Resolver_finish_32 (by decide) ?_
      exact h33 v1 x2 (-1) _ _ _ _ hF hw (lv_sub hl [1, 2, 0] rfl)
    · have hF := fx_it hc hF
      refine lv_aload_n hx hb d_Resolver_finish_22 rfl (lv_at hl 1 rfl) ?_
      refine gR_Resolver_ready X hw lk_Resolver_21 d_Resolver_finish_23 ?_
      refine k_IntStack2_pop X hw lk_Resolver_107 d_Resolver_finish_26 hl.1 (lv_room (Nat.le_of_ble_eq_true rfl)) ⟨Nat.le_of_ble_eq_true rfl, Nat.le_of_ble_eq_true rfl⟩ ⟨Nat.zero_le _, Nat.zero_le _⟩ hF (fun x9 σ H locs hF hw => ?_)
      refine lv_goto (tgt := 33) hx hb d_Resolver_finish_29 (by decide) ?_
      exact h33 v1 x2 x9 _ _ _ _ hF hw (lv_sub hl [1, 2, 0] rfl)
  · have hF := fx_it hc hF
    exact hend _ _ _ _ _ d_Resolver_finish_7 hF hw
section
variable {p : Program} {l : Launch} {e : Env} {R : Room} {s : State} {m : MethodId} {args : Array Value} {below : List Frame} {meth : Method} {c : Code} {H : Heap} {locs : List Loc} {cells slots : Nat} {Q : State → Prop}
variable {cc : ByteArray} {pc nL ix : Nat} {ls : Array Slot} {rest : List Value} {own : String} {D : va_G} {A : Nat → Prop} {h : Nat → Nat} {cA : Nat → ClassId} {σ : fx_S} {β : Type} {res : β × fx_S}
theorem k_Resolver_finish {v1 : Int32} (X : fx_X p m c cc nL s args own D fx_cl (fx_tys cA) fx_g fx_G A) (hw : fx_B D fx_cl (fx_ws h cA) A s.heap σ H locs) (lk : Cond.methodLink own ix y_Resolver_finish ∈ fx_g) (hdg : decode cc pc = .ok (.invokevirtual ix, 3)) (hsize : ls.size = nL) (hW : 2 * (F0 m pc ls (.int v1 :: .ref (h 13) :: rest)).monitorRoom + (rest.map fun v => v.category).sum ≤ 8) (hR : 2 + 1 ≤ R.frames ∧ 8 + (5 + 11) + 42 ≤ R.locals) (hf : cells ≤ R.cells ∧ slots ≤ R.slots) {k : Unit → fx_M β} (hF : fx_bnd (F_Resolver_finish v1) k σ = some res) (kk : ∀ (σ' : fx_S) (H' : Heap) (locs' : List Loc), k () σ' = some res → fx_B D fx_cl (fx_ws h cA) A s.heap σ' H' locs' → W p l e R s m args below meth c H' locs' cells slots Q (F0 m (pc + 3) ls rest)) : W p l e R s m args below meth c H locs cells slots Q (F0 m pc ls (.int v1 :: .ref (h 13) :: rest)) :=
  fx_call_v X hw (c_Resolver_finish l D h cA v1) (fx_cwV X lk hg_Resolver_finish fx_gok (rm := { frames := 2, cells := 0, slots := 0, locals := 42 }) rfl rfl (by decide +kernel) hR) (va_recv X.2.1 hw.1 (ci := 4) (q0 := 13) rfl rfl) (n := 1) rfl hdg hsize rfl hW hf hF kk
end
set_option maxHeartbeats 4000000 in
set_option maxRecDepth 100000 in
theorem c_Resolver_finishGroup (l : Launch) (D : va_G) (h : Nat → Nat) (cA : Nat → ClassId) : fx_Mv l y_Resolver_finishGroup b_Resolver_finishGroup 2 none { frames := 3, cells := 0, slots := 0, locals := 66 } D fx_cl (fx_tys cA) fx_g fx_G (fx_ws h cA) [.ref (h 13)] (F_Resolver_finishGroup) := by
  refine fx_start_v fx_G_ok (by decide) (Nat.le_of_ble_eq_true rfl) ?_
  intro p e s m args below meth c A ls σ res Q hF X hw hl hend
  have hx := X.1.1
  have hb := X.1.2.1
  have hl : lv_has ls 2 [(0, .ref (h 13))] := hl
  unfold F_Resolver_finishGroup at hF
  have h33 : ∀ (σ : fx_S) (H : Heap) (locs : List Loc) (ls : Array Slot), F_Resolver_finishGroup_J33 σ = some res → fx_B D fx_cl (fx_ws h cA) A s.heap σ H locs → lv_has ls 2 [(0, .ref (h 13))] → W p l e { frames := 3, cells := 0, slots := 0, locals := 66 } s m args below meth c H locs 0 0 Q (F0 m 33 ls []) := by
    intro σ H locs ls hF hw hl
    unfold F_Resolver_finishGroup_J33 at hF
    refine lv_aload_n hx hb d_Resolver_finishGroup_33 rfl (lv_at hl 0 rfl) ?_
    refine gR_Resolver_waitingBefore X hw lk_Resolver_18 d_Resolver_finishGroup_34 ?_
    refine k_IntStack1_pop X hw lk_Resolver_107 d_Resolver_finishGroup_37 hl.1 (lv_room (Nat.le_of_ble_eq_true rfl)) ⟨Nat.le_of_ble_eq_true rfl, Nat.le_of_ble_eq_true rfl⟩ ⟨Nat.zero_le _, Nat.zero_le _⟩ hF (fun x1 σ H locs hF hw => ?_)
    refine lv_pop hx hb d_Resolver_finishGroup_40 rfl ?_
    exact hend _ _ _ _ _ d_Resolver_finishGroup_41 hF hw
  have h2 : ∀ (n2 : Nat) (v1 : Int32) (σ : fx_S) (H : Heap) (locs : List Loc) (ls : Array Slot), fx_loop1 (F_Resolver_finishGroup_B2) n2 v1 σ = some res → fx_B D fx_cl (fx_ws h cA) A s.heap σ H locs → lv_has ls 2 [(0, .ref (h 13)), (1, .int v1)] → W p l e { frames := 3, cells := 0, slots := 0, locals := 66 } s m args below meth c H locs 0 0 Q (F0 m 2 ls []) := by
    intro n2
    induction n2 with
    | zero => intro v1 σ H locs ls hF; cases hF
    | succ n2 ih2 =>
      obtain ⟨K2, eK2⟩ : ∃ K, K = fx_loop1 (F_Resolver_finishGroup_B2) n2 := ⟨_, rfl⟩
      rw [← eK2] at ih2
      intro v1 σ H locs ls hF hw hl
      replace hF : F_Resolver_finishGroup_B2 (fx_loop1 (F_Resolver_finishGroup_B2) n2) v1 σ = some res := hF
      rw [← eK2] at hF
      unfold F_Resolver_finishGroup_B2 at hF
      refine lv_iload_n hx hb d_Resolver_finishGroup_2 rfl (lv_at hl 1 rfl) ?_
      refine lv_sipush (v := 200) hx hb d_Resolver_finishGroup_3 (by decide) ?_
      refine lv_icmp_ge (tgt := 33) hx hb d_Resolver_finishGroup_6 (by decide) (fun hc => ?_) (fun hc => ?_)
      · have hF := fx_it hc hF
        exact h33 _ _ _ _ hF hw (lv_sub hl [0] rfl)
      · have hF := fx_if hc hF
        refine lv_aload_n hx hb d_Resolver_finishGroup_9 rfl (lv_at hl 0 rfl) ?_
        refine k_Resolver_oneWaits X hw lk_Resolver_137 d_Resolver_finishGroup_10 hl.1 (lv_room (Nat.le_of_ble_eq_true rfl)) ⟨Nat.le_of_ble_eq_true rfl, Nat.le_of_ble_eq_true rfl⟩ ⟨Nat.zero_le _, Nat.zero_le _⟩ hF (fun x2 σ H locs hF hw => ?_)
        refine lv_if_eq (tgt := 33) hx hb d_Resolver_finishGroup_13 (by decide) (fun hc => ?_) (fun hc => ?_)
        · have hF := fx_it hc hF
          exact h33 _ _ _ _ hF hw (lv_sub hl [0] rfl)
        · have hF := fx_if hc hF
          refine lv_aload_n hx hb d_Resolver_finishGroup_16 rfl (lv_at hl 0 rfl) ?_
          refine lv_aload_n hx hb d_Resolver_finishGroup_17 rfl (lv_at hl 0 rfl) ?_
          refine gR_Resolver_waiting X hw lk_Resolver_12 d_Resolver_finishGroup_18 ?_
          refine k_IntStack0_pop X hw lk_Resolver_107 d_Resolver_finishGroup_21 hl.1 (lv_room (Nat.le_of_ble_eq_true rfl)) ⟨Nat.le_of_ble_eq_true rfl, Nat.le_of_ble_eq_true rfl⟩ ⟨Nat.zero_le _, Nat.zero_le _⟩ hF (fun x3 σ H locs hF hw => ?_)
          refine k_Resolver_finish X hw lk_Resolver_74 d_Resolver_finishGroup_24 hl.1 (lv_room (Nat.le_of_ble_eq_true rfl)) ⟨Nat.le_of_ble_eq_true rfl, Nat.le_of_ble_eq_true rfl⟩ ⟨Nat.zero_le _, Nat.zero_le _⟩ hF (fun σ H locs hF hw => ?_)
          refine fx_iinc (lv' := fun x4 => [(1, .int x4), (0, .ref (h 13))]) hx hb d_Resolver_finishGroup_27 hl (k := 1) rfl rfl (by decide) (fun _ => rfl) hF (fun x4 ls hF hl => ?_)
          refine lv_goto (tgt := 2) hx hb d_Resolver_finishGroup_30 (by decide) ?_
          exact ih2 x4 _ _ _ _ hF hw (lv_sub hl [1, 0] rfl)
  refine lv_iconst (v := 0) hx hb d_Resolver_finishGroup_0 (by decide) ?_
  refine lv_istore_n (lv' := [(1, .int 0), (0, .ref (h 13))]) hx hb d_Resolver_finishGroup_1 rfl hl (by decide) rfl (fun ls hl => ?_)
  exact h2 fx_fuel 0 _ _ _ _ hF hw (lv_sub hl [1, 0] rfl)
section
variable {p : Program} {l : Launch} {e : Env} {R : Room} {s : State} {m : MethodId} {args : Array Value} {below : List Frame} {meth : Method} {c : Code} {H : Heap} {locs : List Loc} {cells slots : Nat} {Q : State → Prop}
variable {cc : ByteArray} {pc nL ix : Nat} {ls : Array Slot} {rest : List Value} {own : String} {D : va_G} {A : Nat → Prop} {h : Nat → Nat} {cA : Nat → ClassId} {σ : fx_S} {β : Type} {res : β × fx_S}
theorem k_Resolver_finishGroup (X : fx_X p m c cc nL s args own D fx_cl (fx_tys cA) fx_g fx_G A) (hw : fx_B D fx_cl (fx_ws h cA) A s.heap σ H locs) (lk : Cond.methodLink own ix y_Resolver_finishGroup ∈ fx_g) (hdg : decode cc pc = .ok (.invokevirtual ix, 3)) (hsize : ls.size = nL) (hW : 2 * (F0 m pc ls (.ref (h 13) :: rest)).monitorRoom + (rest.map fun v => v.category).sum ≤ 8) (hR : 3 + 1 ≤ R.frames ∧ 8 + (2 + 11) + 66 ≤ R.locals) (hf : cells ≤ R.cells ∧ slots ≤ R.slots) {k : Unit → fx_M β} (hF : fx_bnd (F_Resolver_finishGroup) k σ = some res) (kk : ∀ (σ' : fx_S) (H' : Heap) (locs' : List Loc), k () σ' = some res → fx_B D fx_cl (fx_ws h cA) A s.heap σ' H' locs' → W p l e R s m args below meth c H' locs' cells slots Q (F0 m (pc + 3) ls rest)) : W p l e R s m args below meth c H locs cells slots Q (F0 m pc ls (.ref (h 13) :: rest)) :=
  fx_call_v X hw (c_Resolver_finishGroup l D h cA) (fx_cwV X lk hg_Resolver_finishGroup fx_gok (rm := { frames := 3, cells := 0, slots := 0, locals := 66 }) rfl rfl (by decide +kernel) hR) (va_recv X.2.1 hw.1 (ci := 4) (q0 := 13) rfl rfl) (n := 0) rfl hdg hsize rfl hW hf hF kk
end
set_option maxHeartbeats 4000000 in
set_option maxRecDepth 100000 in
theorem c_IntStack0_push (l : Launch) (D : va_G) (h : Nat → Nat) (cA : Nat → ClassId) (v1 : Int32) : fx_Mv l y_IntStack_push b_IntStack_push 2 none { frames := 0, cells := 0, slots := 0, locals := 0 } D fx_cl (fx_tys cA) fx_g fx_G (fx_ws h cA) [.ref (h 14), .int v1] (F_IntStack0_push v1) := by
  refine fx_start_v fx_G_ok (by decide) (Nat.le_of_ble_eq_true rfl) ?_
  intro p e s m args below meth c A ls σ res Q hF X hw hl hend
  have hx := X.1.1
  have hb := X.1.2.1
  have hl : lv_has ls 2 [(0, .ref (h 14)), (1, .int v1)] := hl
  unfold F_IntStack0_push at hF
  refine lv_aload_n hx hb d_IntStack_push_0 rfl (lv_at hl 0 rfl) ?_
  refine gI_IntStack0_size X hw lk_IntStack_15 d_IntStack_push_1 hF (fun x1 hF => ?_)
  refine lv_sipush (v := 200) hx hb d_IntStack_push_4 (by decide) ?_
  refine lv_icmp_ge (tgt := 30) hx hb d_IntStack_push_7 (by decide) (fun hc => ?_) (fun hc => ?_)
  · have hF := fx_it hc hF
    exact hend _ _ _ _ _ d_IntStack_push_30 hF hw
  · have hF := fx_if hc hF
    refine lv_aload_n hx hb d_IntStack_push_10 rfl (lv_at hl 0 rfl) ?_
    refine gR_IntStack0_values X hw lk_IntStack_9 d_IntStack_push_11 ?_
    refine lv_aload_n hx hb d_IntStack_push_14 rfl (lv_at hl 0 rfl) ?_
    refine gI_IntStack0_size X hw lk_IntStack_15 d_IntStack_push_15 hF (fun x2 hF => ?_)
    refine lv_iload_n hx hb d_IntStack_push_18 rfl (lv_at hl 1 rfl) ?_
    refine sA_IntStack0_values X hw d_IntStack_push_19 hF (fun σ H locs hF hw => ?_)
    refine lv_aload_n hx hb d_IntStack_push_20 rfl (lv_at hl 0 rfl) ?_
    refine lv_dup hx hb d_IntStack_push_21 rfl ?_
    refine gI_IntStack0_size X hw lk_IntStack_15 d_IntStack_push_22 hF (fun x3 hF => ?_)
    refine lv_iconst (v := 1) hx hb d_IntStack_push_25 (by decide) ?_
    refine lv_iadd hx hb d_IntStack_push_26 ?_
    refine pI_IntStack0_size X hw lk_IntStack_15 d_IntStack_push_27 hF (fun σ H locs hF hw => ?_)
    exact hend _ _ _ _ _ d_IntStack_push_30 hF hw
section
variable {p : Program} {l : Launch} {e : Env} {R : Room} {s : State} {m : MethodId} {args : Array Value} {below : List Frame} {meth : Method} {c : Code} {H : Heap} {locs : List Loc} {cells slots : Nat} {Q : State → Prop}
variable {cc : ByteArray} {pc nL ix : Nat} {ls : Array Slot} {rest : List Value} {own : String} {D : va_G} {A : Nat → Prop} {h : Nat → Nat} {cA : Nat → ClassId} {σ : fx_S} {β : Type} {res : β × fx_S}
theorem k_IntStack0_push {v1 : Int32} (X : fx_X p m c cc nL s args own D fx_cl (fx_tys cA) fx_g fx_G A) (hw : fx_B D fx_cl (fx_ws h cA) A s.heap σ H locs) (lk : Cond.methodLink own ix y_IntStack_push ∈ fx_g) (hdg : decode cc pc = .ok (.invokevirtual ix, 3)) (hsize : ls.size = nL) (hW : 2 * (F0 m pc ls (.int v1 :: .ref (h 14) :: rest)).monitorRoom + (rest.map fun v => v.category).sum ≤ 8) (hR : 0 + 1 ≤ R.frames ∧ 8 + (2 + 11) + 0 ≤ R.locals) (hf : cells ≤ R.cells ∧ slots ≤ R.slots) {k : Unit → fx_M β} (hF : fx_bnd (F_IntStack0_push v1) k σ = some res) (kk : ∀ (σ' : fx_S) (H' : Heap) (locs' : List Loc), k () σ' = some res → fx_B D fx_cl (fx_ws h cA) A s.heap σ' H' locs' → W p l e R s m args below meth c H' locs' cells slots Q (F0 m (pc + 3) ls rest)) : W p l e R s m args below meth c H locs cells slots Q (F0 m pc ls (.int v1 :: .ref (h 14) :: rest)) :=
  fx_call_v X hw (c_IntStack0_push l D h cA v1) (fx_cwV X lk hg_IntStack_push fx_gok (rm := { frames := 0, cells := 0, slots := 0, locals := 0 }) rfl rfl (by decide +kernel) hR) (va_recv X.2.1 hw.1 (ci := 5) (q0 := 14) rfl rfl) (n := 1) rfl hdg hsize rfl hW hf hF kk
end
set_option maxHeartbeats 4000000 in
set_option maxRecDepth 100000 in
theorem c_Resolver_letWait (l : Launch) (D : va_G) (h : Nat → Nat) (cA : Nat → ClassId) (v1 : Int32) : fx_Mv l y_Resolver_letWait b_Resolver_letWait 2 none { frames := 1, cells := 0, slots := 0, locals := 21 } D fx_cl (fx_tys cA) fx_g fx_G (fx_ws h cA) [.ref (h 13), .int v1] (F_Resolver_letWait v1) := by
  refine fx_start_v fx_G_ok (by decide) (Nat.le_of_ble_eq_true rfl) ?_
  intro p e s m args below meth c A ls σ res Q hF X hw hl hend
  have hx := X.1.1
  have hb := X.1.2.1
  have hl : lv_has ls 2 [(0, .ref (h 13)), (1, .int v1)] := hl
  unfold F_Resolver_letWait at hF
  refine lv_aload_n hx hb d_Resolver_letWait_0 rfl (lv_at hl 0 rfl) ?_
  refine gR_Resolver_waiting X hw lk_Resolver_12 d_Resolver_letWait_1 ?_
  refine lv_iload_n hx hb d_Resolver_letWait_4 rfl (lv_at hl 1 rfl) ?_
  refine k_IntStack0_push X hw lk_Resolver_85 d_Resolver_letWait_5 hl.1 (lv_room (Nat.le_of_ble_eq_true rfl)) ⟨Nat.le_of_ble_eq_true rfl, Nat.le_of_ble_eq_true rfl⟩ ⟨Nat.zero_le _, Nat.zero_le _⟩ hF (fun σ H locs hF hw => ?_)
  refine lv_aload_n hx hb d_Resolver_letWait_8 rfl (lv_at hl 0 rfl) ?_
  refine lv_aload_n hx hb d_Resolver_letWait_9 rfl (lv_at hl 0 rfl) ?_
  refine gI_Resolver_mostWaiting X hw lk_Resolver_48 d_Resolver_letWait_10 hF (fun x1 hF => ?_)
  refine lv_aload_n hx hb d_Resolver_letWait_13 rfl (lv_at hl 0 rfl) ?_
  refine gR_Resolver_waiting X hw lk_Resolver_12 d_Resolver_letWait_14 ?_
  refine k_IntStack0_size X hw lk_Resolver_84 d_Resolver_letWait_17 hl.1 (lv_room (Nat.le_of_ble_eq_true rfl)) ⟨Nat.le_of_ble_eq_true rfl, Nat.le_of_ble_eq_true rfl⟩ ⟨Nat.zero_le _, Nat.zero_le _⟩ hF (fun x2 σ H locs hF hw => ?_)
  refine fx_max X hl.1 fx_mxg lk_Resolver_164 d_Resolver_letWait_20 (Nat.le_of_ble_eq_true rfl) (Nat.le_of_ble_eq_true rfl) (Nat.zero_le _) (Nat.zero_le _) hF (fun x3 hF => ?_)
  refine pI_Resolver_mostWaiting X hw lk_Resolver_48 d_Resolver_letWait_23 hF (fun σ H locs hF hw => ?_)
  exact hend _ _ _ _ _ d_Resolver_letWait_26 hF hw
section
variable {p : Program} {l : Launch} {e : Env} {R : Room} {s : State} {m : MethodId} {args : Array Value} {below : List Frame} {meth : Method} {c : Code} {H : Heap} {locs : List Loc} {cells slots : Nat} {Q : State → Prop}
variable {cc : ByteArray} {pc nL ix : Nat} {ls : Array Slot} {rest : List Value} {own : String} {D : va_G} {A : Nat → Prop} {h : Nat → Nat} {cA : Nat → ClassId} {σ : fx_S} {β : Type} {res : β × fx_S}
theorem k_Resolver_letWait {v1 : Int32} (X : fx_X p m c cc nL s args own D fx_cl (fx_tys cA) fx_g fx_G A) (hw : fx_B D fx_cl (fx_ws h cA) A s.heap σ H locs) (lk : Cond.methodLink own ix y_Resolver_letWait ∈ fx_g) (hdg : decode cc pc = .ok (.invokevirtual ix, 3)) (hsize : ls.size = nL) (hW : 2 * (F0 m pc ls (.int v1 :: .ref (h 13) :: rest)).monitorRoom + (rest.map fun v => v.category).sum ≤ 8) (hR : 1 + 1 ≤ R.frames ∧ 8 + (2 + 11) + 21 ≤ R.locals) (hf : cells ≤ R.cells ∧ slots ≤ R.slots) {k : Unit → fx_M β} (hF : fx_bnd (F_Resolver_letWait v1) k σ = some res) (kk : ∀ (σ' : fx_S) (H' : Heap) (locs' : List Loc), k () σ' = some res → fx_B D fx_cl (fx_ws h cA) A s.heap σ' H' locs' → W p l e R s m args below meth c H' locs' cells slots Q (F0 m (pc + 3) ls rest)) : W p l e R s m args below meth c H locs cells slots Q (F0 m pc ls (.int v1 :: .ref (h 13) :: rest)) :=
  fx_call_v X hw (c_Resolver_letWait l D h cA v1) (fx_cwV X lk hg_Resolver_letWait fx_gok (rm := { frames := 1, cells := 0, slots := 0, locals := 21 }) rfl rfl (by decide +kernel) hR) (va_recv X.2.1 hw.1 (ci := 4) (q0 := 13) rfl rfl) (n := 1) rfl hdg hsize rfl hW hf hF kk
end
set_option maxHeartbeats 4000000 in
set_option maxRecDepth 100000 in
theorem c_IntStack0_top (l : Launch) (D : va_G) (h : Nat → Nat) (cA : Nat → ClassId) : fx_Mi l y_IntStack_top b_IntStack_top 1 (some .int) { frames := 0, cells := 0, slots := 0, locals := 0 } D fx_cl (fx_tys cA) fx_g fx_G (fx_ws h cA) [.ref (h 14)] (F_IntStack0_top) := by
  refine fx_start_i fx_G_ok (by decide) (Nat.le_of_ble_eq_true rfl) ?_
  intro p e s m args below meth c A ls σ res Q hF X hw hl hend
  have hx := X.1.1
  have hb := X.1.2.1
  have hl : lv_has ls 1 [(0, .ref (h 14))] := hl
  unfold F_IntStack0_top at hF
  refine lv_aload_n hx hb d_IntStack_top_0 rfl (lv_at hl 0 rfl) ?_
  refine gI_IntStack0_size X hw lk_IntStack_15 d_IntStack_top_1 hF (fun x1 hF => ?_)
  refine lv_if_le (tgt := 21) hx hb d_IntStack_top_4 (by decide) (fun hc => ?_) (fun hc => ?_)
  · have hF := fx_it hc hF
    refine lv_iconst (v := (-1)) hx hb d_IntStack_top_21 (by decide) ?_
    exact hend _ _ _ _ _ _ d_IntStack_top_22 hF hw
  · have hF := fx_if hc hF
    refine lv_aload_n hx hb d_IntStack_top_7 rfl (lv_at hl 0 rfl) ?_
    refine gR_IntStack0_values X hw lk_IntStack_9 d_IntStack_top_8 ?_
    refine lv_aload_n hx hb d_IntStack_top_11 rfl (lv_at hl 0 rfl) ?_
    refine gI_IntStack0_size X hw lk_IntStack_15 d_IntStack_top_12 hF (fun x2 hF => ?_)
    refine lv_iconst (v := 1) hx hb d_IntStack_top_15 (by decide) ?_
    refine lv_isub hx hb d_IntStack_top_16 ?_
    refine lA_IntStack0_values X hw d_IntStack_top_17 hF (fun x3 hF => ?_)
    refine lv_goto (tgt := 22) hx hb d_IntStack_top_18 (by decide) ?_
    exact hend _ _ _ _ _ _ d_IntStack_top_22 hF hw
section
variable {p : Program} {l : Launch} {e : Env} {R : Room} {s : State} {m : MethodId} {args : Array Value} {below : List Frame} {meth : Method} {c : Code} {H : Heap} {locs : List Loc} {cells slots : Nat} {Q : State → Prop}
variable {cc : ByteArray} {pc nL ix : Nat} {ls : Array Slot} {rest : List Value} {own : String} {D : va_G} {A : Nat → Prop} {h : Nat → Nat} {cA : Nat → ClassId} {σ : fx_S} {β : Type} {res : β × fx_S}
theorem k_IntStack0_top (X : fx_X p m c cc nL s args own D fx_cl (fx_tys cA) fx_g fx_G A) (hw : fx_B D fx_cl (fx_ws h cA) A s.heap σ H locs) (lk : Cond.methodLink own ix y_IntStack_top ∈ fx_g) (hdg : decode cc pc = .ok (.invokevirtual ix, 3)) (hsize : ls.size = nL) (hW : 2 * (F0 m pc ls (.ref (h 14) :: rest)).monitorRoom + (rest.map fun v => v.category).sum ≤ 8) (hR : 0 + 1 ≤ R.frames ∧ 8 + (1 + 11) + 0 ≤ R.locals) (hf : cells ≤ R.cells ∧ slots ≤ R.slots) {k : Int32 → fx_M β} (hF : fx_bnd (F_IntStack0_top) k σ = some res) (kk : ∀ (r : Int32) (σ' : fx_S) (H' : Heap) (locs' : List Loc), k r σ' = some res → fx_B D fx_cl (fx_ws h cA) A s.heap σ' H' locs' → W p l e R s m args below meth c H' locs' cells slots Q (F0 m (pc + 3) ls (.int r :: rest))) : W p l e R s m args below meth c H locs cells slots Q (F0 m pc ls (.ref (h 14) :: rest)) :=
  fx_call_i X hw (c_IntStack0_top l D h cA) (fx_cwV X lk hg_IntStack_top fx_gok (rm := { frames := 0, cells := 0, slots := 0, locals := 0 }) rfl rfl (by decide +kernel) hR) (va_recv X.2.1 hw.1 (ci := 5) (q0 := 14) rfl rfl) (n := 0) rfl hdg hsize rfl hW hf hF kk
end
set_option maxHeartbeats 4000000 in
set_option maxRecDepth 100000 in
theorem c_Row_operatorAt (l : Launch) (D : va_G) (h : Nat → Nat) (cA : Nat → ClassId) (v1 : Int32) : fx_Mi l y_Row_operatorAt b_Row_operatorAt 2 (some .int) { frames := 1, cells := 0, slots := 0, locals := 21 } D fx_cl (fx_tys cA) fx_g fx_G (fx_ws h cA) [.ref (h 7), .int v1] (F_Row_operatorAt v1) := by
  refine fx_start_i fx_G_ok (by decide) (Nat.le_of_ble_eq_true rfl) ?_
  intro p e s m args below meth c A ls σ res Q hF X hw hl hend
  have hx := X.1.1
  have hb := X.1.2.1
  have hl : lv_has ls 2 [(0, .ref (h 7)), (1, .int v1)] := hl
  unfold F_Row_operatorAt at hF
  refine lv_aload_n hx hb d_Row_operatorAt_0 rfl (lv_at hl 0 rfl) ?_
  refine lv_iload_n hx hb d_Row_operatorAt_1 rfl (lv_at hl 1 rfl) ?_
  refine k_Row_has X hw lk_Row_40 d_Row_operatorAt_2 hl.1 (lv_room (Nat.le_of_ble_eq_true rfl)) ⟨Nat.le_of_ble_eq_true rfl, Nat.le_of_ble_eq_true rfl⟩ ⟨Nat.zero_le _, Nat.zero_le _⟩ hF (fun x1 σ H locs hF hw => ?_)
  refine lv_if_eq (tgt := 17) hx hb d_Row_operatorAt_5 (by decide) (fun hc => ?_) (fun hc => ?_)
  · have hF := fx_it hc hF
    refine lv_iconst (v := (-1)) hx hb d_Row_operatorAt_17 (by decide) ?_
    exact hend _ _ _ _ _ _ d_Row_operatorAt_18 hF hw
  · have hF := fx_if hc hF
    refine lv_aload_n hx hb d_Row_operatorAt_8 rfl (lv_at hl 0 rfl) ?_
    refine gR_Row_operators X hw lk_Row_18 d_Row_operatorAt_9 ?_
    refine lv_iload_n hx hb d_Row_operatorAt_12 rfl (lv_at hl 1 rfl) ?_
    refine lA_Row_operators X hw d_Row_operatorAt_13 hF (fun x2 hF => ?_)
    refine lv_goto (tgt := 18) hx hb d_Row_operatorAt_14 (by decide) ?_
    exact hend _ _ _ _ _ _ d_Row_operatorAt_18 hF hw
section
variable {p : Program} {l : Launch} {e : Env} {R : Room} {s : State} {m : MethodId} {args : Array Value} {below : List Frame} {meth : Method} {c : Code} {H : Heap} {locs : List Loc} {cells slots : Nat} {Q : State → Prop}
variable {cc : ByteArray} {pc nL ix : Nat} {ls : Array Slot} {rest : List Value} {own : String} {D : va_G} {A : Nat → Prop} {h : Nat → Nat} {cA : Nat → ClassId} {σ : fx_S} {β : Type} {res : β × fx_S}
theorem k_Row_operatorAt {v1 : Int32} (X : fx_X p m c cc nL s args own D fx_cl (fx_tys cA) fx_g fx_G A) (hw : fx_B D fx_cl (fx_ws h cA) A s.heap σ H locs) (lk : Cond.methodLink own ix y_Row_operatorAt ∈ fx_g) (hdg : decode cc pc = .ok (.invokevirtual ix, 3)) (hsize : ls.size = nL) (hW : 2 * (F0 m pc ls (.int v1 :: .ref (h 7) :: rest)).monitorRoom + (rest.map fun v => v.category).sum ≤ 8) (hR : 1 + 1 ≤ R.frames ∧ 8 + (2 + 11) + 21 ≤ R.locals) (hf : cells ≤ R.cells ∧ slots ≤ R.slots) {k : Int32 → fx_M β} (hF : fx_bnd (F_Row_operatorAt v1) k σ = some res) (kk : ∀ (r : Int32) (σ' : fx_S) (H' : Heap) (locs' : List Loc), k r σ' = some res → fx_B D fx_cl (fx_ws h cA) A s.heap σ' H' locs' → W p l e R s m args below meth c H' locs' cells slots Q (F0 m (pc + 3) ls (.int r :: rest))) : W p l e R s m args below meth c H locs cells slots Q (F0 m pc ls (.int v1 :: .ref (h 7) :: rest)) :=
  fx_call_i X hw (c_Row_operatorAt l D h cA v1) (fx_cwV X lk hg_Row_operatorAt fx_gok (rm := { frames := 1, cells := 0, slots := 0, locals := 21 }) rfl rfl (by decide +kernel) hR) (va_recv X.2.1 hw.1 (ci := 3) (q0 := 7) rfl rfl) (n := 1) rfl hdg hsize rfl hW hf hF kk
end
set_option maxHeartbeats 4000000 in
set_option maxRecDepth 100000 in
theorem c_Fixities_rankOf (l : Launch) (D : va_G) (h : Nat → Nat) (cA : Nat → ClassId) (v1 : Int32) : fx_Mi l y_Fixities_rankOf b_Fixities_rankOf 2 (some .int) { frames := 1, cells := 0, slots := 0, locals := 20 } D fx_cl (fx_tys cA) fx_g fx_G (fx_ws h cA) [.ref (h 4), .int v1] (F_Fixities_rankOf v1) := by
  refine fx_start_i fx_G_ok (by decide) (Nat.le_of_ble_eq_true rfl) ?_
  intro p e s m args below meth c A ls σ res Q hF X hw hl hend
  have hx := X.1.1
  have hb := X.1.2.1
  have hl : lv_has ls 2 [(0, .ref (h 4)), (1, .int v1)] := hl
  unfold F_Fixities_rankOf at hF
  refine lv_iload_n hx hb d_Fixities_rankOf_0 rfl (lv_at hl 1 rfl) ?_
  refine kN_FixityTrees_isOperator X hw (nk_Fixities_27 X.2.2.2.2) d_Fixities_rankOf_1 hl.1 (lv_room (Nat.le_of_ble_eq_true rfl)) ⟨Nat.le_of_ble_eq_true rfl, Nat.le_of_ble_eq_true rfl⟩ ⟨Nat.zero_le _, Nat.zero_le _⟩ hF (fun x1 σ H locs hF hw => ?_)
  refine lv_if_eq (tgt := 16) hx hb d_Fixities_rankOf_4 (by decide) (fun hc => ?_) (fun hc => ?_)
  · have hF := fx_it hc hF
    refine lv_bipush (v := 9) hx hb d_Fixities_rankOf_16 (by decide) ?_
    exact hend _ _ _ _ _ _ d_Fixities_rankOf_18 hF hw
  · have hF := fx_if hc hF
    refine lv_aload_n hx hb d_Fixities_rankOf_7 rfl (lv_at hl 0 rfl) ?_
    refine gR_Fixities_ranks X hw lk_Fixities_15 d_Fixities_rankOf_8 ?_
    refine lv_iload_n hx hb d_Fixities_rankOf_11 rfl (lv_at hl 1 rfl) ?_
    refine lA_Fixities_ranks X hw d_Fixities_rankOf_12 hF (fun x2 hF => ?_)
    refine lv_goto (tgt := 18) hx hb d_Fixities_rankOf_13 (by decide) ?_
    exact hend _ _ _ _ _ _ d_Fixities_rankOf_18 hF hw
section
variable {p : Program} {l : Launch} {e : Env} {R : Room} {s : State} {m : MethodId} {args : Array Value} {below : List Frame} {meth : Method} {c : Code} {H : Heap} {locs : List Loc} {cells slots : Nat} {Q : State → Prop}
variable {cc : ByteArray} {pc nL ix : Nat} {ls : Array Slot} {rest : List Value} {own : String} {D : va_G} {A : Nat → Prop} {h : Nat → Nat} {cA : Nat → ClassId} {σ : fx_S} {β : Type} {res : β × fx_S}
theorem k_Fixities_rankOf {v1 : Int32} (X : fx_X p m c cc nL s args own D fx_cl (fx_tys cA) fx_g fx_G A) (hw : fx_B D fx_cl (fx_ws h cA) A s.heap σ H locs) (lk : Cond.methodLink own ix y_Fixities_rankOf ∈ fx_g) (hdg : decode cc pc = .ok (.invokevirtual ix, 3)) (hsize : ls.size = nL) (hW : 2 * (F0 m pc ls (.int v1 :: .ref (h 4) :: rest)).monitorRoom + (rest.map fun v => v.category).sum ≤ 8) (hR : 1 + 1 ≤ R.frames ∧ 8 + (2 + 11) + 20 ≤ R.locals) (hf : cells ≤ R.cells ∧ slots ≤ R.slots) {k : Int32 → fx_M β} (hF : fx_bnd (F_Fixities_rankOf v1) k σ = some res) (kk : ∀ (r : Int32) (σ' : fx_S) (H' : Heap) (locs' : List Loc), k r σ' = some res → fx_B D fx_cl (fx_ws h cA) A s.heap σ' H' locs' → W p l e R s m args below meth c H' locs' cells slots Q (F0 m (pc + 3) ls (.int r :: rest))) : W p l e R s m args below meth c H locs cells slots Q (F0 m pc ls (.int v1 :: .ref (h 4) :: rest)) :=
  fx_call_i X hw (c_Fixities_rankOf l D h cA v1) (fx_cwV X lk hg_Fixities_rankOf fx_gok (rm := { frames := 1, cells := 0, slots := 0, locals := 20 }) rfl rfl (by decide +kernel) hR) (va_recv X.2.1 hw.1 (ci := 2) (q0 := 4) rfl rfl) (n := 1) rfl hdg hsize rfl hW hf hF kk
end
set_option maxHeartbeats 4000000 in
set_option maxRecDepth 100000 in
theorem c_Resolver_rankAt (l : Launch) (D : va_G) (h : Nat → Nat) (cA : Nat → ClassId) (v1 : Int32) : fx_Mi l y_Resolver_rankAt b_Resolver_rankAt 2 (some .int) { frames := 2, cells := 0, slots := 0, locals := 42 } D fx_cl (fx_tys cA) fx_g fx_G (fx_ws h cA) [.ref (h 13), .int v1] (F_Resolver_rankAt v1) := by
  refine fx_start_i fx_G_ok (by decide) (Nat.le_of_ble_eq_true rfl) ?_
  intro p e s m args below meth c A ls σ res Q hF X hw hl hend
  have hx := X.1.1
  have hb := X.1.2.1
  have hl : lv_has ls 2 [(0, .ref (h 13)), (1, .int v1)] := hl
  unfold F_Resolver_rankAt at hF
  refine lv_aload_n hx hb d_Resolver_rankAt_0 rfl (lv_at hl 0 rfl) ?_
  refine gR_Resolver_fixities X hw lk_Resolver_44 d_Resolver_rankAt_1 ?_
  refine lv_aload_n hx hb d_Resolver_rankAt_4 rfl (lv_at hl 0 rfl) ?_
  refine gR_Resolver_row X hw lk_Resolver_40 d_Resolver_rankAt_5 ?_
  refine lv_iload_n hx hb d_Resolver_rankAt_8 rfl (lv_at hl 1 rfl) ?_
  refine k_Row_operatorAt X hw lk_Resolver_119 d_Resolver_rankAt_9 hl.1 (lv_room (Nat.le_of_ble_eq_true rfl)) ⟨Nat.le_of_ble_eq_true rfl, Nat.le_of_ble_eq_true rfl⟩ ⟨Nat.zero_le _, Nat.zero_le _⟩ hF (fun x1 σ H locs hF hw => ?_)
  refine k_Fixities_rankOf X hw lk_Resolver_174 d_Resolver_rankAt_12 hl.1 (lv_room (Nat.le_of_ble_eq_true rfl)) ⟨Nat.le_of_ble_eq_true rfl, Nat.le_of_ble_eq_true rfl⟩ ⟨Nat.zero_le _, Nat.zero_le _⟩ hF (fun x2 σ H locs hF hw => ?_)
  exact hend _ _ _ _ _ _ d_Resolver_rankAt_15 hF hw
section
variable {p : Program} {l : Launch} {e : Env} {R : Room} {s : State} {m : MethodId} {args : Array Value} {below : List Frame} {meth : Method} {c : Code} {H : Heap} {locs : List Loc} {cells slots : Nat} {Q : State → Prop}
variable {cc : ByteArray} {pc nL ix : Nat} {ls : Array Slot} {rest : List Value} {own : String} {D : va_G} {A : Nat → Prop} {h : Nat → Nat} {cA : Nat → ClassId} {σ : fx_S} {β : Type} {res : β × fx_S}
theorem k_Resolver_rankAt {v1 : Int32} (X : fx_X p m c cc nL s args own D fx_cl (fx_tys cA) fx_g fx_G A) (hw : fx_B D fx_cl (fx_ws h cA) A s.heap σ H locs) (lk : Cond.methodLink own ix y_Resolver_rankAt ∈ fx_g) (hdg : decode cc pc = .ok (.invokevirtual ix, 3)) (hsize : ls.size = nL) (hW : 2 * (F0 m pc ls (.int v1 :: .ref (h 13) :: rest)).monitorRoom + (rest.map fun v => v.category).sum ≤ 8) (hR : 2 + 1 ≤ R.frames ∧ 8 + (2 + 11) + 42 ≤ R.locals) (hf : cells ≤ R.cells ∧ slots ≤ R.slots) {k : Int32 → fx_M β} (hF : fx_bnd (F_Resolver_rankAt v1) k σ = some res) (kk : ∀ (r : Int32) (σ' : fx_S) (H' : Heap) (locs' : List Loc), k r σ' = some res → fx_B D fx_cl (fx_ws h cA) A s.heap σ' H' locs' → W p l e R s m args below meth c H' locs' cells slots Q (F0 m (pc + 3) ls (.int r :: rest))) : W p l e R s m args below meth c H locs cells slots Q (F0 m pc ls (.int v1 :: .ref (h 13) :: rest)) :=
  fx_call_i X hw (c_Resolver_rankAt l D h cA v1) (fx_cwV X lk hg_Resolver_rankAt fx_gok (rm := { frames := 2, cells := 0, slots := 0, locals := 42 }) rfl rfl (by decide +kernel) hR) (va_recv X.2.1 hw.1 (ci := 4) (q0 := 13) rfl rfl) (n := 1) rfl hdg hsize rfl hW hf hF kk
end
set_option maxHeartbeats 4000000 in
set_option maxRecDepth 100000 in
theorem c_Fixities_sideOf (l : Launch) (D : va_G) (h : Nat → Nat) (cA : Nat → ClassId) (v1 : Int32) : fx_Mi l y_Fixities_sideOf b_Fixities_sideOf 2 (some .int) { frames := 1, cells := 0, slots := 0, locals := 20 } D fx_cl (fx_tys cA) fx_g fx_G (fx_ws h cA) [.ref (h 4), .int v1] (F_Fixities_sideOf v1) := by
  refine fx_start_i fx_G_ok (by decide) (Nat.le_of_ble_eq_true rfl) ?_
  intro p e s m args below meth c A ls σ res Q hF X hw hl hend
  have hx := X.1.1
  have hb := X.1.2.1
  have hl : lv_has ls 2 [(0, .ref (h 4)), (1, .int v1)] := hl
  unfold F_Fixities_sideOf at hF
  refine lv_iload_n hx hb d_Fixities_sideOf_0 rfl (lv_at hl 1 rfl) ?_
  refine kN_FixityTrees_isOperator X hw (nk_Fixities_27 X.2.2.2.2) d_Fixities_sideOf_1 hl.1 (lv_room (Nat.le_of_ble_eq_true rfl)) ⟨Nat.le_of_ble_eq_true rfl, Nat.le_of_ble_eq_true rfl⟩ ⟨Nat.zero_le _, Nat.zero_le _⟩ hF (fun x1 σ H locs hF hw => ?_)
  refine lv_if_eq (tgt := 16) hx hb d_Fixities_sideOf_4 (by decide) (fun hc => ?_) (fun hc => ?_)
  · have hF := fx_it hc hF
    refine lv_iconst (v := 2) hx hb d_Fixities_sideOf_16 (by decide) ?_
    exact hend _ _ _ _ _ _ d_Fixities_sideOf_17 hF hw
  · have hF := fx_if hc hF
    refine lv_aload_n hx hb d_Fixities_sideOf_7 rfl (lv_at hl 0 rfl) ?_
    refine gR_Fixities_sides X hw lk_Fixities_9 d_Fixities_sideOf_8 ?_
    refine lv_iload_n hx hb d_Fixities_sideOf_11 rfl (lv_at hl 1 rfl) ?_
    refine lA_Fixities_sides X hw d_Fixities_sideOf_12 hF (fun x2 hF => ?_)
    refine lv_goto (tgt := 17) hx hb d_Fixities_sideOf_13 (by decide) ?_
    exact hend _ _ _ _ _ _ d_Fixities_sideOf_17 hF hw
section
variable {p : Program} {l : Launch} {e : Env} {R : Room} {s : State} {m : MethodId} {args : Array Value} {below : List Frame} {meth : Method} {c : Code} {H : Heap} {locs : List Loc} {cells slots : Nat} {Q : State → Prop}
variable {cc : ByteArray} {pc nL ix : Nat} {ls : Array Slot} {rest : List Value} {own : String} {D : va_G} {A : Nat → Prop} {h : Nat → Nat} {cA : Nat → ClassId} {σ : fx_S} {β : Type} {res : β × fx_S}
theorem k_Fixities_sideOf {v1 : Int32} (X : fx_X p m c cc nL s args own D fx_cl (fx_tys cA) fx_g fx_G A) (hw : fx_B D fx_cl (fx_ws h cA) A s.heap σ H locs) (lk : Cond.methodLink own ix y_Fixities_sideOf ∈ fx_g) (hdg : decode cc pc = .ok (.invokevirtual ix, 3)) (hsize : ls.size = nL) (hW : 2 * (F0 m pc ls (.int v1 :: .ref (h 4) :: rest)).monitorRoom + (rest.map fun v => v.category).sum ≤ 8) (hR : 1 + 1 ≤ R.frames ∧ 8 + (2 + 11) + 20 ≤ R.locals) (hf : cells ≤ R.cells ∧ slots ≤ R.slots) {k : Int32 → fx_M β} (hF : fx_bnd (F_Fixities_sideOf v1) k σ = some res) (kk : ∀ (r : Int32) (σ' : fx_S) (H' : Heap) (locs' : List Loc), k r σ' = some res → fx_B D fx_cl (fx_ws h cA) A s.heap σ' H' locs' → W p l e R s m args below meth c H' locs' cells slots Q (F0 m (pc + 3) ls (.int r :: rest))) : W p l e R s m args below meth c H locs cells slots Q (F0 m pc ls (.int v1 :: .ref (h 4) :: rest)) :=
  fx_call_i X hw (c_Fixities_sideOf l D h cA v1) (fx_cwV X lk hg_Fixities_sideOf fx_gok (rm := { frames := 1, cells := 0, slots := 0, locals := 20 }) rfl rfl (by decide +kernel) hR) (va_recv X.2.1 hw.1 (ci := 2) (q0 := 4) rfl rfl) (n := 1) rfl hdg hsize rfl hW hf hF kk
end
set_option maxHeartbeats 4000000 in
set_option maxRecDepth 100000 in
theorem c_Resolver_sideAt (l : Launch) (D : va_G) (h : Nat → Nat) (cA : Nat → ClassId) (v1 : Int32) : fx_Mi l y_Resolver_sideAt b_Resolver_sideAt 2 (some .int) { frames := 2, cells := 0, slots := 0, locals := 42 } D fx_cl (fx_tys cA) fx_g fx_G (fx_ws h cA) [.ref (h 13), .int v1] (F_Resolver_sideAt v1) := by
  refine fx_start_i fx_G_ok (by decide) (Nat.le_of_ble_eq_true rfl) ?_
  intro p e s m args below meth c A ls σ res Q hF X hw hl hend
  have hx := X.1.1
  have hb := X.1.2.1
  have hl : lv_has ls 2 [(0, .ref (h 13)), (1, .int v1)] := hl
  unfold F_Resolver_sideAt at hF
  refine lv_aload_n hx hb d_Resolver_sideAt_0 rfl (lv_at hl 0 rfl) ?_
  refine gR_Resolver_fixities X hw lk_Resolver_44 d_Resolver_sideAt_1 ?_
  refine lv_aload_n hx hb d_Resolver_sideAt_4 rfl (lv_at hl 0 rfl) ?_
  refine gR_Resolver_row X hw lk_Resolver_40 d_Resolver_sideAt_5 ?_
  refine lv_iload_n hx hb d_Resolver_sideAt_8 rfl (lv_at hl 1 rfl) ?_
  refine k_Row_operatorAt X hw lk_Resolver_119 d_Resolver_sideAt_9 hl.1 (lv_room (Nat.le_of_ble_eq_true rfl)) ⟨Nat.le_of_ble_eq_true rfl, Nat.le_of_ble_eq_true rfl⟩ ⟨Nat.zero_le _, Nat.zero_le _⟩ hF (fun x1 σ H locs hF hw => ?_)
  refine k_Fixities_sideOf X hw lk_Resolver_169 d_Resolver_sideAt_12 hl.1 (lv_room (Nat.le_of_ble_eq_true rfl)) ⟨Nat.le_of_ble_eq_true rfl, Nat.le_of_ble_eq_true rfl⟩ ⟨Nat.zero_le _, Nat.zero_le _⟩ hF (fun x2 σ H locs hF hw => ?_)
  exact hend _ _ _ _ _ _ d_Resolver_sideAt_15 hF hw
section
variable {p : Program} {l : Launch} {e : Env} {R : Room} {s : State} {m : MethodId} {args : Array Value} {below : List Frame} {meth : Method} {c : Code} {H : Heap} {locs : List Loc} {cells slots : Nat} {Q : State → Prop}
variable {cc : ByteArray} {pc nL ix : Nat} {ls : Array Slot} {rest : List Value} {own : String} {D : va_G} {A : Nat → Prop} {h : Nat → Nat} {cA : Nat → ClassId} {σ : fx_S} {β : Type} {res : β × fx_S}
theorem k_Resolver_sideAt {v1 : Int32} (X : fx_X p m c cc nL s args own D fx_cl (fx_tys cA) fx_g fx_G A) (hw : fx_B D fx_cl (fx_ws h cA) A s.heap σ H locs) (lk : Cond.methodLink own ix y_Resolver_sideAt ∈ fx_g) (hdg : decode cc pc = .ok (.invokevirtual ix, 3)) (hsize : ls.size = nL) (hW : 2 * (F0 m pc ls (.int v1 :: .ref (h 13) :: rest)).monitorRoom + (rest.map fun v => v.category).sum ≤ 8) (hR : 2 + 1 ≤ R.frames ∧ 8 + (2 + 11) + 42 ≤ R.locals) (hf : cells ≤ R.cells ∧ slots ≤ R.slots) {k : Int32 → fx_M β} (hF : fx_bnd (F_Resolver_sideAt v1) k σ = some res) (kk : ∀ (r : Int32) (σ' : fx_S) (H' : Heap) (locs' : List Loc), k r σ' = some res → fx_B D fx_cl (fx_ws h cA) A s.heap σ' H' locs' → W p l e R s m args below meth c H' locs' cells slots Q (F0 m (pc + 3) ls (.int r :: rest))) : W p l e R s m args below meth c H locs cells slots Q (F0 m pc ls (.int v1 :: .ref (h 13) :: rest)) :=
  fx_call_i X hw (c_Resolver_sideAt l D h cA v1) (fx_cwV X lk hg_Resolver_sideAt fx_gok (rm := { frames := 2, cells := 0, slots := 0, locals := 42 }) rfl rfl (by decide +kernel) hR) (va_recv X.2.1 hw.1 (ci := 4) (q0 := 13) rfl rfl) (n := 1) rfl hdg hsize rfl hW hf hF kk
end
