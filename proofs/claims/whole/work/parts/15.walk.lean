set_option maxHeartbeats 4000000 in
set_option maxRecDepth 100000 in
theorem c_Tree0_firstAt (l : Launch) (D : va_G) (h : Nat → Nat) (cA : Nat → ClassId) (v1 : Int32) : fx_Mi l y_Tree_firstAt b_Tree_firstAt 2 (some .int) { frames := 1, cells := 0, slots := 0, locals := 21 } D fx_cl (fx_tys cA) fx_g fx_G (fx_ws h cA) [.ref (h 26), .int v1] (F_Tree0_firstAt v1) := by
  refine fx_start_i fx_G_ok (by decide) (Nat.le_of_ble_eq_true rfl) ?_
  intro p e s m args below meth c A ls σ res Q hF X hw hl hend
  have hx := X.1.1
  have hb := X.1.2.1
  have hl : lv_has ls 2 [(0, .ref (h 26)), (1, .int v1)] := hl
  unfold F_Tree0_firstAt at hF
  refine lv_aload_n hx hb d_Tree_firstAt_0 rfl (lv_at hl 0 rfl) ?_
  refine lv_iload_n hx hb d_Tree_firstAt_1 rfl (lv_at hl 1 rfl) ?_
  refine k_Tree0_has X hw lk_Tree_38 d_Tree_firstAt_2 hl.1 (lv_room (Nat.le_of_ble_eq_true rfl)) ⟨Nat.le_of_ble_eq_true rfl, Nat.le_of_ble_eq_true rfl⟩ ⟨Nat.zero_le _, Nat.zero_le _⟩ hF (fun x1 σ H locs hF hw => ?_)
  refine lv_if_eq (tgt := 17) hx hb d_Tree_firstAt_5 (by decide) (fun hc => ?_) (fun hc => ?_)
  · have hF := fx_it hc hF
    refine lv_iconst (v := (-1)) hx hb d_Tree_firstAt_17 (by decide) ?_
    exact hend _ _ _ _ _ _ d_Tree_firstAt_18 hF hw
  · have hF := fx_if hc hF
    refine lv_aload_n hx hb d_Tree_firstAt_8 rfl (lv_at hl 0 rfl) ?_
    refine gR_Tree0_firsts X hw lk_Tree_18 d_Tree_firstAt_9 ?_
    refine lv_iload_n hx hb d_Tree_firstAt_12 rfl (lv_at hl 1 rfl) ?_
    refine lA_Tree0_firsts X hw d_Tree_firstAt_13 hF (fun x2 hF => ?_)
    refine lv_goto (tgt := 18) hx hb d_Tree_firstAt_14 (by decide) ?_
    exact hend _ _ _ _ _ _ d_Tree_firstAt_18 hF hw
section
variable {p : Program} {l : Launch} {e : Env} {R : Room} {s : State} {m : MethodId} {args : Array Value} {below : List Frame} {meth : Method} {c : Code} {H : Heap} {locs : List Loc} {cells slots : Nat} {Q : State → Prop}
variable {cc : ByteArray} {pc nL ix : Nat} {ls : Array Slot} {rest : List Value} {own : String} {D : va_G} {A : Nat → Prop} {h : Nat → Nat} {cA : Nat → ClassId} {σ : fx_S} {β : Type} {res : β × fx_S}
theorem k_Tree0_firstAt {v1 : Int32} (X : fx_X p m c cc nL s args own D fx_cl (fx_tys cA) fx_g fx_G A) (hw : fx_B D fx_cl (fx_ws h cA) A s.heap σ H locs) (lk : Cond.methodLink own ix y_Tree_firstAt ∈ fx_g) (hdg : decode cc pc = .ok (.invokevirtual ix, 3)) (hsize : ls.size = nL) (hW : 2 * (F0 m pc ls (.int v1 :: .ref (h 26) :: rest)).monitorRoom + (rest.map fun v => v.category).sum ≤ 8) (hR : 1 + 1 ≤ R.frames ∧ 8 + (2 + 11) + 21 ≤ R.locals) (hf : cells ≤ R.cells ∧ slots ≤ R.slots) {k : Int32 → fx_M β} (hF : fx_bnd (F_Tree0_firstAt v1) k σ = some res) (kk : ∀ (r : Int32) (σ' : fx_S) (H' : Heap) (locs' : List Loc), k r σ' = some res → fx_B D fx_cl (fx_ws h cA) A s.heap σ' H' locs' → W p l e R s m args below meth c H' locs' cells slots Q (F0 m (pc + 3) ls (.int r :: rest))) : W p l e R s m args below meth c H locs cells slots Q (F0 m pc ls (.int v1 :: .ref (h 26) :: rest)) :=
  fx_call_i X hw (c_Tree0_firstAt l D h cA v1) (fx_cwV X lk hg_Tree_firstAt fx_gok (rm := { frames := 1, cells := 0, slots := 0, locals := 21 }) rfl rfl (by decide +kernel) hR) (va_recv X.2.1 hw.1 (ci := 6) (q0 := 26) rfl rfl) (n := 1) rfl hdg hsize rfl hW hf hF kk
end
set_option maxHeartbeats 4000000 in
set_option maxRecDepth 100000 in
theorem c_Tree0_secondAt (l : Launch) (D : va_G) (h : Nat → Nat) (cA : Nat → ClassId) (v1 : Int32) : fx_Mi l y_Tree_secondAt b_Tree_secondAt 2 (some .int) { frames := 1, cells := 0, slots := 0, locals := 21 } D fx_cl (fx_tys cA) fx_g fx_G (fx_ws h cA) [.ref (h 26), .int v1] (F_Tree0_secondAt v1) := by
  refine fx_start_i fx_G_ok (by decide) (Nat.le_of_ble_eq_true rfl) ?_
  intro p e s m args below meth c A ls σ res Q hF X hw hl hend
  have hx := X.1.1
  have hb := X.1.2.1
  have hl : lv_has ls 2 [(0, .ref (h 26)), (1, .int v1)] := hl
  unfold F_Tree0_secondAt at hF
  refine lv_aload_n hx hb d_Tree_secondAt_0 rfl (lv_at hl 0 rfl) ?_
  refine lv_iload_n hx hb d_Tree_secondAt_1 rfl (lv_at hl 1 rfl) ?_
  refine k_Tree0_has X hw lk_Tree_38 d_Tree_secondAt_2 hl.1 (lv_room (Nat.le_of_ble_eq_true rfl)) ⟨Nat.le_of_ble_eq_true rfl, Nat.le_of_ble_eq_true rfl⟩ ⟨Nat.zero_le _, Nat.zero_le _⟩ hF (fun x1 σ H locs hF hw => ?_)
  refine lv_if_eq (tgt := 17) hx hb d_Tree_secondAt_5 (by decide) (fun hc => ?_) (fun hc => ?_)
  · have hF := fx_it hc hF
    refine lv_iconst (v := (-1)) hx hb d_Tree_secondAt_17 (by decide) ?_
    exact hend _ _ _ _ _ _ d_Tree_secondAt_18 hF hw
  · have hF := fx_if hc hF
    refine lv_aload_n hx hb d_Tree_secondAt_8 rfl (lv_at hl 0 rfl) ?_
    refine gR_Tree0_seconds X hw lk_Tree_21 d_Tree_secondAt_9 ?_
    refine lv_iload_n hx hb d_Tree_secondAt_12 rfl (lv_at hl 1 rfl) ?_
    refine lA_Tree0_seconds X hw d_Tree_secondAt_13 hF (fun x2 hF => ?_)
    refine lv_goto (tgt := 18) hx hb d_Tree_secondAt_14 (by decide) ?_
    exact hend _ _ _ _ _ _ d_Tree_secondAt_18 hF hw
section
variable {p : Program} {l : Launch} {e : Env} {R : Room} {s : State} {m : MethodId} {args : Array Value} {below : List Frame} {meth : Method} {c : Code} {H : Heap} {locs : List Loc} {cells slots : Nat} {Q : State → Prop}
variable {cc : ByteArray} {pc nL ix : Nat} {ls : Array Slot} {rest : List Value} {own : String} {D : va_G} {A : Nat → Prop} {h : Nat → Nat} {cA : Nat → ClassId} {σ : fx_S} {β : Type} {res : β × fx_S}
theorem k_Tree0_secondAt {v1 : Int32} (X : fx_X p m c cc nL s args own D fx_cl (fx_tys cA) fx_g fx_G A) (hw : fx_B D fx_cl (fx_ws h cA) A s.heap σ H locs) (lk : Cond.methodLink own ix y_Tree_secondAt ∈ fx_g) (hdg : decode cc pc = .ok (.invokevirtual ix, 3)) (hsize : ls.size = nL) (hW : 2 * (F0 m pc ls (.int v1 :: .ref (h 26) :: rest)).monitorRoom + (rest.map fun v => v.category).sum ≤ 8) (hR : 1 + 1 ≤ R.frames ∧ 8 + (2 + 11) + 21 ≤ R.locals) (hf : cells ≤ R.cells ∧ slots ≤ R.slots) {k : Int32 → fx_M β} (hF : fx_bnd (F_Tree0_secondAt v1) k σ = some res) (kk : ∀ (r : Int32) (σ' : fx_S) (H' : Heap) (locs' : List Loc), k r σ' = some res → fx_B D fx_cl (fx_ws h cA) A s.heap σ' H' locs' → W p l e R s m args below meth c H' locs' cells slots Q (F0 m (pc + 3) ls (.int r :: rest))) : W p l e R s m args below meth c H locs cells slots Q (F0 m pc ls (.int v1 :: .ref (h 26) :: rest)) :=
  fx_call_i X hw (c_Tree0_secondAt l D h cA v1) (fx_cwV X lk hg_Tree_secondAt fx_gok (rm := { frames := 1, cells := 0, slots := 0, locals := 21 }) rfl rfl (by decide +kernel) hR) (va_recv X.2.1 hw.1 (ci := 6) (q0 := 26) rfl rfl) (n := 1) rfl hdg hsize rfl hW hf hF kk
end
set_option maxHeartbeats 4000000 in
set_option maxRecDepth 100000 in
theorem c_Tree0_placeAt (l : Launch) (D : va_G) (h : Nat → Nat) (cA : Nat → ClassId) (v1 : Int32) : fx_Mi l y_Tree_placeAt b_Tree_placeAt 2 (some .int) { frames := 1, cells := 0, slots := 0, locals := 21 } D fx_cl (fx_tys cA) fx_g fx_G (fx_ws h cA) [.ref (h 26), .int v1] (F_Tree0_placeAt v1) := by
  refine fx_start_i fx_G_ok (by decide) (Nat.le_of_ble_eq_true rfl) ?_
  intro p e s m args below meth c A ls σ res Q hF X hw hl hend
  have hx := X.1.1
  have hb := X.1.2.1
  have hl : lv_has ls 2 [(0, .ref (h 26)), (1, .int v1)] := hl
  unfold F_Tree0_placeAt at hF
  refine lv_aload_n hx hb d_Tree_placeAt_0 rfl (lv_at hl 0 rfl) ?_
  refine lv_iload_n hx hb d_Tree_placeAt_1 rfl (lv_at hl 1 rfl) ?_
  refine k_Tree0_has X hw lk_Tree_38 d_Tree_placeAt_2 hl.1 (lv_room (Nat.le_of_ble_eq_true rfl)) ⟨Nat.le_of_ble_eq_true rfl, Nat.le_of_ble_eq_true rfl⟩ ⟨Nat.zero_le _, Nat.zero_le _⟩ hF (fun x1 σ H locs hF hw => ?_)
  refine lv_if_eq (tgt := 17) hx hb d_Tree_placeAt_5 (by decide) (fun hc => ?_) (fun hc => ?_)
  · have hF := fx_it hc hF
    refine lv_iconst (v := (-1)) hx hb d_Tree_placeAt_17 (by decide) ?_
    exact hend _ _ _ _ _ _ d_Tree_placeAt_18 hF hw
  · have hF := fx_if hc hF
    refine lv_aload_n hx hb d_Tree_placeAt_8 rfl (lv_at hl 0 rfl) ?_
    refine gR_Tree0_places X hw lk_Tree_24 d_Tree_placeAt_9 ?_
    refine lv_iload_n hx hb d_Tree_placeAt_12 rfl (lv_at hl 1 rfl) ?_
    refine lA_Tree0_places X hw d_Tree_placeAt_13 hF (fun x2 hF => ?_)
    refine lv_goto (tgt := 18) hx hb d_Tree_placeAt_14 (by decide) ?_
    exact hend _ _ _ _ _ _ d_Tree_placeAt_18 hF hw
section
variable {p : Program} {l : Launch} {e : Env} {R : Room} {s : State} {m : MethodId} {args : Array Value} {below : List Frame} {meth : Method} {c : Code} {H : Heap} {locs : List Loc} {cells slots : Nat} {Q : State → Prop}
variable {cc : ByteArray} {pc nL ix : Nat} {ls : Array Slot} {rest : List Value} {own : String} {D : va_G} {A : Nat → Prop} {h : Nat → Nat} {cA : Nat → ClassId} {σ : fx_S} {β : Type} {res : β × fx_S}
theorem k_Tree0_placeAt {v1 : Int32} (X : fx_X p m c cc nL s args own D fx_cl (fx_tys cA) fx_g fx_G A) (hw : fx_B D fx_cl (fx_ws h cA) A s.heap σ H locs) (lk : Cond.methodLink own ix y_Tree_placeAt ∈ fx_g) (hdg : decode cc pc = .ok (.invokevirtual ix, 3)) (hsize : ls.size = nL) (hW : 2 * (F0 m pc ls (.int v1 :: .ref (h 26) :: rest)).monitorRoom + (rest.map fun v => v.category).sum ≤ 8) (hR : 1 + 1 ≤ R.frames ∧ 8 + (2 + 11) + 21 ≤ R.locals) (hf : cells ≤ R.cells ∧ slots ≤ R.slots) {k : Int32 → fx_M β} (hF : fx_bnd (F_Tree0_placeAt v1) k σ = some res) (kk : ∀ (r : Int32) (σ' : fx_S) (H' : Heap) (locs' : List Loc), k r σ' = some res → fx_B D fx_cl (fx_ws h cA) A s.heap σ' H' locs' → W p l e R s m args below meth c H' locs' cells slots Q (F0 m (pc + 3) ls (.int r :: rest))) : W p l e R s m args below meth c H locs cells slots Q (F0 m pc ls (.int v1 :: .ref (h 26) :: rest)) :=
  fx_call_i X hw (c_Tree0_placeAt l D h cA v1) (fx_cwV X lk hg_Tree_placeAt fx_gok (rm := { frames := 1, cells := 0, slots := 0, locals := 21 }) rfl rfl (by decide +kernel) hR) (va_recv X.2.1 hw.1 (ci := 6) (q0 := 26) rfl rfl) (n := 1) rfl hdg hsize rfl hW hf hF kk
end
set_option maxHeartbeats 4000000 in
set_option maxRecDepth 100000 in
theorem c_Tree0_numberAt (l : Launch) (D : va_G) (h : Nat → Nat) (cA : Nat → ClassId) (v1 : Int32) : fx_Ml l y_Tree_numberAt b_Tree_numberAt 2 (some .long) { frames := 1, cells := 0, slots := 0, locals := 21 } D fx_cl (fx_tys cA) fx_g fx_G (fx_ws h cA) [.ref (h 26), .int v1] (F_Tree0_numberAt v1) := by
  refine fx_start_l fx_G_ok (by decide) (Nat.le_of_ble_eq_true rfl) ?_
  intro p e s m args below meth c A ls σ res Q hF X hw hl hend
  have hx := X.1.1
  have hb := X.1.2.1
  have hl : lv_has ls 2 [(0, .ref (h 26)), (1, .int v1)] := hl
  unfold F_Tree0_numberAt at hF
  refine lv_aload_n hx hb d_Tree_numberAt_0 rfl (lv_at hl 0 rfl) ?_
  refine lv_iload_n hx hb d_Tree_numberAt_1 rfl (lv_at hl 1 rfl) ?_
  refine k_Tree0_has X hw lk_Tree_38 d_Tree_numberAt_2 hl.1 (lv_room (Nat.le_of_ble_eq_true rfl)) ⟨Nat.le_of_ble_eq_true rfl, Nat.le_of_ble_eq_true rfl⟩ ⟨Nat.zero_le _, Nat.zero_le _⟩ hF (fun x1 σ H locs hF hw => ?_)
  refine lv_if_eq (tgt := 17) hx hb d_Tree_numberAt_5 (by decide) (fun hc => ?_) (fun hc => ?_)
  · have hF := fx_it hc hF
    refine lv_lconst (v := 0) hx hb d_Tree_numberAt_17 (by decide) ?_
    exact hend _ _ _ _ _ _ d_Tree_numberAt_18 hF hw
  · have hF := fx_if hc hF
    refine lv_aload_n hx hb d_Tree_numberAt_8 rfl (lv_at hl 0 rfl) ?_
    refine gR_Tree0_numbers X hw lk_Tree_27 d_Tree_numberAt_9 ?_
    refine lv_iload_n hx hb d_Tree_numberAt_12 rfl (lv_at hl 1 rfl) ?_
    refine lA_Tree0_numbers X hw d_Tree_numberAt_13 hF (fun x2 hF => ?_)
    refine lv_goto (tgt := 18) hx hb d_Tree_numberAt_14 (by decide) ?_
    exact hend _ _ _ _ _ _ d_Tree_numberAt_18 hF hw
section
variable {p : Program} {l : Launch} {e : Env} {R : Room} {s : State} {m : MethodId} {args : Array Value} {below : List Frame} {meth : Method} {c : Code} {H : Heap} {locs : List Loc} {cells slots : Nat} {Q : State → Prop}
variable {cc : ByteArray} {pc nL ix : Nat} {ls : Array Slot} {rest : List Value} {own : String} {D : va_G} {A : Nat → Prop} {h : Nat → Nat} {cA : Nat → ClassId} {σ : fx_S} {β : Type} {res : β × fx_S}
theorem k_Tree0_numberAt {v1 : Int32} (X : fx_X p m c cc nL s args own D fx_cl (fx_tys cA) fx_g fx_G A) (hw : fx_B D fx_cl (fx_ws h cA) A s.heap σ H locs) (lk : Cond.methodLink own ix y_Tree_numberAt ∈ fx_g) (hdg : decode cc pc = .ok (.invokevirtual ix, 3)) (hsize : ls.size = nL) (hW : 2 * (F0 m pc ls (.int v1 :: .ref (h 26) :: rest)).monitorRoom + (rest.map fun v => v.category).sum ≤ 8) (hR : 1 + 1 ≤ R.frames ∧ 8 + (2 + 11) + 21 ≤ R.locals) (hf : cells ≤ R.cells ∧ slots ≤ R.slots) {k : Int64 → fx_M β} (hF : fx_bnd (F_Tree0_numberAt v1) k σ = some res) (kk : ∀ (r : Int64) (σ' : fx_S) (H' : Heap) (locs' : List Loc), k r σ' = some res → fx_B D fx_cl (fx_ws h cA) A s.heap σ' H' locs' → W p l e R s m args below meth c H' locs' cells slots Q (F0 m (pc + 3) ls (.long r :: rest))) : W p l e R s m args below meth c H locs cells slots Q (F0 m pc ls (.int v1 :: .ref (h 26) :: rest)) :=
  fx_call_l X hw (c_Tree0_numberAt l D h cA v1) (fx_cwV X lk hg_Tree_numberAt fx_gok (rm := { frames := 1, cells := 0, slots := 0, locals := 21 }) rfl rfl (by decide +kernel) hR) (va_recv X.2.1 hw.1 (ci := 6) (q0 := 26) rfl rfl) (n := 1) rfl hdg hsize rfl hW hf hF kk
end
set_option maxHeartbeats 4000000 in
set_option maxRecDepth 100000 in
theorem c_Written_isNode (l : Launch) (D : va_G) (h : Nat → Nat) (cA : Nat → ClassId) (v0 : Int32) : fx_Mi l y_Written_isNode b_Written_isNode 1 (some .boolean) { frames := 0, cells := 0, slots := 0, locals := 0 } D fx_cl (fx_tys cA) fx_g fx_G (fx_ws h cA) [.int v0] (F_Written_isNode v0) := by
  refine fx_start_z fx_G_ok (by decide) (Nat.le_of_ble_eq_true rfl) ?_
  intro p e s m args below meth c A ls σ res Q hF X hw hl hend
  have hx := X.1.1
  have hb := X.1.2.1
  have hl : lv_has ls 1 [(0, .int v0)] := hl
  unfold F_Written_isNode at hF
  refine lv_iload_n hx hb d_Written_isNode_0 rfl (lv_at hl 0 rfl) ?_
  refine lv_if_lt (tgt := 15) hx hb d_Written_isNode_1 (by decide) (fun hc => ?_) (fun hc => ?_)
  · have hF := fx_it hc hF
    refine lv_iconst (v := 0) hx hb d_Written_isNode_15 (by decide) ?_
    exact hend _ _ _ _ _ _ d_Written_isNode_16 hF hw
  · have hF := fx_if hc hF
    refine lv_iload_n hx hb d_Written_isNode_4 rfl (lv_at hl 0 rfl) ?_
    refine lv_sipush (v := 200) hx hb d_Written_isNode_5 (by decide) ?_
    refine lv_icmp_ge (tgt := 15) hx hb d_Written_isNode_8 (by decide) (fun hc => ?_) (fun hc => ?_)
    · have hF := fx_it hc hF
      refine lv_iconst (v := 0) hx hb d_Written_isNode_15 (by decide) ?_
      exact hend _ _ _ _ _ _ d_Written_isNode_16 hF hw
    · have hF := fx_if hc hF
      refine lv_iconst (v := 1) hx hb d_Written_isNode_11 (by decide) ?_
      refine lv_goto (tgt := 16) hx hb d_Written_isNode_12 (by decide) ?_
      exact hend _ _ _ _ _ _ d_Written_isNode_16 hF hw
section
variable {p : Program} {l : Launch} {e : Env} {R : Room} {s : State} {m : MethodId} {args : Array Value} {below : List Frame} {meth : Method} {c : Code} {H : Heap} {locs : List Loc} {cells slots : Nat} {Q : State → Prop}
variable {cc : ByteArray} {pc nL ix : Nat} {ls : Array Slot} {rest : List Value} {own : String} {D : va_G} {A : Nat → Prop} {h : Nat → Nat} {cA : Nat → ClassId} {σ : fx_S} {β : Type} {res : β × fx_S}
theorem kN_Written_isNode {v0 : Int32} (X : fx_X p m c cc nL s args own D fx_cl (fx_tys cA) fx_g fx_G A) (hw : fx_B D fx_cl (fx_ws h cA) A s.heap σ H locs) {host : String} (lk : va_Nw (.methodLinkNest own ix y_Written_isNode host) s) (hdg : decode cc pc = .ok (.invokestatic ix, 3)) (hsize : ls.size = nL) (hW : 2 * (F0 m pc ls (.int v0 :: rest)).monitorRoom + (rest.map fun v => v.category).sum ≤ 8) (hR : 0 + 1 ≤ R.frames ∧ 8 + (1 + 11) + 0 ≤ R.locals) (hf : cells ≤ R.cells ∧ slots ≤ R.slots) {k : Int32 → fx_M β} (hF : fx_bnd (F_Written_isNode v0) k σ = some res) (kk : ∀ (r : Int32) (σ' : fx_S) (H' : Heap) (locs' : List Loc), k r σ' = some res → fx_B D fx_cl (fx_ws h cA) A s.heap σ' H' locs' → W p l e R s m args below meth c H' locs' cells slots Q (F0 m (pc + 3) ls (.int r :: rest))) : W p l e R s m args below meth c H locs cells slots Q (F0 m pc ls (.int v0 :: rest)) :=
  fx_callN_i X hw (c_Written_isNode l D h cA v0) (fx_cwN X lk hg_Written_isNode fx_gok (rm := { frames := 0, cells := 0, slots := 0, locals := 0 }) rfl rfl (by decide +kernel) hR) (n := 1) rfl hdg hsize rfl hW hf hF kk
theorem k_Written_isNode {v0 : Int32} (X : fx_X p m c cc nL s args own D fx_cl (fx_tys cA) fx_g fx_G A) (hw : fx_B D fx_cl (fx_ws h cA) A s.heap σ H locs) (lk : Cond.methodLink own ix y_Written_isNode ∈ fx_g) (hdg : decode cc pc = .ok (.invokestatic ix, 3)) (hsize : ls.size = nL) (hW : 2 * (F0 m pc ls (.int v0 :: rest)).monitorRoom + (rest.map fun v => v.category).sum ≤ 8) (hR : 0 + 1 ≤ R.frames ∧ 8 + (1 + 11) + 0 ≤ R.locals) (hf : cells ≤ R.cells ∧ slots ≤ R.slots) {k : Int32 → fx_M β} (hF : fx_bnd (F_Written_isNode v0) k σ = some res) (kk : ∀ (r : Int32) (σ' : fx_S) (H' : Heap) (locs' : List Loc), k r σ' = some res → fx_B D fx_cl (fx_ws h cA) A s.heap σ' H' locs' → W p l e R s m args below meth c H' locs' cells slots Q (F0 m (pc + 3) ls (.int r :: rest))) : W p l e R s m args below meth c H locs cells slots Q (F0 m pc ls (.int v0 :: rest)) :=
  fx_calls_i X hw (c_Written_isNode l D h cA v0) (fx_cwS X lk hg_Written_isNode fx_gok (rm := { frames := 0, cells := 0, slots := 0, locals := 0 }) rfl rfl (by decide +kernel) hR) (n := 1) rfl hdg hsize rfl hW hf hF kk
end
set_option maxHeartbeats 4000000 in
set_option maxRecDepth 100000 in
theorem c_Written_widthOf (l : Launch) (D : va_G) (h : Nat → Nat) (cA : Nat → ClassId) (v1 : Int32) : fx_Mi l y_Written_widthOf b_Written_widthOf 2 (some .int) { frames := 1, cells := 0, slots := 0, locals := 20 } D fx_cl (fx_tys cA) fx_g fx_G (fx_ws h cA) [.ref (h 40), .int v1] (F_Written_widthOf v1) := by
  refine fx_start_i fx_G_ok (by decide) (Nat.le_of_ble_eq_true rfl) ?_
  intro p e s m args below meth c A ls σ res Q hF X hw hl hend
  have hx := X.1.1
  have hb := X.1.2.1
  have hl : lv_has ls 2 [(0, .ref (h 40)), (1, .int v1)] := hl
  unfold F_Written_widthOf at hF
  refine lv_iload_n hx hb d_Written_widthOf_0 rfl (lv_at hl 1 rfl) ?_
  refine k_Written_isNode X hw lk_Written_115 d_Written_widthOf_1 hl.1 (lv_room (Nat.le_of_ble_eq_true rfl)) ⟨Nat.le_of_ble_eq_true rfl, Nat.le_of_ble_eq_true rfl⟩ ⟨Nat.zero_le _, Nat.zero_le _⟩ hF (fun x1 σ H locs hF hw => ?_)
  refine lv_if_eq (tgt := 16) hx hb d_Written_widthOf_4 (by decide) (fun hc => ?_) (fun hc => ?_)
  · have hF := fx_it hc hF
    refine lv_iconst (v := 0) hx hb d_Written_widthOf_16 (by decide) ?_
    exact hend _ _ _ _ _ _ d_Written_widthOf_17 hF hw
  · have hF := fx_if hc hF
    refine lv_aload_n hx hb d_Written_widthOf_7 rfl (lv_at hl 0 rfl) ?_
    refine gR_Written_widths X hw lk_Written_29 d_Written_widthOf_8 ?_
    refine lv_iload_n hx hb d_Written_widthOf_11 rfl (lv_at hl 1 rfl) ?_
    refine lA_Written_widths X hw d_Written_widthOf_12 hF (fun x2 hF => ?_)
    refine lv_goto (tgt := 17) hx hb d_Written_widthOf_13 (by decide) ?_
    exact hend _ _ _ _ _ _ d_Written_widthOf_17 hF hw
section
variable {p : Program} {l : Launch} {e : Env} {R : Room} {s : State} {m : MethodId} {args : Array Value} {below : List Frame} {meth : Method} {c : Code} {H : Heap} {locs : List Loc} {cells slots : Nat} {Q : State → Prop}
variable {cc : ByteArray} {pc nL ix : Nat} {ls : Array Slot} {rest : List Value} {own : String} {D : va_G} {A : Nat → Prop} {h : Nat → Nat} {cA : Nat → ClassId} {σ : fx_S} {β : Type} {res : β × fx_S}
theorem k_Written_widthOf {v1 : Int32} (X : fx_X p m c cc nL s args own D fx_cl (fx_tys cA) fx_g fx_G A) (hw : fx_B D fx_cl (fx_ws h cA) A s.heap σ H locs) (lk : Cond.methodLink own ix y_Written_widthOf ∈ fx_g) (hdg : decode cc pc = .ok (.invokevirtual ix, 3)) (hsize : ls.size = nL) (hW : 2 * (F0 m pc ls (.int v1 :: .ref (h 40) :: rest)).monitorRoom + (rest.map fun v => v.category).sum ≤ 8) (hR : 1 + 1 ≤ R.frames ∧ 8 + (2 + 11) + 20 ≤ R.locals) (hf : cells ≤ R.cells ∧ slots ≤ R.slots) {k : Int32 → fx_M β} (hF : fx_bnd (F_Written_widthOf v1) k σ = some res) (kk : ∀ (r : Int32) (σ' : fx_S) (H' : Heap) (locs' : List Loc), k r σ' = some res → fx_B D fx_cl (fx_ws h cA) A s.heap σ' H' locs' → W p l e R s m args below meth c H' locs' cells slots Q (F0 m (pc + 3) ls (.int r :: rest))) : W p l e R s m args below meth c H locs cells slots Q (F0 m pc ls (.int v1 :: .ref (h 40) :: rest)) :=
  fx_call_i X hw (c_Written_widthOf l D h cA v1) (fx_cwV X lk hg_Written_widthOf fx_gok (rm := { frames := 1, cells := 0, slots := 0, locals := 20 }) rfl rfl (by decide +kernel) hR) (va_recv X.2.1 hw.1 (ci := 7) (q0 := 40) rfl rfl) (n := 1) rfl hdg hsize rfl hW hf hF kk
end
set_option maxHeartbeats 4000000 in
set_option maxRecDepth 100000 in
theorem c_Written_setStart (l : Launch) (D : va_G) (h : Nat → Nat) (cA : Nat → ClassId) (v1 : Int32) (v2 : Int32) : fx_Mv l y_Written_setStart b_Written_setStart 3 none { frames := 1, cells := 0, slots := 0, locals := 20 } D fx_cl (fx_tys cA) fx_g fx_G (fx_ws h cA) [.ref (h 40), .int v1, .int v2] (F_Written_setStart v1 v2) := by
  refine fx_start_v fx_G_ok (by decide) (Nat.le_of_ble_eq_true rfl) ?_
  intro p e s m args below meth c A ls σ res Q hF X hw hl hend
  have hx := X.1.1
  have hb := X.1.2.1
  have hl : lv_has ls 3 [(0, .ref (h 40)), (1, .int v1), (2, .int v2)] := hl
  unfold F_Written_setStart at hF
  refine lv_iload_n hx hb d_Written_setStart_0 rfl (lv_at hl 1 rfl) ?_
  refine k_Written_isNode X hw lk_Written_115 d_Written_setStart_1 hl.1 (lv_room (Nat.le_of_ble_eq_true rfl)) ⟨Nat.le_of_ble_eq_true rfl, Nat.le_of_ble_eq_true rfl⟩ ⟨Nat.zero_le _, Nat.zero_le _⟩ hF (fun x1 σ H locs hF hw => ?_)
  refine lv_if_eq (tgt := 14) hx hb d_Written_setStart_4 (by decide) (fun hc => ?_) (fun hc => ?_)
  · have hF := fx_it hc hF
    exact hend _ _ _ _ _ d_Written_setStart_14 hF hw
  · have hF := fx_if hc hF
    refine lv_aload_n hx hb d_Written_setStart_7 rfl (lv_at hl 0 rfl) ?_
    refine gR_Written_starts X hw lk_Written_32 d_Written_setStart_8 ?_
    refine lv_iload_n hx hb d_Written_setStart_11 rfl (lv_at hl 1 rfl) ?_
    refine lv_iload_n hx hb d_Written_setStart_12 rfl (lv_at hl 2 rfl) ?_
    refine sA_Written_starts X hw d_Written_setStart_13 hF (fun σ H locs hF hw => ?_)
    exact hend _ _ _ _ _ d_Written_setStart_14 hF hw
section
variable {p : Program} {l : Launch} {e : Env} {R : Room} {s : State} {m : MethodId} {args : Array Value} {below : List Frame} {meth : Method} {c : Code} {H : Heap} {locs : List Loc} {cells slots : Nat} {Q : State → Prop}
variable {cc : ByteArray} {pc nL ix : Nat} {ls : Array Slot} {rest : List Value} {own : String} {D : va_G} {A : Nat → Prop} {h : Nat → Nat} {cA : Nat → ClassId} {σ : fx_S} {β : Type} {res : β × fx_S}
theorem k_Written_setStart {v1 : Int32} {v2 : Int32} (X : fx_X p m c cc nL s args own D fx_cl (fx_tys cA) fx_g fx_G A) (hw : fx_B D fx_cl (fx_ws h cA) A s.heap σ H locs) (lk : Cond.methodLink own ix y_Written_setStart ∈ fx_g) (hdg : decode cc pc = .ok (.invokevirtual ix, 3)) (hsize : ls.size = nL) (hW : 2 * (F0 m pc ls (.int v2 :: .int v1 :: .ref (h 40) :: rest)).monitorRoom + (rest.map fun v => v.category).sum ≤ 8) (hR : 1 + 1 ≤ R.frames ∧ 8 + (3 + 11) + 20 ≤ R.locals) (hf : cells ≤ R.cells ∧ slots ≤ R.slots) {k : Unit → fx_M β} (hF : fx_bnd (F_Written_setStart v1 v2) k σ = some res) (kk : ∀ (σ' : fx_S) (H' : Heap) (locs' : List Loc), k () σ' = some res → fx_B D fx_cl (fx_ws h cA) A s.heap σ' H' locs' → W p l e R s m args below meth c H' locs' cells slots Q (F0 m (pc + 3) ls rest)) : W p l e R s m args below meth c H locs cells slots Q (F0 m pc ls (.int v2 :: .int v1 :: .ref (h 40) :: rest)) :=
  fx_call_v X hw (c_Written_setStart l D h cA v1 v2) (fx_cwV X lk hg_Written_setStart fx_gok (rm := { frames := 1, cells := 0, slots := 0, locals := 20 }) rfl rfl (by decide +kernel) hR) (va_recv X.2.1 hw.1 (ci := 7) (q0 := 40) rfl rfl) (n := 2) rfl hdg hsize rfl hW hf hF kk
end
set_option maxHeartbeats 4000000 in
set_option maxRecDepth 100000 in
theorem c_Written_has (l : Launch) (D : va_G) (h : Nat → Nat) (cA : Nat → ClassId) (v1 : Int32) : fx_Mi l y_Written_has b_Written_has 2 (some .boolean) { frames := 0, cells := 0, slots := 0, locals := 0 } D fx_cl (fx_tys cA) fx_g fx_G (fx_ws h cA) [.ref (h 40), .int v1] (F_Written_has v1) := by
  refine fx_start_z fx_G_ok (by decide) (Nat.le_of_ble_eq_true rfl) ?_
  intro p e s m args below meth c A ls σ res Q hF X hw hl hend
  have hx := X.1.1
  have hb := X.1.2.1
  have hl : lv_has ls 2 [(0, .ref (h 40)), (1, .int v1)] := hl
  unfold F_Written_has at hF
  refine lv_iload_n hx hb d_Written_has_0 rfl (lv_at hl 1 rfl) ?_
  refine lv_if_lt (tgt := 23) hx hb d_Written_has_1 (by decide) (fun hc => ?_) (fun hc => ?_)
  · have hF := fx_it hc hF
    refine lv_iconst (v := 0) hx hb d_Written_has_23 (by decide) ?_
    exact hend _ _ _ _ _ _ d_Written_has_24 hF hw
  · have hF := fx_if hc hF
    refine lv_iload_n hx hb d_Written_has_4 rfl (lv_at hl 1 rfl) ?_
    refine lv_aload_n hx hb d_Written_has_5 rfl (lv_at hl 0 rfl) ?_
    refine gI_Written_size X hw lk_Written_43 d_Written_has_6 hF (fun x1 hF => ?_)
    refine lv_icmp_ge (tgt := 23) hx hb d_Written_has_9 (by decide) (fun hc => ?_) (fun hc => ?_)
    · have hF := fx_it hc hF
      refine lv_iconst (v := 0) hx hb d_Written_has_23 (by decide) ?_
      exact hend _ _ _ _ _ _ d_Written_has_24 hF hw
    · have hF := fx_if hc hF
      refine lv_iload_n hx hb d_Written_has_12 rfl (lv_at hl 1 rfl) ?_
      refine lv_sipush (v := 600) hx hb d_Written_has_13 (by decide) ?_
      refine lv_icmp_ge (tgt := 23) hx hb d_Written_has_16 (by decide) (fun hc => ?_) (fun hc => ?_)
      · have hF := fx_it hc hF
        refine lv_iconst (v := 0) hx hb d_Written_has_23 (by decide) ?_
        exact hend _ _ _ _ _ _ d_Written_has_24 hF hw
      · have hF := fx_if hc hF
        refine lv_iconst (v := 1) hx hb d_Written_has_19 (by decide) ?_
        refine lv_goto (tgt := 24) hx hb d_Written_has_20 (by decide) ?_
        exact hend _ _ _ _ _ _ d_Written_has_24 hF hw
section
variable {p : Program} {l : Launch} {e : Env} {R : Room} {s : State} {m : MethodId} {args : Array Value} {below : List Frame} {meth : Method} {c : Code} {H : Heap} {locs : List Loc} {cells slots : Nat} {Q : State → Prop}
variable {cc : ByteArray} {pc nL ix : Nat} {ls : Array Slot} {rest : List Value} {own : String} {D : va_G} {A : Nat → Prop} {h : Nat → Nat} {cA : Nat → ClassId} {σ : fx_S} {β : Type} {res : β × fx_S}
theorem k_Written_has {v1 : Int32} (X : fx_X p m c cc nL s args own D fx_cl (fx_tys cA) fx_g fx_G A) (hw : fx_B D fx_cl (fx_ws h cA) A s.heap σ H locs) (lk : Cond.methodLink own ix y_Written_has ∈ fx_g) (hdg : decode cc pc = .ok (.invokevirtual ix, 3)) (hsize : ls.size = nL) (hW : 2 * (F0 m pc ls (.int v1 :: .ref (h 40) :: rest)).monitorRoom + (rest.map fun v => v.category).sum ≤ 8) (hR : 0 + 1 ≤ R.frames ∧ 8 + (2 + 11) + 0 ≤ R.locals) (hf : cells ≤ R.cells ∧ slots ≤ R.slots) {k : Int32 → fx_M β} (hF : fx_bnd (F_Written_has v1) k σ = some res) (kk : ∀ (r : Int32) (σ' : fx_S) (H' : Heap) (locs' : List Loc), k r σ' = some res → fx_B D fx_cl (fx_ws h cA) A s.heap σ' H' locs' → W p l e R s m args below meth c H' locs' cells slots Q (F0 m (pc + 3) ls (.int r :: rest))) : W p l e R s m args below meth c H locs cells slots Q (F0 m pc ls (.int v1 :: .ref (h 40) :: rest)) :=
  fx_call_i X hw (c_Written_has l D h cA v1) (fx_cwV X lk hg_Written_has fx_gok (rm := { frames := 0, cells := 0, slots := 0, locals := 0 }) rfl rfl (by decide +kernel) hR) (va_recv X.2.1 hw.1 (ci := 7) (q0 := 40) rfl rfl) (n := 1) rfl hdg hsize rfl hW hf hF kk
end
set_option maxHeartbeats 4000000 in
set_option maxRecDepth 100000 in
theorem c_Written_kindAt (l : Launch) (D : va_G) (h : Nat → Nat) (cA : Nat → ClassId) (v1 : Int32) : fx_Mi l y_Written_kindAt b_Written_kindAt 2 (some .int) { frames := 1, cells := 0, slots := 0, locals := 21 } D fx_cl (fx_tys cA) fx_g fx_G (fx_ws h cA) [.ref (h 40), .int v1] (F_Written_kindAt v1) := by
  refine fx_start_i fx_G_ok (by decide) (Nat.le_of_ble_eq_true rfl) ?_
  intro p e s m args below meth c A ls σ res Q hF X hw hl hend
  have hx := X.1.1
  have hb := X.1.2.1
  have hl : lv_has ls 2 [(0, .ref (h 40)), (1, .int v1)] := hl
  unfold F_Written_kindAt at hF
  refine lv_aload_n hx hb d_Written_kindAt_0 rfl (lv_at hl 0 rfl) ?_
  refine lv_iload_n hx hb d_Written_kindAt_1 rfl (lv_at hl 1 rfl) ?_
  refine k_Written_has X hw lk_Written_50 d_Written_kindAt_2 hl.1 (lv_room (Nat.le_of_ble_eq_true rfl)) ⟨Nat.le_of_ble_eq_true rfl, Nat.le_of_ble_eq_true rfl⟩ ⟨Nat.zero_le _, Nat.zero_le _⟩ hF (fun x1 σ H locs hF hw => ?_)
  refine lv_if_eq (tgt := 17) hx hb d_Written_kindAt_5 (by decide) (fun hc => ?_) (fun hc => ?_)
  · have hF := fx_it hc hF
    refine lv_iconst (v := (-1)) hx hb d_Written_kindAt_17 (by decide) ?_
    exact hend _ _ _ _ _ _ d_Written_kindAt_18 hF hw
  · have hF := fx_if hc hF
    refine lv_aload_n hx hb d_Written_kindAt_8 rfl (lv_at hl 0 rfl) ?_
    refine gR_Written_kinds X hw lk_Written_9 d_Written_kindAt_9 ?_
    refine lv_iload_n hx hb d_Written_kindAt_12 rfl (lv_at hl 1 rfl) ?_
    refine lA_Written_kinds X hw d_Written_kindAt_13 hF (fun x2 hF => ?_)
    refine lv_goto (tgt := 18) hx hb d_Written_kindAt_14 (by decide) ?_
    exact hend _ _ _ _ _ _ d_Written_kindAt_18 hF hw
section
variable {p : Program} {l : Launch} {e : Env} {R : Room} {s : State} {m : MethodId} {args : Array Value} {below : List Frame} {meth : Method} {c : Code} {H : Heap} {locs : List Loc} {cells slots : Nat} {Q : State → Prop}
variable {cc : ByteArray} {pc nL ix : Nat} {ls : Array Slot} {rest : List Value} {own : String} {D : va_G} {A : Nat → Prop} {h : Nat → Nat} {cA : Nat → ClassId} {σ : fx_S} {β : Type} {res : β × fx_S}
theorem k_Written_kindAt {v1 : Int32} (X : fx_X p m c cc nL s args own D fx_cl (fx_tys cA) fx_g fx_G A) (hw : fx_B D fx_cl (fx_ws h cA) A s.heap σ H locs) (lk : Cond.methodLink own ix y_Written_kindAt ∈ fx_g) (hdg : decode cc pc = .ok (.invokevirtual ix, 3)) (hsize : ls.size = nL) (hW : 2 * (F0 m pc ls (.int v1 :: .ref (h 40) :: rest)).monitorRoom + (rest.map fun v => v.category).sum ≤ 8) (hR : 1 + 1 ≤ R.frames ∧ 8 + (2 + 11) + 21 ≤ R.locals) (hf : cells ≤ R.cells ∧ slots ≤ R.slots) {k : Int32 → fx_M β} (hF : fx_bnd (F_Written_kindAt v1) k σ = some res) (kk : ∀ (r : Int32) (σ' : fx_S) (H' : Heap) (locs' : List Loc), k r σ' = some res → fx_B D fx_cl (fx_ws h cA) A s.heap σ' H' locs' → W p l e R s m args below meth c H' locs' cells slots Q (F0 m (pc + 3) ls (.int r :: rest))) : W p l e R s m args below meth c H locs cells slots Q (F0 m pc ls (.int v1 :: .ref (h 40) :: rest)) :=
  fx_call_i X hw (c_Written_kindAt l D h cA v1) (fx_cwV X lk hg_Written_kindAt fx_gok (rm := { frames := 1, cells := 0, slots := 0, locals := 21 }) rfl rfl (by decide +kernel) hR) (va_recv X.2.1 hw.1 (ci := 7) (q0 := 40) rfl rfl) (n := 1) rfl hdg hsize rfl hW hf hF kk
end
set_option maxHeartbeats 4000000 in
set_option maxRecDepth 100000 in
theorem c_Written_countOpen (l : Launch) (D : va_G) (h : Nat → Nat) (cA : Nat → ClassId) : fx_Mv l y_Written_countOpen b_Written_countOpen 3 none { frames := 2, cells := 0, slots := 0, locals := 42 } D fx_cl (fx_tys cA) fx_g fx_G (fx_ws h cA) [.ref (h 40)] (F_Written_countOpen) := by
  refine fx_start_v fx_G_ok (by decide) (Nat.le_of_ble_eq_true rfl) ?_
  intro p e s m args below meth c A ls σ res Q hF X hw hl hend
  have hx := X.1.1
  have hb := X.1.2.1
  have hl : lv_has ls 3 [(0, .ref (h 40))] := hl
  unfold F_Written_countOpen at hF
  have h9 : ∀ (n9 : Nat) (v1 : Int32) (v2 : Int32) (σ : fx_S) (H : Heap) (locs : List Loc) (ls : Array Slot), fx_loop2 (F_Written_countOpen_B9) n9 v1 v2 σ = some res → fx_B D fx_cl (fx_ws h cA) A s.heap σ H locs → lv_has ls 3 [(0, .ref (h 40)), (1, .int v1), (2, .int v2)] → W p l e { frames := 2, cells := 0, slots := 0, locals := 42 } s m args below meth c H locs 0 0 Q (F0 m 9 ls []) := by
    intro n9
    induction n9 with
    | zero => intro v1 v2 σ H locs ls hF; cases hF
    | succ n9 ih9 =>
      obtain ⟨K9, eK9⟩ : ∃ K, K = fx_loop2 (F_Written_countOpen_B9) n9 := ⟨_, rfl⟩
      rw [← eK9] at ih9
      have h44 : ∀ (v1 : Int32) (v2 : Int32) (σ : fx_S) (H : Heap) (locs : List Loc) (ls : Array Slot), F_Written_countOpen_J44 K9 v1 v2 σ = some res → fx_B D fx_cl (fx_ws h cA) A s.heap σ H locs → lv_has ls 3 [(0, .ref (h 40)), (1, .int v1), (2, .int v2)] → W p l e { frames := 2, cells := 0, slots := 0, locals := 42 } s m args below meth c H locs 0 0 Q (F0 m 44 ls []) := by
        intro v1 v2 σ H locs ls hF hw hl
        unfold F_Written_countOpen_J44 at hF
        refine lv_aload_n hx hb d_Written_countOpen_44 rfl (lv_at hl 0 rfl) ?_
        refine lv_aload_n hx hb d_Written_countOpen_45 rfl (lv_at hl 0 rfl) ?_
        refine gI_Written_mostOpen X hw lk_Written_47 d_Written_countOpen_46 hF (fun x4 hF => ?_)
        refine lv_iload_n hx hb d_Written_countOpen_49 rfl (lv_at hl 1 rfl) ?_
        refine fx_max X hl.1 fx_mxg lk_Written_127 d_Written_countOpen_50 (Nat.le_of_ble_eq_true rfl) (Nat.le_of_ble_eq_true rfl) (Nat.zero_le _) (Nat.zero_le _) hF (fun x5 hF => ?_)
        refine pI_Written_mostOpen X hw lk_Written_47 d_Written_countOpen_53 hF (fun σ H locs hF hw => ?_)
        refine fx_iinc (lv' := fun x6 => [(2, .int x6), (0, .ref (h 40)), (1, .int v1)]) hx hb d_Written_countOpen_56 hl (k := 2) rfl rfl (by decide) (fun _ => rfl) hF (fun x6 ls hF hl => ?_)
        refine lv_goto (tgt := 9) hx hb d_Written_countOpen_59 (by decide) ?_
        exact ih9 v1 x6 _ _ _ _ hF hw (lv_sub hl [1, 2, 0] rfl)
      intro v1 v2 σ H locs ls hF hw hl
      replace hF : F_Written_countOpen_B9 (fx_loop2 (F_Written_countOpen_B9) n9) v1 v2 σ = some res := hF
      rw [← eK9] at hF
      unfold F_Written_countOpen_B9 at hF
      refine lv_iload_n hx hb d_Written_countOpen_9 rfl (lv_at hl 2 rfl) ?_
      refine lv_aload_n hx hb d_Written_countOpen_10 rfl (lv_at hl 0 rfl) ?_
      refine gI_Written_size X hw lk_Written_43 d_Written_countOpen_11 hF (fun x1 hF => ?_)
      refine lv_icmp_ge (tgt := 62) hx hb d_Written_countOpen_14 (by decide) (fun hc => ?_) (fun hc => ?_)
      · have hF := fx_it hc hF
        exact hend _ _ _ _ _ d_Written_countOpen_62 hF hw
      · have hF := fx_if hc hF
        refine lv_aload_n hx hb d_Written_countOpen_17 rfl (lv_at hl 0 rfl) ?_
        refine lv_iload_n hx hb d_Written_countOpen_18 rfl (lv_at hl 2 rfl) ?_
        refine k_Written_kindAt X hw lk_Written_126 d_Written_countOpen_19 hl.1 (lv_room (Nat.le_of_ble_eq_true rfl)) ⟨Nat.le_of_ble_eq_true rfl, Nat.le_of_ble_eq_true rfl⟩ ⟨Nat.zero_le _, Nat.zero_le _⟩ hF (fun x2 σ H locs hF hw => ?_)
        refine lv_iconst (v := 3) hx hb d_Written_countOpen_22 (by decide) ?_
        refine lv_icmp_ne (tgt := 32) hx hb d_Written_countOpen_23 (by decide) (fun hc => ?_) (fun hc => ?_)
        · have hF := fx_if hc hF
          refine lv_aload_n hx hb d_Written_countOpen_32 rfl (lv_at hl 0 rfl) ?_
          refine lv_iload_n hx hb d_Written_countOpen_33 rfl (lv_at hl 2 rfl) ?_
          refine k_Written_kindAt X hw lk_Written_126 d_Written_countOpen_34 hl.1 (lv_room (Nat.le_of_ble_eq_true rfl)) ⟨Nat.le_of_ble_eq_true rfl, Nat.le_of_ble_eq_true rfl⟩ ⟨Nat.zero_le _, Nat.zero_le _⟩ hF (fun x3 σ H locs hF hw => ?_)
          refine lv_iconst (v := 4) hx hb d_Written_countOpen_37 (by decide) ?_
          refine lv_icmp_ne (tgt := 44) hx hb d_Written_countOpen_38 (by decide) (fun hc => ?_) (fun hc => ?_)
          · have hF := fx_if hc hF
            exact h44 v1 v2 _ _ _ _ hF hw (lv_sub hl [0, 1, 2] rfl)
          · have hF := fx_it hc hF
            refine fx_iinc (lv' := fun x7 => [(1, .int x7), (0, .ref (h 40)), (2, .int v2)]) hx hb d_Written_countOpen_41 hl (k := 1) rfl rfl (by decide) (fun _ => rfl) hF (fun x7 ls hF hl => ?_)
            exact h44 x7 v2 _ _ _ _ hF hw (lv_sub hl [1, 0, 2] rfl)
        · have hF := fx_it hc hF
          refine fx_iinc (lv' := fun x8 => [(1, .int x8), (0, .ref (h 40)), (2, .int v2)]) hx hb d_Written_countOpen_26 hl (k := 1) rfl rfl (by decide) (fun _ => rfl) hF (fun x8 ls hF hl => ?_)
          refine lv_goto (tgt := 44) hx hb d_Written_countOpen_29 (by decide) ?_
          exact h44 x8 v2 _ _ _ _ hF hw (lv_sub hl [1, 0, 2] rfl)
  refine lv_iconst (v := 0) hx hb d_Written_countOpen_0 (by decide) ?_
  refine lv_istore_n (lv' := [(1, .int 0), (0, .ref (h 40))]) hx hb d_Written_countOpen_1 rfl hl (by decide) rfl (fun ls hl => ?_)
  refine lv_aload_n hx hb d_Written_countOpen_2 rfl (lv_at hl 1 rfl) ?_
  refine lv_iconst (v := 0) hx hb d_Written_countOpen_3 (by decide) ?_
  refine pI_Written_mostOpen X hw lk_Written_47 d_Written_countOpen_4 hF (fun σ H locs hF hw => ?_)
  refine lv_iconst (v := 0) hx hb d_Written_countOpen_7 (by decide) ?_
  refine lv_istore_n (lv' := [(2, .int 0), (1, .int 0), (0, .ref (h 40))]) hx hb d_Written_countOpen_8 rfl hl (by decide) rfl (fun ls hl => ?_)
  exact h9 fx_fuel 0 0 _ _ _ _ hF hw (lv_sub hl [2, 1, 0] rfl)
section
variable {p : Program} {l : Launch} {e : Env} {R : Room} {s : State} {m : MethodId} {args : Array Value} {below : List Frame} {meth : Method} {c : Code} {H : Heap} {locs : List Loc} {cells slots : Nat} {Q : State → Prop}
variable {cc : ByteArray} {pc nL ix : Nat} {ls : Array Slot} {rest : List Value} {own : String} {D : va_G} {A : Nat → Prop} {h : Nat → Nat} {cA : Nat → ClassId} {σ : fx_S} {β : Type} {res : β × fx_S}
theorem k_Written_countOpen (X : fx_X p m c cc nL s args own D fx_cl (fx_tys cA) fx_g fx_G A) (hw : fx_B D fx_cl (fx_ws h cA) A s.heap σ H locs) (lk : Cond.methodLink own ix y_Written_countOpen ∈ fx_g) (hdg : decode cc pc = .ok (.invokevirtual ix, 3)) (hsize : ls.size = nL) (hW : 2 * (F0 m pc ls (.ref (h 40) :: rest)).monitorRoom + (rest.map fun v => v.category).sum ≤ 8) (hR : 2 + 1 ≤ R.frames ∧ 8 + (3 + 11) + 42 ≤ R.locals) (hf : cells ≤ R.cells ∧ slots ≤ R.slots) {k : Unit → fx_M β} (hF : fx_bnd (F_Written_countOpen) k σ = some res) (kk : ∀ (σ' : fx_S) (H' : Heap) (locs' : List Loc), k () σ' = some res → fx_B D fx_cl (fx_ws h cA) A s.heap σ' H' locs' → W p l e R s m args below meth c H' locs' cells slots Q (F0 m (pc + 3) ls rest)) : W p l e R s m args below meth c H locs cells slots Q (F0 m pc ls (.ref (h 40) :: rest)) :=
  fx_call_v X hw (c_Written_countOpen l D h cA) (fx_cwV X lk hg_Written_countOpen fx_gok (rm := { frames := 2, cells := 0, slots := 0, locals := 42 }) rfl rfl (by decide +kernel) hR) (va_recv X.2.1 hw.1 (ci := 7) (q0 := 40) rfl rfl) (n := 0) rfl hdg hsize rfl hW hf hF kk
end
set_option maxHeartbeats 4000000 in
set_option maxRecDepth 100000 in
theorem c_Written_firstStandsLeft (l : Launch) (D : va_G) (h : Nat → Nat) (cA : Nat → ClassId) (v1 : Int32) : fx_Mi l y_Written_firstStandsLeft b_Written_firstStandsLeft 3 (some .boolean) { frames := 2, cells := 0, slots := 0, locals := 42 } D fx_cl (fx_tys cA) fx_g fx_G (fx_ws h cA) [.ref (h 40), .int v1] (F_Written_firstStandsLeft v1) := by
  refine fx_start_z fx_G_ok (by decide) (Nat.le_of_ble_eq_true rfl) ?_
  intro p e s m args below meth c A ls σ res Q hF X hw hl hend
  have hx := X.1.1
  have hb := X.1.2.1
  have hl : lv_has ls 3 [(0, .ref (h 40)), (1, .int v1)] := hl
  unfold F_Written_firstStandsLeft at hF
  refine lv_aload_n hx hb d_Written_firstStandsLeft_0 rfl (lv_at hl 0 rfl) ?_
  refine gR_Written_tree X hw lk_Written_35 d_Written_firstStandsLeft_1 ?_
  refine lv_iload_n hx hb d_Written_firstStandsLeft_4 rfl (lv_at hl 1 rfl) ?_
  refine k_Tree0_kindAt X hw lk_Written_97 d_Written_firstStandsLeft_5 hl.1 (lv_room (Nat.le_of_ble_eq_true rfl)) ⟨Nat.le_of_ble_eq_true rfl, Nat.le_of_ble_eq_true rfl⟩ ⟨Nat.zero_le _, Nat.zero_le _⟩ hF (fun x1 σ H locs hF hw => ?_)
  refine lv_istore_n (lv' := [(2, .int x1), (0, .ref (h 40)), (1, .int v1)]) hx hb d_Written_firstStandsLeft_8 rfl hl (by decide) rfl (fun ls hl => ?_)
  refine lv_iload_n hx hb d_Written_firstStandsLeft_9 rfl (lv_at hl 0 rfl) ?_
  refine lv_iconst (v := 1) hx hb d_Written_firstStandsLeft_10 (by decide) ?_
  refine lv_icmp_eq (tgt := 19) hx hb d_Written_firstStandsLeft_11 (by decide) (fun hc => ?_) (fun hc => ?_)
  · have hF := fx_it hc hF
    refine lv_iconst (v := 1) hx hb d_Written_firstStandsLeft_19 (by decide) ?_
    refine lv_goto (tgt := 24) hx hb d_Written_firstStandsLeft_20 (by decide) ?_
    exact hend _ _ _ _ _ _ d_Written_firstStandsLeft_24 hF hw
  · have hF := fx_if hc hF
    refine lv_iload_n hx hb d_Written_firstStandsLeft_14 rfl (lv_at hl 0 rfl) ?_
    refine lv_iconst (v := 3) hx hb d_Written_firstStandsLeft_15 (by decide) ?_
    refine lv_icmp_ne (tgt := 23) hx hb d_Written_firstStandsLeft_16 (by decide) (fun hc => ?_) (fun hc => ?_)
    · have hF := fx_if hc hF
      refine lv_iconst (v := 0) hx hb d_Written_firstStandsLeft_23 (by decide) ?_
      exact hend _ _ _ _ _ _ d_Written_firstStandsLeft_24 hF hw
    · have hF := fx_it hc hF
      refine lv_iconst (v := 1) hx hb d_Written_firstStandsLeft_19 (by decide) ?_
      refine lv_goto (tgt := 24) hx hb d_Written_firstStandsLeft_20 (by decide) ?_
      exact hend _ _ _ _ _ _ d_Written_firstStandsLeft_24 hF hw
section
variable {p : Program} {l : Launch} {e : Env} {R : Room} {s : State} {m : MethodId} {args : Array Value} {below : List Frame} {meth : Method} {c : Code} {H : Heap} {locs : List Loc} {cells slots : Nat} {Q : State → Prop}
variable {cc : ByteArray} {pc nL ix : Nat} {ls : Array Slot} {rest : List Value} {own : String} {D : va_G} {A : Nat → Prop} {h : Nat → Nat} {cA : Nat → ClassId} {σ : fx_S} {β : Type} {res : β × fx_S}
theorem k_Written_firstStandsLeft {v1 : Int32} (X : fx_X p m c cc nL s args own D fx_cl (fx_tys cA) fx_g fx_G A) (hw : fx_B D fx_cl (fx_ws h cA) A s.heap σ H locs) (lk : Cond.methodLink own ix y_Written_firstStandsLeft ∈ fx_g) (hdg : decode cc pc = .ok (.invokevirtual ix, 3)) (hsize : ls.size = nL) (hW : 2 * (F0 m pc ls (.int v1 :: .ref (h 40) :: rest)).monitorRoom + (rest.map fun v => v.category).sum ≤ 8) (hR : 2 + 1 ≤ R.frames ∧ 8 + (3 + 11) + 42 ≤ R.locals) (hf : cells ≤ R.cells ∧ slots ≤ R.slots) {k : Int32 → fx_M β} (hF : fx_bnd (F_Written_firstStandsLeft v1) k σ = some res) (kk : ∀ (r : Int32) (σ' : fx_S) (H' : Heap) (locs' : List Loc), k r σ' = some res → fx_B D fx_cl (fx_ws h cA) A s.heap σ' H' locs' → W p l e R s m args below meth c H' locs' cells slots Q (F0 m (pc + 3) ls (.int r :: rest))) : W p l e R s m args below meth c H locs cells slots Q (F0 m pc ls (.int v1 :: .ref (h 40) :: rest)) :=
  fx_call_i X hw (c_Written_firstStandsLeft l D h cA v1) (fx_cwV X lk hg_Written_firstStandsLeft fx_gok (rm := { frames := 2, cells := 0, slots := 0, locals := 42 }) rfl rfl (by decide +kernel) hR) (va_recv X.2.1 hw.1 (ci := 7) (q0 := 40) rfl rfl) (n := 1) rfl hdg hsize rfl hW hf hF kk
end
set_option maxHeartbeats 4000000 in
set_option maxRecDepth 100000 in
theorem c_Written_isSection (l : Launch) (D : va_G) (h : Nat → Nat) (cA : Nat → ClassId) (v1 : Int32) : fx_Mi l y_Written_isSection b_Written_isSection 3 (some .boolean) { frames := 2, cells := 0, slots := 0, locals := 42 } D fx_cl (fx_tys cA) fx_g fx_G (fx_ws h cA) [.ref (h 40), .int v1] (F_Written_isSection v1) := by
  refine fx_start_z fx_G_ok (by decide) (Nat.le_of_ble_eq_true rfl) ?_
  intro p e s m args below meth c A ls σ res Q hF X hw hl hend
  have hx := X.1.1
  have hb := X.1.2.1
  have hl : lv_has ls 3 [(0, .ref (h 40)), (1, .int v1)] := hl
  unfold F_Written_isSection at hF
  refine lv_aload_n hx hb d_Written_isSection_0 rfl (lv_at hl 0 rfl) ?_
  refine gR_Written_tree X hw lk_Written_35 d_Written_isSection_1 ?_
  refine lv_iload_n hx hb d_Written_isSection_4 rfl (lv_at hl 1 rfl) ?_
  refine k_Tree0_kindAt X hw lk_Written_97 d_Written_isSection_5 hl.1 (lv_room (Nat.le_of_ble_eq_true rfl)) ⟨Nat.le_of_ble_eq_true rfl, Nat.le_of_ble_eq_true rfl⟩ ⟨Nat.zero_le _, Nat.zero_le _⟩ hF (fun x1 σ H locs hF hw => ?_)
  refine lv_istore_n (lv' := [(2, .int x1), (0, .ref (h 40)), (1, .int v1)]) hx hb d_Written_isSection_8 rfl hl (by decide) rfl (fun ls hl => ?_)
  refine lv_iload_n hx hb d_Written_isSection_9 rfl (lv_at hl 0 rfl) ?_
  refine lv_iconst (v := 3) hx hb d_Written_isSection_10 (by decide) ?_
  refine lv_icmp_eq (tgt := 19) hx hb d_Written_isSection_11 (by decide) (fun hc => ?_) (fun hc => ?_)
  · have hF := fx_it hc hF
    refine lv_iconst (v := 1) hx hb d_Written_isSection_19 (by decide) ?_
    refine lv_goto (tgt := 24) hx hb d_Written_isSection_20 (by decide) ?_
    exact hend _ _ _ _ _ _ d_Written_isSection_24 hF hw
  · have hF := fx_if hc hF
    refine lv_iload_n hx hb d_Written_isSection_14 rfl (lv_at hl 0 rfl) ?_
    refine lv_iconst (v := 4) hx hb d_Written_isSection_15 (by decide) ?_
    refine lv_icmp_ne (tgt := 23) hx hb d_Written_isSection_16 (by decide) (fun hc => ?_) (fun hc => ?_)
    · have hF := fx_if hc hF
      refine lv_iconst (v := 0) hx hb d_Written_isSection_23 (by decide) ?_
      exact hend _ _ _ _ _ _ d_Written_isSection_24 hF hw
    · have hF := fx_it hc hF
      refine lv_iconst (v := 1) hx hb d_Written_isSection_19 (by decide) ?_
      refine lv_goto (tgt := 24) hx hb d_Written_isSection_20 (by decide) ?_
      exact hend _ _ _ _ _ _ d_Written_isSection_24 hF hw
section
variable {p : Program} {l : Launch} {e : Env} {R : Room} {s : State} {m : MethodId} {args : Array Value} {below : List Frame} {meth : Method} {c : Code} {H : Heap} {locs : List Loc} {cells slots : Nat} {Q : State → Prop}
variable {cc : ByteArray} {pc nL ix : Nat} {ls : Array Slot} {rest : List Value} {own : String} {D : va_G} {A : Nat → Prop} {h : Nat → Nat} {cA : Nat → ClassId} {σ : fx_S} {β : Type} {res : β × fx_S}
theorem k_Written_isSection {v1 : Int32} (X : fx_X p m c cc nL s args own D fx_cl (fx_tys cA) fx_g fx_G A) (hw : fx_B D fx_cl (fx_ws h cA) A s.heap σ H locs) (lk : Cond.methodLink own ix y_Written_isSection ∈ fx_g) (hdg : decode cc pc = .ok (.invokevirtual ix, 3)) (hsize : ls.size = nL) (hW : 2 * (F0 m pc ls (.int v1 :: .ref (h 40) :: rest)).monitorRoom + (rest.map fun v => v.category).sum ≤ 8) (hR : 2 + 1 ≤ R.frames ∧ 8 + (3 + 11) + 42 ≤ R.locals) (hf : cells ≤ R.cells ∧ slots ≤ R.slots) {k : Int32 → fx_M β} (hF : fx_bnd (F_Written_isSection v1) k σ = some res) (kk : ∀ (r : Int32) (σ' : fx_S) (H' : Heap) (locs' : List Loc), k r σ' = some res → fx_B D fx_cl (fx_ws h cA) A s.heap σ' H' locs' → W p l e R s m args below meth c H' locs' cells slots Q (F0 m (pc + 3) ls (.int r :: rest))) : W p l e R s m args below meth c H locs cells slots Q (F0 m pc ls (.int v1 :: .ref (h 40) :: rest)) :=
  fx_call_i X hw (c_Written_isSection l D h cA v1) (fx_cwV X lk hg_Written_isSection fx_gok (rm := { frames := 2, cells := 0, slots := 0, locals := 42 }) rfl rfl (by decide +kernel) hR) (va_recv X.2.1 hw.1 (ci := 7) (q0 := 40) rfl rfl) (n := 1) rfl hdg hsize rfl hW hf hF kk
end
set_option maxHeartbeats 4000000 in
set_option maxRecDepth 100000 in
theorem c_Written_put (l : Launch) (D : va_G) (h : Nat → Nat) (cA : Nat → ClassId) (v1 : Int32) (v2 : Int32) (v3 : Int32) (v4 : Int32) (v5 : Int64) : fx_Mv l y_Written_put b_Written_put 7 none { frames := 1, cells := 0, slots := 0, locals := 21 } D fx_cl (fx_tys cA) fx_g fx_G (fx_ws h cA) [.ref (h 40), .int v1, .int v2, .int v3, .int v4, .long v5] (F_Written_put v1 v2 v3 v4 v5) := by
  refine fx_start_v fx_G_ok (by decide) (Nat.le_of_ble_eq_true rfl) ?_
  intro p e s m args below meth c A ls σ res Q hF X hw hl hend
  have hx := X.1.1
  have hb := X.1.2.1
  have hl : lv_has ls 7 [(0, .ref (h 40)), (1, .int v1), (2, .int v2), (3, .int v3), (4, .int v4), (5, .long v5)] := hl
  unfold F_Written_put at hF
  refine lv_aload_n hx hb d_Written_put_0 rfl (lv_at hl 0 rfl) ?_
  refine lv_iload_n hx hb d_Written_put_1 rfl (lv_at hl 1 rfl) ?_
  refine k_Written_has X hw lk_Written_50 d_Written_put_2 hl.1 (lv_room (Nat.le_of_ble_eq_true rfl)) ⟨Nat.le_of_ble_eq_true rfl, Nat.le_of_ble_eq_true rfl⟩ ⟨Nat.zero_le _, Nat.zero_le _⟩ hF (fun x1 σ H locs hF hw => ?_)
  refine lv_if_eq (tgt := 38) hx hb d_Written_put_5 (by decide) (fun hc => ?_) (fun hc => ?_)
  · have hF := fx_it hc hF
    exact hend _ _ _ _ _ d_Written_put_38 hF hw
  · have hF := fx_if hc hF
    refine lv_aload_n hx hb d_Written_put_8 rfl (lv_at hl 0 rfl) ?_
    refine gR_Written_kinds X hw lk_Written_9 d_Written_put_9 ?_
    refine lv_iload_n hx hb d_Written_put_12 rfl (lv_at hl 1 rfl) ?_
    refine lv_iload_n hx hb d_Written_put_13 rfl (lv_at hl 2 rfl) ?_
    refine sA_Written_kinds X hw d_Written_put_14 hF (fun σ H locs hF hw => ?_)
    refine lv_aload_n hx hb d_Written_put_15 rfl (lv_at hl 0 rfl) ?_
    refine gR_Written_operators X hw lk_Written_15 d_Written_put_16 ?_
    refine lv_iload_n hx hb d_Written_put_19 rfl (lv_at hl 1 rfl) ?_
    refine lv_iload_n hx hb d_Written_put_20 rfl (lv_at hl 3 rfl) ?_
    refine sA_Written_operators X hw d_Written_put_21 hF (fun σ H locs hF hw => ?_)
    refine lv_aload_n hx hb d_Written_put_22 rfl (lv_at hl 0 rfl) ?_
    refine gR_Written_nodes X hw lk_Written_18 d_Written_put_23 ?_
    refine lv_iload_n hx hb d_Written_put_26 rfl (lv_at hl 1 rfl) ?_
    refine lv_iload hx hb d_Written_put_27 (lv_at hl 4 rfl) ?_
    refine sA_Written_nodes X hw d_Written_put_29 hF (fun σ H locs hF hw => ?_)
    refine lv_aload_n hx hb d_Written_put_30 rfl (lv_at hl 0 rfl) ?_
    refine gR_Written_numbers X hw lk_Written_21 d_Written_put_31 ?_
    refine lv_iload_n hx hb d_Written_put_34 rfl (lv_at hl 1 rfl) ?_
    refine lv_lload hx hb d_Written_put_35 (lv_at hl 5 rfl) ?_
    refine sA_Written_numbers X hw d_Written_put_37 hF (fun σ H locs hF hw => ?_)
    exact hend _ _ _ _ _ d_Written_put_38 hF hw
section
variable {p : Program} {l : Launch} {e : Env} {R : Room} {s : State} {m : MethodId} {args : Array Value} {below : List Frame} {meth : Method} {c : Code} {H : Heap} {locs : List Loc} {cells slots : Nat} {Q : State → Prop}
variable {cc : ByteArray} {pc nL ix : Nat} {ls : Array Slot} {rest : List Value} {own : String} {D : va_G} {A : Nat → Prop} {h : Nat → Nat} {cA : Nat → ClassId} {σ : fx_S} {β : Type} {res : β × fx_S}
theorem k_Written_put {v1 : Int32} {v2 : Int32} {v3 : Int32} {v4 : Int32} {v5 : Int64} (X : fx_X p m c cc nL s args own D fx_cl (fx_tys cA) fx_g fx_G A) (hw : fx_B D fx_cl (fx_ws h cA) A s.heap σ H locs) (lk : Cond.methodLink own ix y_Written_put ∈ fx_g) (hdg : decode cc pc = .ok (.invokevirtual ix, 3)) (hsize : ls.size = nL) (hW : 2 * (F0 m pc ls (.long v5 :: .int v4 :: .int v3 :: .int v2 :: .int v1 :: .ref (h 40) :: rest)).monitorRoom + (rest.map fun v => v.category).sum ≤ 8) (hR : 1 + 1 ≤ R.frames ∧ 8 + (7 + 11) + 21 ≤ R.locals) (hf : cells ≤ R.cells ∧ slots ≤ R.slots) {k : Unit → fx_M β} (hF : fx_bnd (F_Written_put v1 v2 v3 v4 v5) k σ = some res) (kk : ∀ (σ' : fx_S) (H' : Heap) (locs' : List Loc), k () σ' = some res → fx_B D fx_cl (fx_ws h cA) A s.heap σ' H' locs' → W p l e R s m args below meth c H' locs' cells slots Q (F0 m (pc + 3) ls rest)) : W p l e R s m args below meth c H locs cells slots Q (F0 m pc ls (.long v5 :: .int v4 :: .int v3 :: .int v2 :: .int v1 :: .ref (h 40) :: rest)) :=
  fx_call_v X hw (c_Written_put l D h cA v1 v2 v3 v4 v5) (fx_cwV X lk hg_Written_put fx_gok (rm := { frames := 1, cells := 0, slots := 0, locals := 21 }) rfl rfl (by decide +kernel) hR) (va_recv X.2.1 hw.1 (ci := 7) (q0 := 40) rfl rfl) (n := 5) rfl hdg hsize rfl hW hf hF kk
end
set_option maxHeartbeats 4000000 in
set_option maxRecDepth 100000 in
theorem c_Written_lay (l : Launch) (D : va_G) (h : Nat → Nat) (cA : Nat → ClassId) (v1 : Int32) : fx_Mv l y_Written_lay b_Written_lay 5 none { frames := 3, cells := 0, slots := 0, locals := 64 } D fx_cl (fx_tys cA) fx_g fx_G (fx_ws h cA) [.ref (h 40), .int v1] (F_Written_lay v1) := by
  refine fx_start_v fx_G_ok (by decide) (Nat.le_of_ble_eq_true rfl) ?_
  intro p e s m args below meth c A ls σ res Q hF X hw hl hend
  have hx := X.1.1
  have hb := X.1.2.1
  have hl : lv_has ls 5 [(0, .ref (h 40)), (1, .int v1)] := hl
  unfold F_Written_lay at hF
  have h145 : ∀ (v1 : Int32) (v4 : Int32) (t0 : Int32) (t1 : Int32) (σ : fx_S) (H : Heap) (locs : List Loc) (ls : Array Slot), F_Written_lay_J145 v1 v4 t0 t1 σ = some res → fx_B D fx_cl (fx_ws h cA) A s.heap σ H locs → lv_has ls 5 [(0, .ref (h 40)), (1, .int v1), (4, .int v4)] → W p l e { frames := 3, cells := 0, slots := 0, locals := 64 } s m args below meth c H locs 0 0 Q (F0 m 145 ls [.int t0, .int t1, .ref (h 40)]) := by
    intro v1 v4 t0 t1 σ H locs ls hF hw hl
    unfold F_Written_lay_J145 at hF
    refine k_Written_setStart X hw lk_Written_87 d_Written_lay_145 hl.1 (lv_room (Nat.le_of_ble_eq_true rfl)) ⟨Nat.le_of_ble_eq_true rfl, Nat.le_of_ble_eq_true rfl⟩ ⟨Nat.zero_le _, Nat.zero_le _⟩ hF (fun σ H locs hF hw => ?_)
    refine lv_aload_n hx hb d_Written_lay_148 rfl (lv_at hl 0 rfl) ?_
    refine lv_aload_n hx hb d_Written_lay_149 rfl (lv_at hl 0 rfl) ?_
    refine gR_Written_tree X hw lk_Written_35 d_Written_lay_150 ?_
    refine lv_iload_n hx hb d_Written_lay_153 rfl (lv_at hl 1 rfl) ?_
    refine k_Tree0_secondAt X hw lk_Written_77 d_Written_lay_154 hl.1 (lv_room (Nat.le_of_ble_eq_true rfl)) ⟨Nat.le_of_ble_eq_true rfl, Nat.le_of_ble_eq_true rfl⟩ ⟨Nat.zero_le _, Nat.zero_le _⟩ hF (fun x11 σ H locs hF hw => ?_)
    refine lv_iload hx hb d_Written_lay_157 (lv_at hl 2 rfl) ?_
    refine lv_iconst (v := 1) hx hb d_Written_lay_159 (by decide) ?_
    refine lv_iadd hx hb d_Written_lay_160 ?_
    refine k_Written_setStart X hw lk_Written_87 d_Written_lay_161 hl.1 (lv_room (Nat.le_of_ble_eq_true rfl)) ⟨Nat.le_of_ble_eq_true rfl, Nat.le_of_ble_eq_true rfl⟩ ⟨Nat.zero_le _, Nat.zero_le _⟩ hF (fun σ H locs hF hw => ?_)
    exact hend _ _ _ _ _ d_Written_lay_164 hF hw
  have h107 : ∀ (v1 : Int32) (v2 : Int32) (v3 : Int32) (v4 : Int32) (t0 : Int32) (t1 : Int32) (σ : fx_S) (H : Heap) (locs : List Loc) (ls : Array Slot), F_Written_lay_J107 v1 v2 v3 v4 t0 t1 σ = some res → fx_B D fx_cl (fx_ws h cA) A s.heap σ H locs → lv_has ls 5 [(0, .ref (h 40)), (1, .int v1), (2, .int v2), (3, .int v3), (4, .int v4)] → W p l e { frames := 3, cells := 0, slots := 0, locals := 64 } s m args below meth c H locs 0 0 Q (F0 m 107 ls [.int t0, .int t1, .ref (h 40)]) := by
    intro v1 v2 v3 v4 t0 t1 σ H locs ls hF hw hl
    unfold F_Written_lay_J107 at hF
    refine lv_aload_n hx hb d_Written_lay_107 rfl (lv_at hl 0 rfl) ?_
    refine gR_Written_tree X hw lk_Written_35 d_Written_lay_108 ?_
    refine lv_iload_n hx hb d_Written_lay_111 rfl (lv_at hl 1 rfl) ?_
    refine k_Tree0_operatorAt X hw lk_Written_100 d_Written_lay_112 hl.1 (lv_room (Nat.le_of_ble_eq_true rfl)) ⟨Nat.le_of_ble_eq_true rfl, Nat.le_of_ble_eq_true rfl⟩ ⟨Nat.zero_le _, Nat.zero_le _⟩ hF (fun x8 σ H locs hF hw => ?_)
    refine lv_iload_n hx hb d_Written_lay_115 rfl (lv_at hl 1 rfl) ?_
    refine lv_aload_n hx hb d_Written_lay_116 rfl (lv_at hl 0 rfl) ?_
    refine gR_Written_tree X hw lk_Written_35 d_Written_lay_117 ?_
    refine lv_iload_n hx hb d_Written_lay_120 rfl (lv_at hl 1 rfl) ?_
    refine k_Tree0_numberAt X hw lk_Written_122 d_Written_lay_121 hl.1 (lv_room (Nat.le_of_ble_eq_true rfl)) ⟨Nat.le_of_ble_eq_true rfl, Nat.le_of_ble_eq_true rfl⟩ ⟨Nat.zero_le _, Nat.zero_le _⟩ hF (fun x9 σ H locs hF hw => ?_)
    refine k_Written_put X hw lk_Written_118 d_Written_lay_124 hl.1 (lv_room (Nat.le_of_ble_eq_true rfl)) ⟨Nat.le_of_ble_eq_true rfl, Nat.le_of_ble_eq_true rfl⟩ ⟨Nat.zero_le _, Nat.zero_le _⟩ hF (fun σ H locs hF hw => ?_)
    refine lv_aload_n hx hb d_Written_lay_127 rfl (lv_at hl 0 rfl) ?_
    refine lv_iload_n hx hb d_Written_lay_128 rfl (lv_at hl 3 rfl) ?_
    refine lv_aload_n hx hb d_Written_lay_129 rfl (lv_at hl 0 rfl) ?_
    refine lv_iload_n hx hb d_Written_lay_130 rfl (lv_at hl 1 rfl) ?_
    refine k_Written_firstStandsLeft X hw lk_Written_70 d_Written_lay_131 hl.1 (lv_room (Nat.le_of_ble_eq_true rfl)) ⟨Nat.le_of_ble_eq_true rfl, Nat.le_of_ble_eq_true rfl⟩ ⟨Nat.zero_le _, Nat.zero_le _⟩ hF (fun x10 σ H locs hF hw => ?_)
    refine lv_if_eq (tgt := 141) hx hb d_Written_lay_134 (by decide) (fun hc => ?_) (fun hc => ?_)
    · have hF := fx_it hc hF
      refine lv_iload hx hb d_Written_lay_141 (lv_at hl 4 rfl) ?_
      refine lv_iconst (v := 1) hx hb d_Written_lay_143 (by decide) ?_
      refine lv_iadd hx hb d_Written_lay_144 ?_
      exact h145 v1 v4 (v4 + 1) v3 _ _ _ _ hF hw (lv_sub hl [0, 1, 4] rfl)
    · have hF := fx_if hc hF
      refine lv_iload_n hx hb d_Written_lay_137 rfl (lv_at hl 2 rfl) ?_
      refine lv_goto (tgt := 145) hx hb d_Written_lay_138 (by decide) ?_
      exact h145 v1 v4 v2 v3 _ _ _ _ hF hw (lv_sub hl [0, 1, 4] rfl)
  have h82 : ∀ (v1 : Int32) (v2 : Int32) (v3 : Int32) (t0 : Int32) (σ : fx_S) (H : Heap) (locs : List Loc) (ls : Array Slot), F_Written_lay_J82 v1 v2 v3 t0 σ = some res → fx_B D fx_cl (fx_ws h cA) A s.heap σ H locs → lv_has ls 5 [(0, .ref (h 40)), (1, .int v1), (2, .int v2), (3, .int v3)] → W p l e { frames := 3, cells := 0, slots := 0, locals := 64 } s m args below meth c H locs 0 0 Q (F0 m 82 ls [.int t0]) := by
    intro v1 v2 v3 t0 σ H locs ls hF hw hl
    unfold F_Written_lay_J82 at hF
    refine lv_istore (lv' := [(4, .int t0), (0, .ref (h 40)), (1, .int v1), (2, .int v2), (3, .int v3)]) hx hb d_Written_lay_82 hl (by decide) rfl (fun ls hl => ?_)
    refine lv_aload_n hx hb d_Written_lay_84 rfl (lv_at hl 1 rfl) ?_
    refine lv_iload hx hb d_Written_lay_85 (lv_at hl 0 rfl) ?_
    refine lv_aload_n hx hb d_Written_lay_87 rfl (lv_at hl 1 rfl) ?_
    refine lv_iload_n hx hb d_Written_lay_88 rfl (lv_at hl 2 rfl) ?_
    refine k_Written_isSection X hw lk_Written_59 d_Written_lay_89 hl.1 (lv_room (Nat.le_of_ble_eq_true rfl)) ⟨Nat.le_of_ble_eq_true rfl, Nat.le_of_ble_eq_true rfl⟩ ⟨Nat.zero_le _, Nat.zero_le _⟩ hF (fun x6 σ H locs hF hw => ?_)
    refine lv_if_eq (tgt := 99) hx hb d_Written_lay_92 (by decide) (fun hc => ?_) (fun hc => ?_)
    · have hF := fx_it hc hF
      refine lv_aload_n hx hb d_Written_lay_99 rfl (lv_at hl 1 rfl) ?_
      refine gR_Written_tree X hw lk_Written_35 d_Written_lay_100 ?_
      refine lv_iload_n hx hb d_Written_lay_103 rfl (lv_at hl 2 rfl) ?_
      refine k_Tree0_kindAt X hw lk_Written_97 d_Written_lay_104 hl.1 (lv_room (Nat.le_of_ble_eq_true rfl)) ⟨Nat.le_of_ble_eq_true rfl, Nat.le_of_ble_eq_true rfl⟩ ⟨Nat.zero_le _, Nat.zero_le _⟩ hF (fun x7 σ H locs hF hw => ?_)
      exact h107 v1 v2 v3 t0 x7 t0 _ _ _ _ hF hw (lv_sub hl [1, 2, 3, 4, 0] rfl)
    · have hF := fx_if hc hF
      refine lv_iconst (v := 1) hx hb d_Written_lay_95 (by decide) ?_
      refine lv_goto (tgt := 107) hx hb d_Written_lay_96 (by decide) ?_
      exact h107 v1 v2 v3 t0 1 t0 _ _ _ _ hF hw (lv_sub hl [1, 2, 3, 4, 0] rfl)
  have h54 : ∀ (v1 : Int32) (v2 : Int32) (σ : fx_S) (H : Heap) (locs : List Loc) (ls : Array Slot), F_Written_lay_J54 v1 v2 σ = some res → fx_B D fx_cl (fx_ws h cA) A s.heap σ H locs → lv_has ls 5 [(0, .ref (h 40)), (1, .int v1), (2, .int v2)] → W p l e { frames := 3, cells := 0, slots := 0, locals := 64 } s m args below meth c H locs 0 0 Q (F0 m 54 ls []) := by
    intro v1 v2 σ H locs ls hF hw hl
    unfold F_Written_lay_J54 at hF
    refine lv_aload_n hx hb d_Written_lay_54 rfl (lv_at hl 0 rfl) ?_
    refine gR_Written_tree X hw lk_Written_35 d_Written_lay_55 ?_
    refine lv_iload_n hx hb d_Written_lay_58 rfl (lv_at hl 1 rfl) ?_
    refine k_Tree0_firstAt X hw lk_Written_66 d_Written_lay_59 hl.1 (lv_room (Nat.le_of_ble_eq_true rfl)) ⟨Nat.le_of_ble_eq_true rfl, Nat.le_of_ble_eq_true rfl⟩ ⟨Nat.zero_le _, Nat.zero_le _⟩ hF (fun x4 σ H locs hF hw => ?_)
    refine lv_istore_n (lv' := [(3, .int x4), (0, .ref (h 40)), (1, .int v1), (2, .int v2)]) hx hb d_Written_lay_62 rfl hl (by decide) rfl (fun ls hl => ?_)
    refine lv_aload_n hx hb d_Written_lay_63 rfl (lv_at hl 1 rfl) ?_
    refine lv_iload_n hx hb d_Written_lay_64 rfl (lv_at hl 2 rfl) ?_
    refine k_Written_firstStandsLeft X hw lk_Written_70 d_Written_lay_65 hl.1 (lv_room (Nat.le_of_ble_eq_true rfl)) ⟨Nat.le_of_ble_eq_true rfl, Nat.le_of_ble_eq_true rfl⟩ ⟨Nat.zero_le _, Nat.zero_le _⟩ hF (fun x5 σ H locs hF hw => ?_)
    refine lv_if_eq (tgt := 81) hx hb d_Written_lay_68 (by decide) (fun hc => ?_) (fun hc => ?_)
    · have hF := fx_it hc hF
      refine lv_iload_n hx hb d_Written_lay_81 rfl (lv_at hl 3 rfl) ?_
      exact h82 v1 v2 x4 v2 _ _ _ _ hF hw (lv_sub hl [1, 2, 3, 0] rfl)
    · have hF := fx_if hc hF
      refine lv_iload_n hx hb d_Written_lay_71 rfl (lv_at hl 3 rfl) ?_
      refine lv_aload_n hx hb d_Written_lay_72 rfl (lv_at hl 1 rfl) ?_
      refine lv_iload_n hx hb d_Written_lay_73 rfl (lv_at hl 0 rfl) ?_
      refine k_Written_widthOf X hw lk_Written_84 d_Written_lay_74 hl.1 (lv_room (Nat.le_of_ble_eq_true rfl)) ⟨Nat.le_of_ble_eq_true rfl, Nat.le_of_ble_eq_true rfl⟩ ⟨Nat.zero_le _, Nat.zero_le _⟩ hF (fun x12 σ H locs hF hw => ?_)
      refine lv_iadd hx hb d_Written_lay_77 ?_
      refine lv_goto (tgt := 82) hx hb d_Written_lay_78 (by decide) ?_
      exact h82 v1 v2 x4 (v2 + x12) _ _ _ _ hF hw (lv_sub hl [1, 2, 3, 0] rfl)
  refine lv_iload_n hx hb d_Written_lay_0 rfl (lv_at hl 1 rfl) ?_
  refine k_Written_isNode X hw lk_Written_115 d_Written_lay_1 hl.1 (lv_room (Nat.le_of_ble_eq_true rfl)) ⟨Nat.le_of_ble_eq_true rfl, Nat.le_of_ble_eq_true rfl⟩ ⟨Nat.zero_le _, Nat.zero_le _⟩ hF (fun x1 σ H locs hF hw => ?_)
  refine lv_if_ne (tgt := 8) hx hb d_Written_lay_4 (by decide) (fun hc => ?_) (fun hc => ?_)
  · have hF := fx_if hc hF
    refine lv_aload_n hx hb d_Written_lay_8 rfl (lv_at hl 0 rfl) ?_
    refine gR_Written_starts X hw lk_Written_32 d_Written_lay_9 ?_
    refine lv_iload_n hx hb d_Written_lay_12 rfl (lv_at hl 1 rfl) ?_
    refine lA_Written_starts X hw d_Written_lay_13 hF (fun x2 hF => ?_)
    refine lv_istore_n (lv' := [(2, .int x2), (0, .ref (h 40)), (1, .int v1)]) hx hb d_Written_lay_14 rfl hl (by decide) rfl (fun ls hl => ?_)
    refine lv_aload_n hx hb d_Written_lay_15 rfl (lv_at hl 1 rfl) ?_
    refine gR_Written_bracketed X hw lk_Written_25 d_Written_lay_16 ?_
    refine lv_iload_n hx hb d_Written_lay_19 rfl (lv_at hl 2 rfl) ?_
    refine lA_Written_bracketed X hw d_Written_lay_20 hF (fun x3 hF => ?_)
    refine lv_if_eq (tgt := 54) hx hb d_Written_lay_21 (by decide) (fun hc => ?_) (fun hc => ?_)
    · have hF := fx_it hc hF
      exact h54 v1 x2 _ _ _ _ hF hw (lv_sub hl [1, 2, 0] rfl)
    · have hF := fx_if hc hF
      refine lv_aload_n hx hb d_Written_lay_24 rfl (lv_at hl 1 rfl) ?_
      refine lv_iload_n hx hb d_Written_lay_25 rfl (lv_at hl 0 rfl) ?_
      refine lv_iconst (v := 3) hx hb d_Written_lay_26 (by decide) ?_
      refine lv_iconst (v := (-1)) hx hb d_Written_lay_27 (by decide) ?_
      refine lv_iload_n hx hb d_Written_lay_28 rfl (lv_at hl 2 rfl) ?_
      refine lv_lconst (v := 0) hx hb d_Written_lay_29 (by decide) ?_
      refine k_Written_put X hw lk_Written_118 d_Written_lay_30 hl.1 (lv_room (Nat.le_of_ble_eq_true rfl)) ⟨Nat.le_of_ble_eq_true rfl, Nat.le_of_ble_eq_true rfl⟩ ⟨Nat.zero_le _, Nat.zero_le _⟩ hF (fun σ H locs hF hw => ?_)
      refine lv_aload_n hx hb d_Written_lay_33 rfl (lv_at hl 1 rfl) ?_
      refine lv_iload_n hx hb d_Written_lay_34 rfl (lv_at hl 0 rfl) ?_
      refine lv_aload_n hx hb d_Written_lay_35 rfl (lv_at hl 1 rfl) ?_
      refine gR_Written_widths X hw lk_Written_29 d_Written_lay_36 ?_
      refine lv_iload_n hx hb d_Written_lay_39 rfl (lv_at hl 2 rfl) ?_
      refine lA_Written_widths X hw d_Written_lay_40 hF (fun x13 hF => ?_)
      refine lv_iadd hx hb d_Written_lay_41 ?_
      refine lv_iconst (v := 1) hx hb d_Written_lay_42 (by decide) ?_
      refine lv_isub hx hb d_Written_lay_43 ?_
      refine lv_iconst (v := 4) hx hb d_Written_lay_44 (by decide) ?_
      refine lv_iconst (v := (-1)) hx hb d_Written_lay_45 (by decide) ?_
      refine lv_iload_n hx hb d_Written_lay_46 rfl (lv_at hl 2 rfl) ?_
      refine lv_lconst (v := 0) hx hb d_Written_lay_47 (by decide) ?_
      refine k_Written_put X hw lk_Written_118 d_Written_lay_48 hl.1 (lv_room (Nat.le_of_ble_eq_true rfl)) ⟨Nat.le_of_ble_eq_true rfl, Nat.le_of_ble_eq_true rfl⟩ ⟨Nat.zero_le _, Nat.zero_le _⟩ hF (fun σ H locs hF hw => ?_)
      refine fx_iinc (lv' := fun x14 => [(2, .int x14), (0, .ref (h 40)), (1, .int v1)]) hx hb d_Written_lay_51 hl (k := 0) rfl rfl (by decide) (fun _ => rfl) hF (fun x14 ls hF hl => ?_)
      exact h54 v1 x14 _ _ _ _ hF hw (lv_sub hl [1, 2, 0] rfl)
  · have hF := fx_it hc hF
    exact hend _ _ _ _ _ d_Written_lay_7 hF hw
section
variable {p : Program} {l : Launch} {e : Env} {R : Room} {s : State} {m : MethodId} {args : Array Value} {below : List Frame} {meth : Method} {c : Code} {H : Heap} {locs : List Loc} {cells slots : Nat} {Q : State → Prop}
variable {cc : ByteArray} {pc nL ix : Nat} {ls : Array Slot} {rest : List Value} {own : String} {D : va_G} {A : Nat → Prop} {h : Nat → Nat} {cA : Nat → ClassId} {σ : fx_S} {β : Type} {res : β × fx_S}
theorem k_Written_lay {v1 : Int32} (X : fx_X p m c cc nL s args own D fx_cl (fx_tys cA) fx_g fx_G A) (hw : fx_B D fx_cl (fx_ws h cA) A s.heap σ H locs) (lk : Cond.methodLink own ix y_Written_lay ∈ fx_g) (hdg : decode cc pc = .ok (.invokevirtual ix, 3)) (hsize : ls.size = nL) (hW : 2 * (F0 m pc ls (.int v1 :: .ref (h 40) :: rest)).monitorRoom + (rest.map fun v => v.category).sum ≤ 8) (hR : 3 + 1 ≤ R.frames ∧ 8 + (5 + 11) + 64 ≤ R.locals) (hf : cells ≤ R.cells ∧ slots ≤ R.slots) {k : Unit → fx_M β} (hF : fx_bnd (F_Written_lay v1) k σ = some res) (kk : ∀ (σ' : fx_S) (H' : Heap) (locs' : List Loc), k () σ' = some res → fx_B D fx_cl (fx_ws h cA) A s.heap σ' H' locs' → W p l e R s m args below meth c H' locs' cells slots Q (F0 m (pc + 3) ls rest)) : W p l e R s m args below meth c H locs cells slots Q (F0 m pc ls (.int v1 :: .ref (h 40) :: rest)) :=
  fx_call_v X hw (c_Written_lay l D h cA v1) (fx_cwV X lk hg_Written_lay fx_gok (rm := { frames := 3, cells := 0, slots := 0, locals := 64 }) rfl rfl (by decide +kernel) hR) (va_recv X.2.1 hw.1 (ci := 7) (q0 := 40) rfl rfl) (n := 1) rfl hdg hsize rfl hW hf hF kk
end
