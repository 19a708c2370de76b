set_option maxHeartbeats 4000000 in
set_option maxRecDepth 100000 in
theorem c_Scopes_has (l : Launch) (D : va_G) (h : Nat → Nat) (cA : Nat → ClassId) (v1 : Int32) : fx_Mi l y_Scopes_has b_Scopes_has 2 (some .boolean) { frames := 0, cells := 0, slots := 0, locals := 0 } D fx_cl (fx_tys cA) fx_g fx_G (fx_ws h cA) [.ref (h 1), .int v1] (F_Scopes_has v1) := by
  refine fx_start_z fx_G_ok (by decide) (Nat.le_of_ble_eq_true rfl) ?_
  intro p e s m args below meth c A ls σ res Q hF X hw hl hend
  have hx := X.1.1
  have hb := X.1.2.1
  have hl : lv_has ls 2 [(0, .ref (h 1)), (1, .int v1)] := hl
  unfold F_Scopes_has at hF
  refine lv_iload_n hx hb d_Scopes_has_0 rfl (lv_at hl 1 rfl) ?_
  refine lv_if_lt (tgt := 22) hx hb d_Scopes_has_1 (by decide) (fun hc => ?_) (fun hc => ?_)
  · have hF := fx_it hc hF
    refine lv_iconst (v := 0) hx hb d_Scopes_has_22 (by decide) ?_
    exact hend _ _ _ _ _ _ d_Scopes_has_23 hF hw
  · have hF := fx_if hc hF
    refine lv_iload_n hx hb d_Scopes_has_4 rfl (lv_at hl 1 rfl) ?_
    refine lv_aload_n hx hb d_Scopes_has_5 rfl (lv_at hl 0 rfl) ?_
    refine gI_Scopes_size X hw lk_Scopes_18 d_Scopes_has_6 hF (fun x1 hF => ?_)
    refine lv_icmp_ge (tgt := 22) hx hb d_Scopes_has_9 (by decide) (fun hc => ?_) (fun hc => ?_)
    · have hF := fx_it hc hF
      refine lv_iconst (v := 0) hx hb d_Scopes_has_22 (by decide) ?_
      exact hend _ _ _ _ _ _ d_Scopes_has_23 hF hw
    · have hF := fx_if hc hF
      refine lv_iload_n hx hb d_Scopes_has_12 rfl (lv_at hl 1 rfl) ?_
      refine lv_bipush (v := 30) hx hb d_Scopes_has_13 (by decide) ?_
      refine lv_icmp_ge (tgt := 22) hx hb d_Scopes_has_15 (by decide) (fun hc => ?_) (fun hc => ?_)
      · have hF := fx_it hc hF
        refine lv_iconst (v := 0) hx hb d_Scopes_has_22 (by decide) ?_
        exact hend _ _ _ _ _ _ d_Scopes_has_23 hF hw
      · have hF := fx_if hc hF
        refine lv_iconst (v := 1) hx hb d_Scopes_has_18 (by decide) ?_
        refine lv_goto (tgt := 23) hx hb d_Scopes_has_19 (by decide) ?_
        exact hend _ _ _ _ _ _ d_Scopes_has_23 hF hw
section
variable {p : Program} {l : Launch} {e : Env} {R : Room} {s : State} {m : MethodId} {args : Array Value} {below : List Frame} {meth : Method} {c : Code} {H : Heap} {locs : List Loc} {cells slots : Nat} {Q : State → Prop}
variable {cc : ByteArray} {pc nL ix : Nat} {ls : Array Slot} {rest : List Value} {own : String} {D : va_G} {A : Nat → Prop} {h : Nat → Nat} {cA : Nat → ClassId} {σ : fx_S} {β : Type} {res : β × fx_S}
theorem k_Scopes_has {v1 : Int32} (X : fx_X p m c cc nL s args own D fx_cl (fx_tys cA) fx_g fx_G A) (hw : fx_B D fx_cl (fx_ws h cA) A s.heap σ H locs) (lk : Cond.methodLink own ix y_Scopes_has ∈ fx_g) (hdg : decode cc pc = .ok (.invokevirtual ix, 3)) (hsize : ls.size = nL) (hW : 2 * (F0 m pc ls (.int v1 :: .ref (h 1) :: rest)).monitorRoom + (rest.map fun v => v.category).sum ≤ 8) (hR : 0 + 1 ≤ R.frames ∧ 8 + (2 + 11) + 0 ≤ R.locals) (hf : cells ≤ R.cells ∧ slots ≤ R.slots) {k : Int32 → fx_M β} (hF : fx_bnd (F_Scopes_has v1) k σ = some res) (kk : ∀ (r : Int32) (σ' : fx_S) (H' : Heap) (locs' : List Loc), k r σ' = some res → fx_B D fx_cl (fx_ws h cA) A s.heap σ' H' locs' → W p l e R s m args below meth c H' locs' cells slots Q (F0 m (pc + 3) ls (.int r :: rest))) : W p l e R s m args below meth c H locs cells slots Q (F0 m pc ls (.int v1 :: .ref (h 1) :: rest)) :=
  fx_call_i X hw (c_Scopes_has l D h cA v1) (fx_cwV X lk hg_Scopes_has fx_gok (rm := { frames := 0, cells := 0, slots := 0, locals := 0 }) rfl rfl (by decide +kernel) hR) (va_recv X.2.1 hw.1 (ci := 1) (q0 := 1) rfl rfl) (n := 1) rfl hdg hsize rfl hW hf hF kk
end
set_option maxHeartbeats 4000000 in
set_option maxRecDepth 100000 in
theorem c_Scopes_isFull (l : Launch) (D : va_G) (h : Nat → Nat) (cA : Nat → ClassId) : fx_Mi l y_Scopes_isFull b_Scopes_isFull 1 (some .boolean) { frames := 0, cells := 0, slots := 0, locals := 0 } D fx_cl (fx_tys cA) fx_g fx_G (fx_ws h cA) [.ref (h 1)] (F_Scopes_isFull) := by
  refine fx_start_z fx_G_ok (by decide) (Nat.le_of_ble_eq_true rfl) ?_
  intro p e s m args below meth c A ls σ res Q hF X hw hl hend
  have hx := X.1.1
  have hb := X.1.2.1
  have hl : lv_has ls 1 [(0, .ref (h 1))] := hl
  unfold F_Scopes_isFull at hF
  refine lv_aload_n hx hb d_Scopes_isFull_0 rfl (lv_at hl 0 rfl) ?_
  refine gI_Scopes_size X hw lk_Scopes_18 d_Scopes_isFull_1 hF (fun x1 hF => ?_)
  refine lv_bipush (v := 30) hx hb d_Scopes_isFull_4 (by decide) ?_
  refine lv_icmp_lt (tgt := 13) hx hb d_Scopes_isFull_6 (by decide) (fun hc => ?_) (fun hc => ?_)
  · have hF := fx_it hc hF
    refine lv_iconst (v := 0) hx hb d_Scopes_isFull_13 (by decide) ?_
    exact hend _ _ _ _ _ _ d_Scopes_isFull_14 hF hw
  · have hF := fx_if hc hF
    refine lv_iconst (v := 1) hx hb d_Scopes_isFull_9 (by decide) ?_
    refine lv_goto (tgt := 14) hx hb d_Scopes_isFull_10 (by decide) ?_
    exact hend _ _ _ _ _ _ d_Scopes_isFull_14 hF hw
section
variable {p : Program} {l : Launch} {e : Env} {R : Room} {s : State} {m : MethodId} {args : Array Value} {below : List Frame} {meth : Method} {c : Code} {H : Heap} {locs : List Loc} {cells slots : Nat} {Q : State → Prop}
variable {cc : ByteArray} {pc nL ix : Nat} {ls : Array Slot} {rest : List Value} {own : String} {D : va_G} {A : Nat → Prop} {h : Nat → Nat} {cA : Nat → ClassId} {σ : fx_S} {β : Type} {res : β × fx_S}
theorem k_Scopes_isFull (X : fx_X p m c cc nL s args own D fx_cl (fx_tys cA) fx_g fx_G A) (hw : fx_B D fx_cl (fx_ws h cA) A s.heap σ H locs) (lk : Cond.methodLink own ix y_Scopes_isFull ∈ fx_g) (hdg : decode cc pc = .ok (.invokevirtual ix, 3)) (hsize : ls.size = nL) (hW : 2 * (F0 m pc ls (.ref (h 1) :: rest)).monitorRoom + (rest.map fun v => v.category).sum ≤ 8) (hR : 0 + 1 ≤ R.frames ∧ 8 + (1 + 11) + 0 ≤ R.locals) (hf : cells ≤ R.cells ∧ slots ≤ R.slots) {k : Int32 → fx_M β} (hF : fx_bnd (F_Scopes_isFull) k σ = some res) (kk : ∀ (r : Int32) (σ' : fx_S) (H' : Heap) (locs' : List Loc), k r σ' = some res → fx_B D fx_cl (fx_ws h cA) A s.heap σ' H' locs' → W p l e R s m args below meth c H' locs' cells slots Q (F0 m (pc + 3) ls (.int r :: rest))) : W p l e R s m args below meth c H locs cells slots Q (F0 m pc ls (.ref (h 1) :: rest)) :=
  fx_call_i X hw (c_Scopes_isFull l D h cA) (fx_cwV X lk hg_Scopes_isFull fx_gok (rm := { frames := 0, cells := 0, slots := 0, locals := 0 }) rfl rfl (by decide +kernel) hR) (va_recv X.2.1 hw.1 (ci := 1) (q0 := 1) rfl rfl) (n := 0) rfl hdg hsize rfl hW hf hF kk
end
set_option maxHeartbeats 4000000 in
set_option maxRecDepth 100000 in
theorem c_Scopes_add (l : Launch) (D : va_G) (h : Nat → Nat) (cA : Nat → ClassId) (v1 : Int32) : fx_Mi l y_Scopes_add b_Scopes_add 3 (some .int) { frames := 1, cells := 0, slots := 0, locals := 20 } D fx_cl (fx_tys cA) fx_g fx_G (fx_ws h cA) [.ref (h 1), .int v1] (F_Scopes_add v1) := by
  refine fx_start_i fx_G_ok (by decide) (Nat.le_of_ble_eq_true rfl) ?_
  intro p e s m args below meth c A ls σ res Q hF X hw hl hend
  have hx := X.1.1
  have hb := X.1.2.1
  have hl : lv_has ls 3 [(0, .ref (h 1)), (1, .int v1)] := hl
  unfold F_Scopes_add at hF
  refine lv_aload_n hx hb d_Scopes_add_0 rfl (lv_at hl 0 rfl) ?_
  refine k_Scopes_isFull X hw lk_Scopes_22 d_Scopes_add_1 hl.1 (lv_room (Nat.le_of_ble_eq_true rfl)) ⟨Nat.le_of_ble_eq_true rfl, Nat.le_of_ble_eq_true rfl⟩ ⟨Nat.zero_le _, Nat.zero_le _⟩ hF (fun x1 σ H locs hF hw => ?_)
  refine lv_if_eq (tgt := 9) hx hb d_Scopes_add_4 (by decide) (fun hc => ?_) (fun hc => ?_)
  · have hF := fx_it hc hF
    refine lv_aload_n hx hb d_Scopes_add_9 rfl (lv_at hl 0 rfl) ?_
    refine gI_Scopes_size X hw lk_Scopes_18 d_Scopes_add_10 hF (fun x2 hF => ?_)
    refine lv_istore_n (lv' := [(2, .int x2), (0, .ref (h 1)), (1, .int v1)]) hx hb d_Scopes_add_13 rfl hl (by decide) rfl (fun ls hl => ?_)
    refine lv_aload_n hx hb d_Scopes_add_14 rfl (lv_at hl 1 rfl) ?_
    refine gR_Scopes_outers X hw lk_Scopes_9 d_Scopes_add_15 ?_
    refine lv_iload_n hx hb d_Scopes_add_18 rfl (lv_at hl 0 rfl) ?_
    refine lv_iload_n hx hb d_Scopes_add_19 rfl (lv_at hl 2 rfl) ?_
    refine sA_Scopes_outers X hw d_Scopes_add_20 hF (fun σ H locs hF hw => ?_)
    refine lv_aload_n hx hb d_Scopes_add_21 rfl (lv_at hl 1 rfl) ?_
    refine lv_dup hx hb d_Scopes_add_22 rfl ?_
    refine gI_Scopes_size X hw lk_Scopes_18 d_Scopes_add_23 hF (fun x3 hF => ?_)
    refine lv_iconst (v := 1) hx hb d_Scopes_add_26 (by decide) ?_
    refine lv_iadd hx hb d_Scopes_add_27 ?_
    refine pI_Scopes_size X hw lk_Scopes_18 d_Scopes_add_28 hF (fun σ H locs hF hw => ?_)
    refine lv_iload_n hx hb d_Scopes_add_31 rfl (lv_at hl 0 rfl) ?_
    exact hend _ _ _ _ _ _ d_Scopes_add_32 hF hw
  · have hF := fx_if hc hF
    refine lv_iconst (v := (-1)) hx hb d_Scopes_add_7 (by decide) ?_
    exact hend _ _ _ _ _ _ d_Scopes_add_8 hF hw
section
variable {p : Program} {l : Launch} {e : Env} {R : Room} {s : State} {m : MethodId} {args : Array Value} {below : List Frame} {meth : Method} {c : Code} {H : Heap} {locs : List Loc} {cells slots : Nat} {Q : State → Prop}
variable {cc : ByteArray} {pc nL ix : Nat} {ls : Array Slot} {rest : List Value} {own : String} {D : va_G} {A : Nat → Prop} {h : Nat → Nat} {cA : Nat → ClassId} {σ : fx_S} {β : Type} {res : β × fx_S}
theorem k_Scopes_add {v1 : Int32} (X : fx_X p m c cc nL s args own D fx_cl (fx_tys cA) fx_g fx_G A) (hw : fx_B D fx_cl (fx_ws h cA) A s.heap σ H locs) (lk : Cond.methodLink own ix y_Scopes_add ∈ fx_g) (hdg : decode cc pc = .ok (.invokevirtual ix, 3)) (hsize : ls.size = nL) (hW : 2 * (F0 m pc ls (.int v1 :: .ref (h 1) :: rest)).monitorRoom + (rest.map fun v => v.category).sum ≤ 8) (hR : 1 + 1 ≤ R.frames ∧ 8 + (3 + 11) + 20 ≤ R.locals) (hf : cells ≤ R.cells ∧ slots ≤ R.slots) {k : Int32 → fx_M β} (hF : fx_bnd (F_Scopes_add v1) k σ = some res) (kk : ∀ (r : Int32) (σ' : fx_S) (H' : Heap) (locs' : List Loc), k r σ' = some res → fx_B D fx_cl (fx_ws h cA) A s.heap σ' H' locs' → W p l e R s m args below meth c H' locs' cells slots Q (F0 m (pc + 3) ls (.int r :: rest))) : W p l e R s m args below meth c H locs cells slots Q (F0 m pc ls (.int v1 :: .ref (h 1) :: rest)) :=
  fx_call_i X hw (c_Scopes_add l D h cA v1) (fx_cwV X lk hg_Scopes_add fx_gok (rm := { frames := 1, cells := 0, slots := 0, locals := 20 }) rfl rfl (by decide +kernel) hR) (va_recv X.2.1 hw.1 (ci := 1) (q0 := 1) rfl rfl) (n := 1) rfl hdg hsize rfl hW hf hF kk
end
set_option maxHeartbeats 4000000 in
set_option maxRecDepth 100000 in
theorem c_FixityTrees_isOperator (l : Launch) (D : va_G) (h : Nat → Nat) (cA : Nat → ClassId) (v0 : Int32) : fx_Mi l y_FixityTrees_isOperator b_FixityTrees_isOperator 1 (some .boolean) { frames := 0, cells := 0, slots := 0, locals := 0 } D fx_cl (fx_tys cA) fx_g fx_G (fx_ws h cA) [.int v0] (F_FixityTrees_isOperator v0) := by
  refine fx_start_z fx_G_ok (by decide) (Nat.le_of_ble_eq_true rfl) ?_
  intro p e s m args below meth c A ls σ res Q hF X hw hl hend
  have hx := X.1.1
  have hb := X.1.2.1
  have hl : lv_has ls 1 [(0, .int v0)] := hl
  unfold F_FixityTrees_isOperator at hF
  refine lv_iload_n hx hb d_FixityTrees_isOperator_0 rfl (lv_at hl 0 rfl) ?_
  refine lv_if_lt (tgt := 14) hx hb d_FixityTrees_isOperator_1 (by decide) (fun hc => ?_) (fun hc => ?_)
  · have hF := fx_it hc hF
    refine lv_iconst (v := 0) hx hb d_FixityTrees_isOperator_14 (by decide) ?_
    exact hend _ _ _ _ _ _ d_FixityTrees_isOperator_15 hF hw
  · have hF := fx_if hc hF
    refine lv_iload_n hx hb d_FixityTrees_isOperator_4 rfl (lv_at hl 0 rfl) ?_
    refine lv_bipush (v := 41) hx hb d_FixityTrees_isOperator_5 (by decide) ?_
    refine lv_icmp_ge (tgt := 14) hx hb d_FixityTrees_isOperator_7 (by decide) (fun hc => ?_) (fun hc => ?_)
    · have hF := fx_it hc hF
      refine lv_iconst (v := 0) hx hb d_FixityTrees_isOperator_14 (by decide) ?_
      exact hend _ _ _ _ _ _ d_FixityTrees_isOperator_15 hF hw
    · have hF := fx_if hc hF
      refine lv_iconst (v := 1) hx hb d_FixityTrees_isOperator_10 (by decide) ?_
      refine lv_goto (tgt := 15) hx hb d_FixityTrees_isOperator_11 (by decide) ?_
      exact hend _ _ _ _ _ _ d_FixityTrees_isOperator_15 hF hw
section
variable {p : Program} {l : Launch} {e : Env} {R : Room} {s : State} {m : MethodId} {args : Array Value} {below : List Frame} {meth : Method} {c : Code} {H : Heap} {locs : List Loc} {cells slots : Nat} {Q : State → Prop}
variable {cc : ByteArray} {pc nL ix : Nat} {ls : Array Slot} {rest : List Value} {own : String} {D : va_G} {A : Nat → Prop} {h : Nat → Nat} {cA : Nat → ClassId} {σ : fx_S} {β : Type} {res : β × fx_S}
theorem kN_FixityTrees_isOperator {v0 : Int32} (X : fx_X p m c cc nL s args own D fx_cl (fx_tys cA) fx_g fx_G A) (hw : fx_B D fx_cl (fx_ws h cA) A s.heap σ H locs) {host : String} (lk : va_Nw (.methodLinkNest own ix y_FixityTrees_isOperator host) s) (hdg : decode cc pc = .ok (.invokestatic ix, 3)) (hsize : ls.size = nL) (hW : 2 * (F0 m pc ls (.int v0 :: rest)).monitorRoom + (rest.map fun v => v.category).sum ≤ 8) (hR : 0 + 1 ≤ R.frames ∧ 8 + (1 + 11) + 0 ≤ R.locals) (hf : cells ≤ R.cells ∧ slots ≤ R.slots) {k : Int32 → fx_M β} (hF : fx_bnd (F_FixityTrees_isOperator v0) k σ = some res) (kk : ∀ (r : Int32) (σ' : fx_S) (H' : Heap) (locs' : List Loc), k r σ' = some res → fx_B D fx_cl (fx_ws h cA) A s.heap σ' H' locs' → W p l e R s m args below meth c H' locs' cells slots Q (F0 m (pc + 3) ls (.int r :: rest))) : W p l e R s m args below meth c H locs cells slots Q (F0 m pc ls (.int v0 :: rest)) :=
  fx_callN_i X hw (c_FixityTrees_isOperator l D h cA v0) (fx_cwN X lk hg_FixityTrees_isOperator fx_gok (rm := { frames := 0, cells := 0, slots := 0, locals := 0 }) rfl rfl (by decide +kernel) hR) (n := 1) rfl hdg hsize rfl hW hf hF kk
theorem k_FixityTrees_isOperator {v0 : Int32} (X : fx_X p m c cc nL s args own D fx_cl (fx_tys cA) fx_g fx_G A) (hw : fx_B D fx_cl (fx_ws h cA) A s.heap σ H locs) (lk : Cond.methodLink own ix y_FixityTrees_isOperator ∈ fx_g) (hdg : decode cc pc = .ok (.invokestatic ix, 3)) (hsize : ls.size = nL) (hW : 2 * (F0 m pc ls (.int v0 :: rest)).monitorRoom + (rest.map fun v => v.category).sum ≤ 8) (hR : 0 + 1 ≤ R.frames ∧ 8 + (1 + 11) + 0 ≤ R.locals) (hf : cells ≤ R.cells ∧ slots ≤ R.slots) {k : Int32 → fx_M β} (hF : fx_bnd (F_FixityTrees_isOperator v0) k σ = some res) (kk : ∀ (r : Int32) (σ' : fx_S) (H' : Heap) (locs' : List Loc), k r σ' = some res → fx_B D fx_cl (fx_ws h cA) A s.heap σ' H' locs' → W p l e R s m args below meth c H' locs' cells slots Q (F0 m (pc + 3) ls (.int r :: rest))) : W p l e R s m args below meth c H locs cells slots Q (F0 m pc ls (.int v0 :: rest)) :=
  fx_calls_i X hw (c_FixityTrees_isOperator l D h cA v0) (fx_cwS X lk hg_FixityTrees_isOperator fx_gok (rm := { frames := 0, cells := 0, slots := 0, locals := 0 }) rfl rfl (by decide +kernel) hR) (n := 1) rfl hdg hsize rfl hW hf hF kk
end
set_option maxHeartbeats 4000000 in
set_option maxRecDepth 100000 in
theorem c_Scopes_codeAt (l : Launch) (D : va_G) (h : Nat → Nat) (cA : Nat → ClassId) (v1 : Int32) (v2 : Int32) : fx_Mi l y_Scopes_codeAt b_Scopes_codeAt 3 (some .int) { frames := 1, cells := 0, slots := 0, locals := 21 } D fx_cl (fx_tys cA) fx_g fx_G (fx_ws h cA) [.ref (h 1), .int v1, .int v2] (F_Scopes_codeAt v1 v2) := by
  refine fx_start_i fx_G_ok (by decide) (Nat.le_of_ble_eq_true rfl) ?_
  intro p e s m args below meth c A ls σ res Q hF X hw hl hend
  have hx := X.1.1
  have hb := X.1.2.1
  have hl : lv_has ls 3 [(0, .ref (h 1)), (1, .int v1), (2, .int v2)] := hl
  unfold F_Scopes_codeAt at hF
  refine lv_aload_n hx hb d_Scopes_codeAt_0 rfl (lv_at hl 0 rfl) ?_
  refine lv_iload_n hx hb d_Scopes_codeAt_1 rfl (lv_at hl 1 rfl) ?_
  refine k_Scopes_has X hw lk_Scopes_26 d_Scopes_codeAt_2 hl.1 (lv_room (Nat.le_of_ble_eq_true rfl)) ⟨Nat.le_of_ble_eq_true rfl, Nat.le_of_ble_eq_true rfl⟩ ⟨Nat.zero_le _, Nat.zero_le _⟩ hF (fun x1 σ H locs hF hw => ?_)
  refine lv_if_eq (tgt := 29) hx hb d_Scopes_codeAt_5 (by decide) (fun hc => ?_) (fun hc => ?_)
  · have hF := fx_it hc hF
    refine lv_iconst (v := 0) hx hb d_Scopes_codeAt_29 (by decide) ?_
    exact hend _ _ _ _ _ _ d_Scopes_codeAt_30 hF hw
  · have hF := fx_if hc hF
    refine lv_iload_n hx hb d_Scopes_codeAt_8 rfl (lv_at hl 2 rfl) ?_
    refine kN_FixityTrees_isOperator X hw (nk_Scopes_30 X.2.2.2.2) d_Scopes_codeAt_9 hl.1 (lv_room (Nat.le_of_ble_eq_true rfl)) ⟨Nat.le_of_ble_eq_true rfl, Nat.le_of_ble_eq_true rfl⟩ ⟨Nat.zero_le _, Nat.zero_le _⟩ hF (fun x2 σ H locs hF hw => ?_)
    refine lv_if_eq (tgt := 29) hx hb d_Scopes_codeAt_12 (by decide) (fun hc => ?_) (fun hc => ?_)
    · have hF := fx_it hc hF
      refine lv_iconst (v := 0) hx hb d_Scopes_codeAt_29 (by decide) ?_
      exact hend _ _ _ _ _ _ d_Scopes_codeAt_30 hF hw
    · have hF := fx_if hc hF
      refine lv_aload_n hx hb d_Scopes_codeAt_15 rfl (lv_at hl 0 rfl) ?_
      refine gR_Scopes_codes X hw lk_Scopes_15 d_Scopes_codeAt_16 ?_
      refine lv_iload_n hx hb d_Scopes_codeAt_19 rfl (lv_at hl 1 rfl) ?_
      refine lv_bipush (v := 41) hx hb d_Scopes_codeAt_20 (by decide) ?_
      refine lv_imul hx hb d_Scopes_codeAt_22 ?_
      refine lv_iload_n hx hb d_Scopes_codeAt_23 rfl (lv_at hl 2 rfl) ?_
      refine lv_iadd hx hb d_Scopes_codeAt_24 ?_
      refine lA_Scopes_codes X hw d_Scopes_codeAt_25 hF (fun x3 hF => ?_)
      refine lv_goto (tgt := 30) hx hb d_Scopes_codeAt_26 (by decide) ?_
      exact hend _ _ _ _ _ _ d_Scopes_codeAt_30 hF hw
section
variable {p : Program} {l : Launch} {e : Env} {R : Room} {s : State} {m : MethodId} {args : Array Value} {below : List Frame} {meth : Method} {c : Code} {H : Heap} {locs : List Loc} {cells slots : Nat} {Q : State → Prop}
variable {cc : ByteArray} {pc nL ix : Nat} {ls : Array Slot} {rest : List Value} {own : String} {D : va_G} {A : Nat → Prop} {h : Nat → Nat} {cA : Nat → ClassId} {σ : fx_S} {β : Type} {res : β × fx_S}
theorem k_Scopes_codeAt {v1 : Int32} {v2 : Int32} (X : fx_X p m c cc nL s args own D fx_cl (fx_tys cA) fx_g fx_G A) (hw : fx_B D fx_cl (fx_ws h cA) A s.heap σ H locs) (lk : Cond.methodLink own ix y_Scopes_codeAt ∈ fx_g) (hdg : decode cc pc = .ok (.invokevirtual ix, 3)) (hsize : ls.size = nL) (hW : 2 * (F0 m pc ls (.int v2 :: .int v1 :: .ref (h 1) :: rest)).monitorRoom + (rest.map fun v => v.category).sum ≤ 8) (hR : 1 + 1 ≤ R.frames ∧ 8 + (3 + 11) + 21 ≤ R.locals) (hf : cells ≤ R.cells ∧ slots ≤ R.slots) {k : Int32 → fx_M β} (hF : fx_bnd (F_Scopes_codeAt v1 v2) k σ = some res) (kk : ∀ (r : Int32) (σ' : fx_S) (H' : Heap) (locs' : List Loc), k r σ' = some res → fx_B D fx_cl (fx_ws h cA) A s.heap σ' H' locs' → W p l e R s m args below meth c H' locs' cells slots Q (F0 m (pc + 3) ls (.int r :: rest))) : W p l e R s m args below meth c H locs cells slots Q (F0 m pc ls (.int v2 :: .int v1 :: .ref (h 1) :: rest)) :=
  fx_call_i X hw (c_Scopes_codeAt l D h cA v1 v2) (fx_cwV X lk hg_Scopes_codeAt fx_gok (rm := { frames := 1, cells := 0, slots := 0, locals := 21 }) rfl rfl (by decide +kernel) hR) (va_recv X.2.1 hw.1 (ci := 1) (q0 := 1) rfl rfl) (n := 2) rfl hdg hsize rfl hW hf hF kk
end
set_option maxHeartbeats 4000000 in
set_option maxRecDepth 100000 in
theorem c_Scopes_tells (l : Launch) (D : va_G) (h : Nat → Nat) (cA : Nat → ClassId) (v1 : Int32) (v2 : Int32) : fx_Mi l y_Scopes_tells b_Scopes_tells 3 (some .boolean) { frames := 2, cells := 0, slots := 0, locals := 43 } D fx_cl (fx_tys cA) fx_g fx_G (fx_ws h cA) [.ref (h 1), .int v1, .int v2] (F_Scopes_tells v1 v2) := by
  refine fx_start_z fx_G_ok (by decide) (Nat.le_of_ble_eq_true rfl) ?_
  intro p e s m args below meth c A ls σ res Q hF X hw hl hend
  have hx := X.1.1
  have hb := X.1.2.1
  have hl : lv_has ls 3 [(0, .ref (h 1)), (1, .int v1), (2, .int v2)] := hl
  unfold F_Scopes_tells at hF
  refine lv_aload_n hx hb d_Scopes_tells_0 rfl (lv_at hl 0 rfl) ?_
  refine lv_iload_n hx hb d_Scopes_tells_1 rfl (lv_at hl 1 rfl) ?_
  refine lv_iload_n hx hb d_Scopes_tells_2 rfl (lv_at hl 2 rfl) ?_
  refine k_Scopes_codeAt X hw lk_Scopes_33 d_Scopes_tells_3 hl.1 (lv_room (Nat.le_of_ble_eq_true rfl)) ⟨Nat.le_of_ble_eq_true rfl, Nat.le_of_ble_eq_true rfl⟩ ⟨Nat.zero_le _, Nat.zero_le _⟩ hF (fun x1 σ H locs hF hw => ?_)
  refine lv_if_eq (tgt := 13) hx hb d_Scopes_tells_6 (by decide) (fun hc => ?_) (fun hc => ?_)
  · have hF := fx_it hc hF
    refine lv_iconst (v := 0) hx hb d_Scopes_tells_13 (by decide) ?_
    exact hend _ _ _ _ _ _ d_Scopes_tells_14 hF hw
  · have hF := fx_if hc hF
    refine lv_iconst (v := 1) hx hb d_Scopes_tells_9 (by decide) ?_
    refine lv_goto (tgt := 14) hx hb d_Scopes_tells_10 (by decide) ?_
    exact hend _ _ _ _ _ _ d_Scopes_tells_14 hF hw
section
variable {p : Program} {l : Launch} {e : Env} {R : Room} {s : State} {m : MethodId} {args : Array Value} {below : List Frame} {meth : Method} {c : Code} {H : Heap} {locs : List Loc} {cells slots : Nat} {Q : State → Prop}
variable {cc : ByteArray} {pc nL ix : Nat} {ls : Array Slot} {rest : List Value} {own : String} {D : va_G} {A : Nat → Prop} {h : Nat → Nat} {cA : Nat → ClassId} {σ : fx_S} {β : Type} {res : β × fx_S}
theorem k_Scopes_tells {v1 : Int32} {v2 : Int32} (X : fx_X p m c cc nL s args own D fx_cl (fx_tys cA) fx_g fx_G A) (hw : fx_B D fx_cl (fx_ws h cA) A s.heap σ H locs) (lk : Cond.methodLink own ix y_Scopes_tells ∈ fx_g) (hdg : decode cc pc = .ok (.invokevirtual ix, 3)) (hsize : ls.size = nL) (hW : 2 * (F0 m pc ls (.int v2 :: .int v1 :: .ref (h 1) :: rest)).monitorRoom + (rest.map fun v => v.category).sum ≤ 8) (hR : 2 + 1 ≤ R.frames ∧ 8 + (3 + 11) + 43 ≤ R.locals) (hf : cells ≤ R.cells ∧ slots ≤ R.slots) {k : Int32 → fx_M β} (hF : fx_bnd (F_Scopes_tells v1 v2) k σ = some res) (kk : ∀ (r : Int32) (σ' : fx_S) (H' : Heap) (locs' : List Loc), k r σ' = some res → fx_B D fx_cl (fx_ws h cA) A s.heap σ' H' locs' → W p l e R s m args below meth c H' locs' cells slots Q (F0 m (pc + 3) ls (.int r :: rest))) : W p l e R s m args below meth c H locs cells slots Q (F0 m pc ls (.int v2 :: .int v1 :: .ref (h 1) :: rest)) :=
  fx_call_i X hw (c_Scopes_tells l D h cA v1 v2) (fx_cwV X lk hg_Scopes_tells fx_gok (rm := { frames := 2, cells := 0, slots := 0, locals := 43 }) rfl rfl (by decide +kernel) hR) (va_recv X.2.1 hw.1 (ci := 1) (q0 := 1) rfl rfl) (n := 2) rfl hdg hsize rfl hW hf hF kk
end
set_option maxHeartbeats 4000000 in
set_option maxRecDepth 100000 in
theorem c_Scopes_tell (l : Launch) (D : va_G) (h : Nat → Nat) (cA : Nat → ClassId) (v1 : Int32) (v2 : Int32) (v3 : Int32) (v4 : Int32) : fx_Mv l y_Scopes_tell b_Scopes_tell 5 none { frames := 1, cells := 0, slots := 0, locals := 21 } D fx_cl (fx_tys cA) fx_g fx_G (fx_ws h cA) [.ref (h 1), .int v1, .int v2, .int v3, .int v4] (F_Scopes_tell v1 v2 v3 v4) := by
  refine fx_start_v fx_G_ok (by decide) (Nat.le_of_ble_eq_true rfl) ?_
  intro p e s m args below meth c A ls σ res Q hF X hw hl hend
  have hx := X.1.1
  have hb := X.1.2.1
  have hl : lv_has ls 5 [(0, .ref (h 1)), (1, .int v1), (2, .int v2), (3, .int v3), (4, .int v4)] := hl
  unfold F_Scopes_tell at hF
  refine lv_aload_n hx hb d_Scopes_tell_0 rfl (lv_at hl 0 rfl) ?_
  refine lv_iload_n hx hb d_Scopes_tell_1 rfl (lv_at hl 1 rfl) ?_
  refine k_Scopes_has X hw lk_Scopes_26 d_Scopes_tell_2 hl.1 (lv_room (Nat.le_of_ble_eq_true rfl)) ⟨Nat.le_of_ble_eq_true rfl, Nat.le_of_ble_eq_true rfl⟩ ⟨Nat.zero_le _, Nat.zero_le _⟩ hF (fun x1 σ H locs hF hw => ?_)
  refine lv_if_eq (tgt := 35) hx hb d_Scopes_tell_5 (by decide) (fun hc => ?_) (fun hc => ?_)
  · have hF := fx_it hc hF
    exact hend _ _ _ _ _ d_Scopes_tell_35 hF hw
  · have hF := fx_if hc hF
    refine lv_iload_n hx hb d_Scopes_tell_8 rfl (lv_at hl 2 rfl) ?_
    refine kN_FixityTrees_isOperator X hw (nk_Scopes_30 X.2.2.2.2) d_Scopes_tell_9 hl.1 (lv_room (Nat.le_of_ble_eq_true rfl)) ⟨Nat.le_of_ble_eq_true rfl, Nat.le_of_ble_eq_true rfl⟩ ⟨Nat.zero_le _, Nat.zero_le _⟩ hF (fun x2 σ H locs hF hw => ?_)
    refine lv_if_eq (tgt := 35) hx hb d_Scopes_tell_12 (by decide) (fun hc => ?_) (fun hc => ?_)
    · have hF := fx_it hc hF
      exact hend _ _ _ _ _ d_Scopes_tell_35 hF hw
    · have hF := fx_if hc hF
      refine lv_aload_n hx hb d_Scopes_tell_15 rfl (lv_at hl 0 rfl) ?_
      refine gR_Scopes_codes X hw lk_Scopes_15 d_Scopes_tell_16 ?_
      refine lv_iload_n hx hb d_Scopes_tell_19 rfl (lv_at hl 1 rfl) ?_
      refine lv_bipush (v := 41) hx hb d_Scopes_tell_20 (by decide) ?_
      refine lv_imul hx hb d_Scopes_tell_22 ?_
      refine lv_iload_n hx hb d_Scopes_tell_23 rfl (lv_at hl 2 rfl) ?_
      refine lv_iadd hx hb d_Scopes_tell_24 ?_
      refine lv_iload_n hx hb d_Scopes_tell_25 rfl (lv_at hl 3 rfl) ?_
      refine lv_bipush (v := 10) hx hb d_Scopes_tell_26 (by decide) ?_
      refine lv_imul hx hb d_Scopes_tell_28 ?_
      refine lv_iload hx hb d_Scopes_tell_29 (lv_at hl 4 rfl) ?_
      refine lv_iadd hx hb d_Scopes_tell_31 ?_
      refine lv_iconst (v := 1) hx hb d_Scopes_tell_32 (by decide) ?_
      refine lv_iadd hx hb d_Scopes_tell_33 ?_
      refine sA_Scopes_codes X hw d_Scopes_tell_34 hF (fun σ H locs hF hw => ?_)
      exact hend _ _ _ _ _ d_Scopes_tell_35 hF hw
section
variable {p : Program} {l : Launch} {e : Env} {R : Room} {s : State} {m : MethodId} {args : Array Value} {below : List Frame} {meth : Method} {c : Code} {H : Heap} {locs : List Loc} {cells slots : Nat} {Q : State → Prop}
variable {cc : ByteArray} {pc nL ix : Nat} {ls : Array Slot} {rest : List Value} {own : String} {D : va_G} {A : Nat → Prop} {h : Nat → Nat} {cA : Nat → ClassId} {σ : fx_S} {β : Type} {res : β × fx_S}
theorem k_Scopes_tell {v1 : Int32} {v2 : Int32} {v3 : Int32} {v4 : Int32} (X : fx_X p m c cc nL s args own D fx_cl (fx_tys cA) fx_g fx_G A) (hw : fx_B D fx_cl (fx_ws h cA) A s.heap σ H locs) (lk : Cond.methodLink own ix y_Scopes_tell ∈ fx_g) (hdg : decode cc pc = .ok (.invokevirtual ix, 3)) (hsize : ls.size = nL) (hW : 2 * (F0 m pc ls (.int v4 :: .int v3 :: .int v2 :: .int v1 :: .ref (h 1) :: rest)).monitorRoom + (rest.map fun v => v.category).sum ≤ 8) (hR : 1 + 1 ≤ R.frames ∧ 8 + (5 + 11) + 21 ≤ R.locals) (hf : cells ≤ R.cells ∧ slots ≤ R.slots) {k : Unit → fx_M β} (hF : fx_bnd (F_Scopes_tell v1 v2 v3 v4) k σ = some res) (kk : ∀ (σ' : fx_S) (H' : Heap) (locs' : List Loc), k () σ' = some res → fx_B D fx_cl (fx_ws h cA) A s.heap σ' H' locs' → W p l e R s m args below meth c H' locs' cells slots Q (F0 m (pc + 3) ls rest)) : W p l e R s m args below meth c H locs cells slots Q (F0 m pc ls (.int v4 :: .int v3 :: .int v2 :: .int v1 :: .ref (h 1) :: rest)) :=
  fx_call_v X hw (c_Scopes_tell l D h cA v1 v2 v3 v4) (fx_cwV X lk hg_Scopes_tell fx_gok (rm := { frames := 1, cells := 0, slots := 0, locals := 21 }) rfl rfl (by decide +kernel) hR) (va_recv X.2.1 hw.1 (ci := 1) (q0 := 1) rfl rfl) (n := 4) rfl hdg hsize rfl hW hf hF kk
end
set_option maxHeartbeats 4000000 in
set_option maxRecDepth 100000 in
theorem c_Scopes_tellerOf (l : Launch) (D : va_G) (h : Nat → Nat) (cA : Nat → ClassId) (v1 : Int32) (v2 : Int32) : fx_Mi l y_Scopes_tellerOf b_Scopes_tellerOf 5 (some .int) { frames := 2, cells := 0, slots := 0, locals := 43 } D fx_cl (fx_tys cA) fx_g fx_G (fx_ws h cA) [.ref (h 1), .int v1, .int v2] (F_Scopes_tellerOf v1 v2) := by
  refine fx_start_i fx_G_ok (by decide) (Nat.le_of_ble_eq_true rfl) ?_
  intro p e s m args below meth c A ls σ res Q hF X hw hl hend
  have hx := X.1.1
  have hb := X.1.2.1
  have hl : lv_has ls 5 [(0, .ref (h 1)), (1, .int v1), (2, .int v2)] := hl
  unfold F_Scopes_tellerOf at hF
  have h5 : ∀ (n5 : Nat) (v2 : Int32) (v3 : Int32) (v4 : Int32) (σ : fx_S) (H : Heap) (locs : List Loc) (ls : Array Slot), fx_loop3 (F_Scopes_tellerOf_B5) n5 v2 v3 v4 σ = some res → fx_B D fx_cl (fx_ws h cA) A s.heap σ H locs → lv_has ls 5 [(0, .ref (h 1)), (2, .int v2), (3, .int v3), (4, .int v4)] → W p l e { frames := 2, cells := 0, slots := 0, locals := 43 } s m args below meth c H locs 0 0 Q (F0 m 5 ls []) := by
    intro n5
    induction n5 with
    | zero => intro v2 v3 v4 σ H locs ls hF; cases hF
    | succ n5 ih5 =>
      obtain ⟨K5, eK5⟩ : ∃ K, K = fx_loop3 (F_Scopes_tellerOf_B5) n5 := ⟨_, rfl⟩
      rw [← eK5] at ih5
      intro v2 v3 v4 σ H locs ls hF hw hl
      replace hF : F_Scopes_tellerOf_B5 (fx_loop3 (F_Scopes_tellerOf_B5) n5) v2 v3 v4 σ = some res := hF
      rw [← eK5] at hF
      unfold F_Scopes_tellerOf_B5 at hF
      refine lv_iload hx hb d_Scopes_tellerOf_5 (lv_at hl 3 rfl) ?_
      refine lv_bipush (v := 30) hx hb d_Scopes_tellerOf_7 (by decide) ?_
      refine lv_icmp_ge (tgt := 44) hx hb d_Scopes_tellerOf_9 (by decide) (fun hc => ?_) (fun hc => ?_)
      · have hF := fx_it hc hF
        refine lv_iconst (v := (-1)) hx hb d_Scopes_tellerOf_44 (by decide) ?_
        exact hend _ _ _ _ _ _ d_Scopes_tellerOf_45 hF hw
      · have hF := fx_if hc hF
        refine lv_aload_n hx hb d_Scopes_tellerOf_12 rfl (lv_at hl 0 rfl) ?_
        refine lv_iload_n hx hb d_Scopes_tellerOf_13 rfl (lv_at hl 2 rfl) ?_
        refine k_Scopes_has X hw lk_Scopes_26 d_Scopes_tellerOf_14 hl.1 (lv_room (Nat.le_of_ble_eq_true rfl)) ⟨Nat.le_of_ble_eq_true rfl, Nat.le_of_ble_eq_true rfl⟩ ⟨Nat.zero_le _, Nat.zero_le _⟩ hF (fun x1 σ H locs hF hw => ?_)
        refine lv_if_eq (tgt := 44) hx hb d_Scopes_tellerOf_17 (by decide) (fun hc => ?_) (fun hc => ?_)
        · have hF := fx_it hc hF
          refine lv_iconst (v := (-1)) hx hb d_Scopes_tellerOf_44 (by decide) ?_
          exact hend _ _ _ _ _ _ d_Scopes_tellerOf_45 hF hw
        · have hF := fx_if hc hF
          refine lv_aload_n hx hb d_Scopes_tellerOf_20 rfl (lv_at hl 0 rfl) ?_
          refine lv_iload_n hx hb d_Scopes_tellerOf_21 rfl (lv_at hl 2 rfl) ?_
          refine lv_iload_n hx hb d_Scopes_tellerOf_22 rfl (lv_at hl 1 rfl) ?_
          refine k_Scopes_codeAt X hw lk_Scopes_33 d_Scopes_tellerOf_23 hl.1 (lv_room (Nat.le_of_ble_eq_true rfl)) ⟨Nat.le_of_ble_eq_true rfl, Nat.le_of_ble_eq_true rfl⟩ ⟨Nat.zero_le _, Nat.zero_le _⟩ hF (fun x2 σ H locs hF hw => ?_)
          refine lv_if_eq (tgt := 31) hx hb d_Scopes_tellerOf_26 (by decide) (fun hc => ?_) (fun hc => ?_)
          · have hF := fx_it hc hF
            refine lv_aload_n hx hb d_Scopes_tellerOf_31 rfl (lv_at hl 0 rfl) ?_
            refine gR_Scopes_outers X hw lk_Scopes_9 d_Scopes_tellerOf_32 ?_
            refine lv_iload_n hx hb d_Scopes_tellerOf_35 rfl (lv_at hl 2 rfl) ?_
            refine lA_Scopes_outers X hw d_Scopes_tellerOf_36 hF (fun x3 hF => ?_)
            refine lv_istore_n (lv' := [(3, .int x3), (0, .ref (h 1)), (2, .int v2), (4, .int v4)]) hx hb d_Scopes_tellerOf_37 rfl hl (by decide) rfl (fun ls hl => ?_)
            refine fx_iinc (lv' := fun x4 => [(4, .int x4), (3, .int x3), (0, .ref (h 1)), (2, .int v2)]) hx hb d_Scopes_tellerOf_38 hl (k := 3) rfl rfl (by decide) (fun _ => rfl) hF (fun x4 ls hF hl => ?_)
            refine lv_goto (tgt := 5) hx hb d_Scopes_tellerOf_41 (by decide) ?_
            exact ih5 v2 x3 x4 _ _ _ _ hF hw (lv_sub hl [2, 3, 1, 0] rfl)
          · have hF := fx_if hc hF
            refine lv_iload_n hx hb d_Scopes_tellerOf_29 rfl (lv_at hl 2 rfl) ?_
            exact hend _ _ _ _ _ _ d_Scopes_tellerOf_30 hF hw
  refine lv_iload_n hx hb d_Scopes_tellerOf_0 rfl (lv_at hl 1 rfl) ?_
  refine lv_istore_n (lv' := [(3, .int v1), (0, .ref (h 1)), (1, .int v1), (2, .int v2)]) hx hb d_Scopes_tellerOf_1 rfl hl (by decide) rfl (fun ls hl => ?_)
  refine lv_iconst (v := 0) hx hb d_Scopes_tellerOf_2 (by decide) ?_
  refine lv_istore (lv' := [(4, .int 0), (3, .int v1), (0, .ref (h 1)), (1, .int v1), (2, .int v2)]) hx hb d_Scopes_tellerOf_3 hl (by decide) rfl (fun ls hl => ?_)
  exact h5 fx_fuel v2 v1 0 _ _ _ _ hF hw (lv_sub hl [2, 4, 1, 0] rfl)
section
variable {p : Program} {l : Launch} {e : Env} {R : Room} {s : State} {m : MethodId} {args : Array Value} {below : List Frame} {meth : Method} {c : Code} {H : Heap} {locs : List Loc} {cells slots : Nat} {Q : State → Prop}
variable {cc : ByteArray} {pc nL ix : Nat} {ls : Array Slot} {rest : List Value} {own : String} {D : va_G} {A : Nat → Prop} {h : Nat → Nat} {cA : Nat → ClassId} {σ : fx_S} {β : Type} {res : β × fx_S}
theorem k_Scopes_tellerOf {v1 : Int32} {v2 : Int32} (X : fx_X p m c cc nL s args own D fx_cl (fx_tys cA) fx_g fx_G A) (hw : fx_B D fx_cl (fx_ws h cA) A s.heap σ H locs) (lk : Cond.methodLink own ix y_Scopes_tellerOf ∈ fx_g) (hdg : decode cc pc = .ok (.invokevirtual ix, 3)) (hsize : ls.size = nL) (hW : 2 * (F0 m pc ls (.int v2 :: .int v1 :: .ref (h 1) :: rest)).monitorRoom + (rest.map fun v => v.category).sum ≤ 8) (hR : 2 + 1 ≤ R.frames ∧ 8 + (5 + 11) + 43 ≤ R.locals) (hf : cells ≤ R.cells ∧ slots ≤ R.slots) {k : Int32 → fx_M β} (hF : fx_bnd (F_Scopes_tellerOf v1 v2) k σ = some res) (kk : ∀ (r : Int32) (σ' : fx_S) (H' : Heap) (locs' : List Loc), k r σ' = some res → fx_B D fx_cl (fx_ws h cA) A s.heap σ' H' locs' → W p l e R s m args below meth c H' locs' cells slots Q (F0 m (pc + 3) ls (.int r :: rest))) : W p l e R s m args below meth c H locs cells slots Q (F0 m pc ls (.int v2 :: .int v1 :: .ref (h 1) :: rest)) :=
  fx_call_i X hw (c_Scopes_tellerOf l D h cA v1 v2) (fx_cwV X lk hg_Scopes_tellerOf fx_gok (rm := { frames := 2, cells := 0, slots := 0, locals := 43 }) rfl rfl (by decide +kernel) hR) (va_recv X.2.1 hw.1 (ci := 1) (q0 := 1) rfl rfl) (n := 2) rfl hdg hsize rfl hW hf hF kk
end
set_option maxHeartbeats 4000000 in
set_option maxRecDepth 100000 in
theorem c_Scopes_sideOf (l : Launch) (D : va_G) (h : Nat → Nat) (cA : Nat → ClassId) (v1 : Int32) (v2 : Int32) : fx_Mi l y_Scopes_sideOf b_Scopes_sideOf 4 (some .int) { frames := 3, cells := 0, slots := 0, locals := 67 } D fx_cl (fx_tys cA) fx_g fx_G (fx_ws h cA) [.ref (h 1), .int v1, .int v2] (F_Scopes_sideOf v1 v2) := by
  refine fx_start_i fx_G_ok (by decide) (Nat.le_of_ble_eq_true rfl) ?_
  intro p e s m args below meth c A ls σ res Q hF X hw hl hend
  have hx := X.1.1
  have hb := X.1.2.1
  have hl : lv_has ls 4 [(0, .ref (h 1)), (1, .int v1), (2, .int v2)] := hl
  unfold F_Scopes_sideOf at hF
  refine lv_aload_n hx hb d_Scopes_sideOf_0 rfl (lv_at hl 0 rfl) ?_
  refine lv_aload_n hx hb d_Scopes_sideOf_1 rfl (lv_at hl 0 rfl) ?_
  refine lv_iload_n hx hb d_Scopes_sideOf_2 rfl (lv_at hl 1 rfl) ?_
  refine lv_iload_n hx hb d_Scopes_sideOf_3 rfl (lv_at hl 2 rfl) ?_
  refine k_Scopes_tellerOf X hw lk_Scopes_37 d_Scopes_sideOf_4 hl.1 (lv_room (Nat.le_of_ble_eq_true rfl)) ⟨Nat.le_of_ble_eq_true rfl, Nat.le_of_ble_eq_true rfl⟩ ⟨Nat.zero_le _, Nat.zero_le _⟩ hF (fun x1 σ H locs hF hw => ?_)
  refine lv_iload_n hx hb d_Scopes_sideOf_7 rfl (lv_at hl 2 rfl) ?_
  refine k_Scopes_codeAt X hw lk_Scopes_33 d_Scopes_sideOf_8 hl.1 (lv_room (Nat.le_of_ble_eq_true rfl)) ⟨Nat.le_of_ble_eq_true rfl, Nat.le_of_ble_eq_true rfl⟩ ⟨Nat.zero_le _, Nat.zero_le _⟩ hF (fun x2 σ H locs hF hw => ?_)
  refine lv_istore_n (lv' := [(3, .int x2), (0, .ref (h 1)), (1, .int v1), (2, .int v2)]) hx hb d_Scopes_sideOf_11 rfl hl (by decide) rfl (fun ls hl => ?_)
  refine lv_iload_n hx hb d_Scopes_sideOf_12 rfl (lv_at hl 0 rfl) ?_
  refine lv_if_ne (tgt := 20) hx hb d_Scopes_sideOf_13 (by decide) (fun hc => ?_) (fun hc => ?_)
  · have hF := fx_if hc hF
    refine lv_iload_n hx hb d_Scopes_sideOf_20 rfl (lv_at hl 0 rfl) ?_
    refine lv_iconst (v := 1) hx hb d_Scopes_sideOf_21 (by decide) ?_
    refine lv_isub hx hb d_Scopes_sideOf_22 ?_
    refine lv_bipush (v := 10) hx hb d_Scopes_sideOf_23 (by decide) ?_
    refine lv_idiv hx hb d_Scopes_sideOf_25 (by decide) ?_
    exact hend _ _ _ _ _ _ d_Scopes_sideOf_26 hF hw
  · have hF := fx_it hc hF
    refine lv_iconst (v := 0) hx hb d_Scopes_sideOf_16 (by decide) ?_
    refine lv_goto (tgt := 26) hx hb d_Scopes_sideOf_17 (by decide) ?_
    exact hend _ _ _ _ _ _ d_Scopes_sideOf_26 hF hw
section
variable {p : Program} {l : Launch} {e : Env} {R : Room} {s : State} {m : MethodId} {args : Array Value} {below : List Frame} {meth : Method} {c : Code} {H : Heap} {locs : List Loc} {cells slots : Nat} {Q : State → Prop}
variable {cc : ByteArray} {pc nL ix : Nat} {ls : Array Slot} {rest : List Value} {own : String} {D : va_G} {A : Nat → Prop} {h : Nat → Nat} {cA : Nat → ClassId} {σ : fx_S} {β : Type} {res : β × fx_S}
theorem k_Scopes_sideOf {v1 : Int32} {v2 : Int32} (X : fx_X p m c cc nL s args own D fx_cl (fx_tys cA) fx_g fx_G A) (hw : fx_B D fx_cl (fx_ws h cA) A s.heap σ H locs) (lk : Cond.methodLink own ix y_Scopes_sideOf ∈ fx_g) (hdg : decode cc pc = .ok (.invokevirtual ix, 3)) (hsize : ls.size = nL) (hW : 2 * (F0 m pc ls (.int v2 :: .int v1 :: .ref (h 1) :: rest)).monitorRoom + (rest.map fun v => v.category).sum ≤ 8) (hR : 3 + 1 ≤ R.frames ∧ 8 + (4 + 11) + 67 ≤ R.locals) (hf : cells ≤ R.cells ∧ slots ≤ R.slots) {k : Int32 → fx_M β} (hF : fx_bnd (F_Scopes_sideOf v1 v2) k σ = some res) (kk : ∀ (r : Int32) (σ' : fx_S) (H' : Heap) (locs' : List Loc), k r σ' = some res → fx_B D fx_cl (fx_ws h cA) A s.heap σ' H' locs' → W p l e R s m args below meth c H' locs' cells slots Q (F0 m (pc + 3) ls (.int r :: rest))) : W p l e R s m args below meth c H locs cells slots Q (F0 m pc ls (.int v2 :: .int v1 :: .ref (h 1) :: rest)) :=
  fx_call_i X hw (c_Scopes_sideOf l D h cA v1 v2) (fx_cwV X lk hg_Scopes_sideOf fx_gok (rm := { frames := 3, cells := 0, slots := 0, locals := 67 }) rfl rfl (by decide +kernel) hR) (va_recv X.2.1 hw.1 (ci := 1) (q0 := 1) rfl rfl) (n := 2) rfl hdg hsize rfl hW hf hF kk
end
set_option maxHeartbeats 4000000 in
set_option maxRecDepth 100000 in
theorem c_Scopes_rankOf (l : Launch) (D : va_G) (h : Nat → Nat) (cA : Nat → ClassId) (v1 : Int32) (v2 : Int32) : fx_Mi l y_Scopes_rankOf b_Scopes_rankOf 4 (some .int) { frames := 3, cells := 0, slots := 0, locals := 67 } D fx_cl (fx_tys cA) fx_g fx_G (fx_ws h cA) [.ref (h 1), .int v1, .int v2] (F_Scopes_rankOf v1 v2) := by
  refine fx_start_i fx_G_ok (by decide) (Nat.le_of_ble_eq_true rfl) ?_
  intro p e s m args below meth c A ls σ res Q hF X hw hl hend
  have hx := X.1.1
  have hb := X.1.2.1
  have hl : lv_has ls 4 [(0, .ref (h 1)), (1, .int v1), (2, .int v2)] := hl
  unfold F_Scopes_rankOf at hF
  refine lv_iload_n hx hb d_Scopes_rankOf_0 rfl (lv_at hl 2 rfl) ?_
  refine lv_if_ne (tgt := 7) hx hb d_Scopes_rankOf_1 (by decide) (fun hc => ?_) (fun hc => ?_)
  · have hF := fx_if hc hF
    refine lv_aload_n hx hb d_Scopes_rankOf_7 rfl (lv_at hl 0 rfl) ?_
    refine lv_aload_n hx hb d_Scopes_rankOf_8 rfl (lv_at hl 0 rfl) ?_
    refine lv_iload_n hx hb d_Scopes_rankOf_9 rfl (lv_at hl 1 rfl) ?_
    refine lv_iload_n hx hb d_Scopes_rankOf_10 rfl (lv_at hl 2 rfl) ?_
    refine k_Scopes_tellerOf X hw lk_Scopes_37 d_Scopes_rankOf_11 hl.1 (lv_room (Nat.le_of_ble_eq_true rfl)) ⟨Nat.le_of_ble_eq_true rfl, Nat.le_of_ble_eq_true rfl⟩ ⟨Nat.zero_le _, Nat.zero_le _⟩ hF (fun x1 σ H locs hF hw => ?_)
    refine lv_iload_n hx hb d_Scopes_rankOf_14 rfl (lv_at hl 2 rfl) ?_
    refine k_Scopes_codeAt X hw lk_Scopes_33 d_Scopes_rankOf_15 hl.1 (lv_room (Nat.le_of_ble_eq_true rfl)) ⟨Nat.le_of_ble_eq_true rfl, Nat.le_of_ble_eq_true rfl⟩ ⟨Nat.zero_le _, Nat.zero_le _⟩ hF (fun x2 σ H locs hF hw => ?_)
    refine lv_istore_n (lv' := [(3, .int x2), (0, .ref (h 1)), (1, .int v1), (2, .int v2)]) hx hb d_Scopes_rankOf_18 rfl hl (by decide) rfl (fun ls hl => ?_)
    refine lv_iload_n hx hb d_Scopes_rankOf_19 rfl (lv_at hl 0 rfl) ?_
    refine lv_if_ne (tgt := 28) hx hb d_Scopes_rankOf_20 (by decide) (fun hc => ?_) (fun hc => ?_)
    · have hF := fx_if hc hF
      refine lv_iload_n hx hb d_Scopes_rankOf_28 rfl (lv_at hl 0 rfl) ?_
      refine lv_iconst (v := 1) hx hb d_Scopes_rankOf_29 (by decide) ?_
      refine lv_isub hx hb d_Scopes_rankOf_30 ?_
      refine lv_bipush (v := 10) hx hb d_Scopes_rankOf_31 (by decide) ?_
      refine lv_irem hx hb d_Scopes_rankOf_33 (by decide) ?_
      exact hend _ _ _ _ _ _ d_Scopes_rankOf_34 hF hw
    · have hF := fx_it hc hF
      refine lv_bipush (v := 9) hx hb d_Scopes_rankOf_23 (by decide) ?_
      refine lv_goto (tgt := 34) hx hb d_Scopes_rankOf_25 (by decide) ?_
      exact hend _ _ _ _ _ _ d_Scopes_rankOf_34 hF hw
  · have hF := fx_it hc hF
    refine lv_bipush (v := 6) hx hb d_Scopes_rankOf_4 (by decide) ?_
    exact hend _ _ _ _ _ _ d_Scopes_rankOf_6 hF hw
section
variable {p : Program} {l : Launch} {e : Env} {R : Room} {s : State} {m : MethodId} {args : Array Value} {below : List Frame} {meth : Method} {c : Code} {H : Heap} {locs : List Loc} {cells slots : Nat} {Q : State → Prop}
variable {cc : ByteArray} {pc nL ix : Nat} {ls : Array Slot} {rest : List Value} {own : String} {D : va_G} {A : Nat → Prop} {h : Nat → Nat} {cA : Nat → ClassId} {σ : fx_S} {β : Type} {res : β × fx_S}
theorem k_Scopes_rankOf {v1 : Int32} {v2 : Int32} (X : fx_X p m c cc nL s args own D fx_cl (fx_tys cA) fx_g fx_G A) (hw : fx_B D fx_cl (fx_ws h cA) A s.heap σ H locs) (lk : Cond.methodLink own ix y_Scopes_rankOf ∈ fx_g) (hdg : decode cc pc = .ok (.invokevirtual ix, 3)) (hsize : ls.size = nL) (hW : 2 * (F0 m pc ls (.int v2 :: .int v1 :: .ref (h 1) :: rest)).monitorRoom + (rest.map fun v => v.category).sum ≤ 8) (hR : 3 + 1 ≤ R.frames ∧ 8 + (4 + 11) + 67 ≤ R.locals) (hf : cells ≤ R.cells ∧ slots ≤ R.slots) {k : Int32 → fx_M β} (hF : fx_bnd (F_Scopes_rankOf v1 v2) k σ = some res) (kk : ∀ (r : Int32) (σ' : fx_S) (H' : Heap) (locs' : List Loc), k r σ' = some res → fx_B D fx_cl (fx_ws h cA) A s.heap σ' H' locs' → W p l e R s m args below meth c H' locs' cells slots Q (F0 m (pc + 3) ls (.int r :: rest))) : W p l e R s m args below meth c H locs cells slots Q (F0 m pc ls (.int v2 :: .int v1 :: .ref (h 1) :: rest)) :=
  fx_call_i X hw (c_Scopes_rankOf l D h cA v1 v2) (fx_cwV X lk hg_Scopes_rankOf fx_gok (rm := { frames := 3, cells := 0, slots := 0, locals := 67 }) rfl rfl (by decide +kernel) hR) (va_recv X.2.1 hw.1 (ci := 1) (q0 := 1) rfl rfl) (n := 2) rfl hdg hsize rfl hW hf hF kk
end
set_option maxHeartbeats 4000000 in
set_option maxRecDepth 100000 in
theorem c_Row_clear (l : Launch) (D : va_G) (h : Nat → Nat) (cA : Nat → ClassId) (v1 : Int32) : fx_Mv l y_Row_clear b_Row_clear 2 none { frames := 0, cells := 0, slots := 0, locals := 0 } D fx_cl (fx_tys cA) fx_g fx_G (fx_ws h cA) [.ref (h 7), .int v1] (F_Row_clear v1) := by
  refine fx_start_v fx_G_ok (by decide) (Nat.le_of_ble_eq_true rfl) ?_
  intro p e s m args below meth c A ls σ res Q hF X hw hl hend
  have hx := X.1.1
  have hb := X.1.2.1
  have hl : lv_has ls 2 [(0, .ref (h 7)), (1, .int v1)] := hl
  unfold F_Row_clear at hF
  refine lv_aload_n hx hb d_Row_clear_0 rfl (lv_at hl 0 rfl) ?_
  refine lv_iconst (v := 0) hx hb d_Row_clear_1 (by decide) ?_
  refine pI_Row_size X hw lk_Row_29 d_Row_clear_2 hF (fun σ H locs hF hw => ?_)
  refine lv_aload_n hx hb d_Row_clear_5 rfl (lv_at hl 0 rfl) ?_
  refine lv_iconst (v := 0) hx hb d_Row_clear_6 (by decide) ?_
  refine pI_Row_openSize X hw lk_Row_33 d_Row_clear_7 hF (fun σ H locs hF hw => ?_)
  refine lv_aload_n hx hb d_Row_clear_10 rfl (lv_at hl 0 rfl) ?_
  refine lv_iload_n hx hb d_Row_clear_11 rfl (lv_at hl 1 rfl) ?_
  refine pI_Row_pattern X hw lk_Row_36 d_Row_clear_12 hF (fun σ H locs hF hw => ?_)
  exact hend _ _ _ _ _ d_Row_clear_15 hF hw
section
variable {p : Program} {l : Launch} {e : Env} {R : Room} {s : State} {m : MethodId} {args : Array Value} {below : List Frame} {meth : Method} {c : Code} {H : Heap} {locs : List Loc} {cells slots : Nat} {Q : State → Prop}
variable {cc : ByteArray} {pc nL ix : Nat} {ls : Array Slot} {rest : List Value} {own : String} {D : va_G} {A : Nat → Prop} {h : Nat → Nat} {cA : Nat → ClassId} {σ : fx_S} {β : Type} {res : β × fx_S}
theorem k_Row_clear {v1 : Int32} (X : fx_X p m c cc nL s args own D fx_cl (fx_tys cA) fx_g fx_G A) (hw : fx_B D fx_cl (fx_ws h cA) A s.heap σ H locs) (lk : Cond.methodLink own ix y_Row_clear ∈ fx_g) (hdg : decode cc pc = .ok (.invokevirtual ix, 3)) (hsize : ls.size = nL) (hW : 2 * (F0 m pc ls (.int v1 :: .ref (h 7) :: rest)).monitorRoom + (rest.map fun v => v.category).sum ≤ 8) (hR : 0 + 1 ≤ R.frames ∧ 8 + (2 + 11) + 0 ≤ R.locals) (hf : cells ≤ R.cells ∧ slots ≤ R.slots) {k : Unit → fx_M β} (hF : fx_bnd (F_Row_clear v1) k σ = some res) (kk : ∀ (σ' : fx_S) (H' : Heap) (locs' : List Loc), k () σ' = some res → fx_B D fx_cl (fx_ws h cA) A s.heap σ' H' locs' → W p l e R s m args below meth c H' locs' cells slots Q (F0 m (pc + 3) ls rest)) : W p l e R s m args below meth c H locs cells slots Q (F0 m pc ls (.int v1 :: .ref (h 7) :: rest)) :=
  fx_call_v X hw (c_Row_clear l D h cA v1) (fx_cwV X lk hg_Row_clear fx_gok (rm := { frames := 0, cells := 0, slots := 0, locals := 0 }) rfl rfl (by decide +kernel) hR) (va_recv X.2.1 hw.1 (ci := 3) (q0 := 7) rfl rfl) (n := 1) rfl hdg hsize rfl hW hf hF kk
end
set_option maxHeartbeats 4000000 in
set_option maxRecDepth 100000 in
theorem c_FixityTrees_begin (l : Launch) (D : va_G) (h : Nat → Nat) (cA : Nat → ClassId) (v1 : Int32) : fx_Mv l y_FixityTrees_begin b_FixityTrees_begin 2 none { frames := 1, cells := 0, slots := 0, locals := 21 } D fx_cl (fx_tys cA) fx_g fx_G (fx_ws h cA) [.ref (h 0), .int v1] (F_FixityTrees_begin v1) := by
  refine fx_start_v fx_G_ok (by decide) (Nat.le_of_ble_eq_true rfl) ?_
  intro p e s m args below meth c A ls σ res Q hF X hw hl hend
  have hx := X.1.1
  have hb := X.1.2.1
  have hl : lv_has ls 2 [(0, .ref (h 0)), (1, .int v1)] := hl
  unfold F_FixityTrees_begin at hF
  refine lv_aload_n hx hb d_FixityTrees_begin_0 rfl (lv_at hl 0 rfl) ?_
  refine gR_FixityTrees_row X hw lk_FixityTrees_26 d_FixityTrees_begin_1 ?_
  refine lv_iload_n hx hb d_FixityTrees_begin_4 rfl (lv_at hl 1 rfl) ?_
  refine k_Row_clear X hw lk_FixityTrees_121 d_FixityTrees_begin_5 hl.1 (lv_room (Nat.le_of_ble_eq_true rfl)) ⟨Nat.le_of_ble_eq_true rfl, Nat.le_of_ble_eq_true rfl⟩ ⟨Nat.zero_le _, Nat.zero_le _⟩ hF (fun σ H locs hF hw => ?_)
  exact hend _ _ _ _ _ d_FixityTrees_begin_8 hF hw
section
variable {p : Program} {l : Launch} {e : Env} {R : Room} {s : State} {m : MethodId} {args : Array Value} {below : List Frame} {meth : Method} {c : Code} {H : Heap} {locs : List Loc} {cells slots : Nat} {Q : State → Prop}
variable {cc : ByteArray} {pc nL ix : Nat} {ls : Array Slot} {rest : List Value} {own : String} {D : va_G} {A : Nat → Prop} {h : Nat → Nat} {cA : Nat → ClassId} {σ : fx_S} {β : Type} {res : β × fx_S}
theorem k_FixityTrees_begin {v1 : Int32} (X : fx_X p m c cc nL s args own D fx_cl (fx_tys cA) fx_g fx_G A) (hw : fx_B D fx_cl (fx_ws h cA) A s.heap σ H locs) (lk : Cond.methodLink own ix y_FixityTrees_begin ∈ fx_g) (hdg : decode cc pc = .ok (.invokevirtual ix, 3)) (hsize : ls.size = nL) (hW : 2 * (F0 m pc ls (.int v1 :: .ref (h 0) :: rest)).monitorRoom + (rest.map fun v => v.category).sum ≤ 8) (hR : 1 + 1 ≤ R.frames ∧ 8 + (2 + 11) + 21 ≤ R.locals) (hf : cells ≤ R.cells ∧ slots ≤ R.slots) {k : Unit → fx_M β} (hF : fx_bnd (F_FixityTrees_begin v1) k σ = some res) (kk : ∀ (σ' : fx_S) (H' : Heap) (locs' : List Loc), k () σ' = some res → fx_B D fx_cl (fx_ws h cA) A s.heap σ' H' locs' → W p l e R s m args below meth c H' locs' cells slots Q (F0 m (pc + 3) ls rest)) : W p l e R s m args below meth c H locs cells slots Q (F0 m pc ls (.int v1 :: .ref (h 0) :: rest)) :=
  fx_call_v X hw (c_FixityTrees_begin l D h cA v1) (fx_cwV X lk hg_FixityTrees_begin fx_gok (rm := { frames := 1, cells := 0, slots := 0, locals := 21 }) rfl rfl (by decide +kernel) hR) (va_recv X.2.1 hw.1 (ci := 0) (q0 := 0) rfl rfl) (n := 1) rfl hdg hsize rfl hW hf hF kk
end
set_option maxHeartbeats 4000000 in
set_option maxRecDepth 100000 in
theorem c_Row_isFull (l : Launch) (D : va_G) (h : Nat → Nat) (cA : Nat → ClassId) : fx_Mi l y_Row_isFull b_Row_isFull 1 (some .boolean) { frames := 0, cells := 0, slots := 0, locals := 0 } D fx_cl (fx_tys cA) fx_g fx_G (fx_ws h cA) [.ref (h 7)] (F_Row_isFull) := by
  refine fx_start_z fx_G_ok (by decide) (Nat.le_of_ble_eq_true rfl) ?_
  intro p e s m args below meth c A ls σ res Q hF X hw hl hend
  have hx := X.1.1
  have hb := X.1.2.1
  have hl : lv_has ls 1 [(0, .ref (h 7))] := hl
  unfold F_Row_isFull at hF
  refine lv_aload_n hx hb d_Row_isFull_0 rfl (lv_at hl 0 rfl) ?_
  refine gI_Row_size X hw lk_Row_29 d_Row_isFull_1 hF (fun x1 hF => ?_)
  refine lv_sipush (v := 200) hx hb d_Row_isFull_4 (by decide) ?_
  refine lv_icmp_lt (tgt := 14) hx hb d_Row_isFull_7 (by decide) (fun hc => ?_) (fun hc => ?_)
  · have hF := fx_it hc hF
    refine lv_iconst (v := 0) hx hb d_Row_isFull_14 (by decide) ?_
    exact hend _ _ _ _ _ _ d_Row_isFull_15 hF hw
  · have hF := fx_if hc hF
    refine lv_iconst (v := 1) hx hb d_Row_isFull_10 (by decide) ?_
    refine lv_goto (tgt := 15) hx hb d_Row_isFull_11 (by decide) ?_
    exact hend _ _ _ _ _ _ d_Row_isFull_15 hF hw
section
variable {p : Program} {l : Launch} {e : Env} {R : Room} {s : State} {m : MethodId} {args : Array Value} {below : List Frame} {meth : Method} {c : Code} {H : Heap} {locs : List Loc} {cells slots : Nat} {Q : State → Prop}
variable {cc : ByteArray} {pc nL ix : Nat} {ls : Array Slot} {rest : List Value} {own : String} {D : va_G} {A : Nat → Prop} {h : Nat → Nat} {cA : Nat → ClassId} {σ : fx_S} {β : Type} {res : β × fx_S}
theorem k_Row_isFull (X : fx_X p m c cc nL s args own D fx_cl (fx_tys cA) fx_g fx_G A) (hw : fx_B D fx_cl (fx_ws h cA) A s.heap σ H locs) (lk : Cond.methodLink own ix y_Row_isFull ∈ fx_g) (hdg : decode cc pc = .ok (.invokevirtual ix, 3)) (hsize : ls.size = nL) (hW : 2 * (F0 m pc ls (.ref (h 7) :: rest)).monitorRoom + (rest.map fun v => v.category).sum ≤ 8) (hR : 0 + 1 ≤ R.frames ∧ 8 + (1 + 11) + 0 ≤ R.locals) (hf : cells ≤ R.cells ∧ slots ≤ R.slots) {k : Int32 → fx_M β} (hF : fx_bnd (F_Row_isFull) k σ = some res) (kk : ∀ (r : Int32) (σ' : fx_S) (H' : Heap) (locs' : List Loc), k r σ' = some res → fx_B D fx_cl (fx_ws h cA) A s.heap σ' H' locs' → W p l e R s m args below meth c H' locs' cells slots Q (F0 m (pc + 3) ls (.int r :: rest))) : W p l e R s m args below meth c H locs cells slots Q (F0 m pc ls (.ref (h 7) :: rest)) :=
  fx_call_i X hw (c_Row_isFull l D h cA) (fx_cwV X lk hg_Row_isFull fx_gok (rm := { frames := 0, cells := 0, slots := 0, locals := 0 }) rfl rfl (by decide +kernel) hR) (va_recv X.2.1 hw.1 (ci := 3) (q0 := 7) rfl rfl) (n := 0) rfl hdg hsize rfl hW hf hF kk
end
set_option maxHeartbeats 4000000 in
set_option maxRecDepth 100000 in
theorem c_Row_has (l : Launch) (D : va_G) (h : Nat → Nat) (cA : Nat → ClassId) (v1 : Int32) : fx_Mi l y_Row_has b_Row_has 2 (some .boolean) { frames := 0, cells := 0, slots := 0, locals := 0 } D fx_cl (fx_tys cA) fx_g fx_G (fx_ws h cA) [.ref (h 7), .int v1] (F_Row_has v1) := by
  refine fx_start_z fx_G_ok (by decide) (Nat.le_of_ble_eq_true rfl) ?_
  intro p e s m args below meth c A ls σ res Q hF X hw hl hend
  have hx := X.1.1
  have hb := X.1.2.1
  have hl : lv_has ls 2 [(0, .ref (h 7)), (1, .int v1)] := hl
  unfold F_Row_has at hF
  refine lv_iload_n hx hb d_Row_has_0 rfl (lv_at hl 1 rfl) ?_
  refine lv_if_lt (tgt := 23) hx hb d_Row_has_1 (by decide) (fun hc => ?_) (fun hc => ?_)
  · have hF := fx_it hc hF
    refine lv_iconst (v := 0) hx hb d_Row_has_23 (by decide) ?_
    exact hend _ _ _ _ _ _ d_Row_has_24 hF hw
  · have hF := fx_if hc hF
    refine lv_iload_n hx hb d_Row_has_4 rfl (lv_at hl 1 rfl) ?_
    refine lv_aload_n hx hb d_Row_has_5 rfl (lv_at hl 0 rfl) ?_
    refine gI_Row_size X hw lk_Row_29 d_Row_has_6 hF (fun x1 hF => ?_)
    refine lv_icmp_ge (tgt := 23) hx hb d_Row_has_9 (by decide) (fun hc => ?_) (fun hc => ?_)
    · have hF := fx_it hc hF
      refine lv_iconst (v := 0) hx hb d_Row_has_23 (by decide) ?_
      exact hend _ _ _ _ _ _ d_Row_has_24 hF hw
    · have hF := fx_if hc hF
      refine lv_iload_n hx hb d_Row_has_12 rfl (lv_at hl 1 rfl) ?_
      refine lv_sipush (v := 200) hx hb d_Row_has_13 (by decide) ?_
      refine lv_icmp_ge (tgt := 23) hx hb d_Row_has_16 (by decide) (fun hc => ?_) (fun hc => ?_)
      · have hF := fx_it hc hF
        refine lv_iconst (v := 0) hx hb d_Row_has_23 (by decide) ?_
        exact hend _ _ _ _ _ _ d_Row_has_24 hF hw
      · have hF := fx_if hc hF
        refine lv_iconst (v := 1) hx hb d_Row_has_19 (by decide) ?_
        refine lv_goto (tgt := 24) hx hb d_Row_has_20 (by decide) ?_
        exact hend _ _ _ _ _ _ d_Row_has_24 hF hw
section
variable {p : Program} {l : Launch} {e : Env} {R : Room} {s : State} {m : MethodId} {args : Array Value} {below : List Frame} {meth : Method} {c : Code} {H : Heap} {locs : List Loc} {cells slots : Nat} {Q : State → Prop}
variable {cc : ByteArray} {pc nL ix : Nat} {ls : Array Slot} {rest : List Value} {own : String} {D : va_G} {A : Nat → Prop} {h : Nat → Nat} {cA : Nat → ClassId} {σ : fx_S} {β : Type} {res : β × fx_S}
theorem k_Row_has {v1 : Int32} (X : fx_X p m c cc nL s args own D fx_cl (fx_tys cA) fx_g fx_G A) (hw : fx_B D fx_cl (fx_ws h cA) A s.heap σ H locs) (lk : Cond.methodLink own ix y_Row_has ∈ fx_g) (hdg : decode cc pc = .ok (.invokevirtual ix, 3)) (hsize : ls.size = nL) (hW : 2 * (F0 m pc ls (.int v1 :: .ref (h 7) :: rest)).monitorRoom + (rest.map fun v => v.category).sum ≤ 8) (hR : 0 + 1 ≤ R.frames ∧ 8 + (2 + 11) + 0 ≤ R.locals) (hf : cells ≤ R.cells ∧ slots ≤ R.slots) {k : Int32 → fx_M β} (hF : fx_bnd (F_Row_has v1) k σ = some res) (kk : ∀ (r : Int32) (σ' : fx_S) (H' : Heap) (locs' : List Loc), k r σ' = some res → fx_B D fx_cl (fx_ws h cA) A s.heap σ' H' locs' → W p l e R s m args below meth c H' locs' cells slots Q (F0 m (pc + 3) ls (.int r :: rest))) : W p l e R s m args below meth c H locs cells slots Q (F0 m pc ls (.int v1 :: .ref (h 7) :: rest)) :=
  fx_call_i X hw (c_Row_has l D h cA v1) (fx_cwV X lk hg_Row_has fx_gok (rm := { frames := 0, cells := 0, slots := 0, locals := 0 }) rfl rfl (by decide +kernel) hR) (va_recv X.2.1 hw.1 (ci := 3) (q0 := 7) rfl rfl) (n := 1) rfl hdg hsize rfl hW hf hF kk
end
