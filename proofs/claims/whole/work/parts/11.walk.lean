set_option maxHeartbeats 4000000 in
set_option maxRecDepth 100000 in
theorem c_Row_openSize (l : Launch) (D : va_G) (h : Nat → Nat) (cA : Nat → ClassId) : fx_Mi l y_Row_openSize b_Row_openSize 1 (some .int) { frames := 0, cells := 0, slots := 0, locals := 0 } D fx_cl (fx_tys cA) fx_g fx_G (fx_ws h cA) [.ref (h 7)] (F_Row_openSize) := by
  refine fx_start_i fx_G_ok (by decide) (Nat.le_of_ble_eq_true rfl) ?_
  intro p e s m args below meth c A ls σ res Q hF X hw hl hend
  have hx := X.1.1
  have hb := X.1.2.1
  have hl : lv_has ls 1 [(0, .ref (h 7))] := hl
  unfold F_Row_openSize at hF
  refine lv_aload_n hx hb d_Row_openSize_0 rfl (lv_at hl 0 rfl) ?_
  refine gI_Row_openSize X hw lk_Row_33 d_Row_openSize_1 hF (fun x1 hF => ?_)
  exact hend _ _ _ _ _ _ d_Row_openSize_4 hF hw
section
variable {p : Program} {l : Launch} {e : Env} {R : Room} {s : State} {m : MethodId} {args : Array Value} {below : List Frame} {meth : Method} {c : Code} {H : Heap} {locs : List Loc} {cells slots : Nat} {Q : State → Prop}
variable {cc : ByteArray} {pc nL ix : Nat} {ls : Array Slot} {rest : List Value} {own : String} {D : va_G} {A : Nat → Prop} {h : Nat → Nat} {cA : Nat → ClassId} {σ : fx_S} {β : Type} {res : β × fx_S}
theorem k_Row_openSize (X : fx_X p m c cc nL s args own D fx_cl (fx_tys cA) fx_g fx_G A) (hw : fx_B D fx_cl (fx_ws h cA) A s.heap σ H locs) (lk : Cond.methodLink own ix y_Row_openSize ∈ fx_g) (hdg : decode cc pc = .ok (.invokevirtual ix, 3)) (hsize : ls.size = nL) (hW : 2 * (F0 m pc ls (.ref (h 7) :: rest)).monitorRoom + (rest.map fun v => v.category).sum ≤ 8) (hR : 0 + 1 ≤ R.frames ∧ 8 + (1 + 11) + 0 ≤ R.locals) (hf : cells ≤ R.cells ∧ slots ≤ R.slots) {k : Int32 → fx_M β} (hF : fx_bnd (F_Row_openSize) k σ = some res) (kk : ∀ (r : Int32) (σ' : fx_S) (H' : Heap) (locs' : List Loc), k r σ' = some res → fx_B D fx_cl (fx_ws h cA) A s.heap σ' H' locs' → W p l e R s m args below meth c H' locs' cells slots Q (F0 m (pc + 3) ls (.int r :: rest))) : W p l e R s m args below meth c H locs cells slots Q (F0 m pc ls (.ref (h 7) :: rest)) :=
  fx_call_i X hw (c_Row_openSize l D h cA) (fx_cwV X lk hg_Row_openSize fx_gok (rm := { frames := 0, cells := 0, slots := 0, locals := 0 }) rfl rfl (by decide +kernel) hR) (va_recv X.2.1 hw.1 (ci := 3) (q0 := 7) rfl rfl) (n := 0) rfl hdg hsize rfl hW hf hF kk
end
set_option maxHeartbeats 4000000 in
set_option maxRecDepth 100000 in
theorem c_Fixities_look_Scopes (l : Launch) (D : va_G) (h : Nat → Nat) (cA : Nat → ClassId) (v2 : Int32) : fx_Mv l y_Fixities_look b_Fixities_look 4 none { frames := 4, cells := 0, slots := 0, locals := 90 } D fx_cl (fx_tys cA) fx_g fx_G (fx_ws h cA) [.ref (h 4), .ref (h 1), .int v2] (F_Fixities_look_Scopes v2) := by
  refine fx_start_v fx_G_ok (by decide) (Nat.le_of_ble_eq_true rfl) ?_
  intro p e s m args below meth c A ls σ res Q hF X hw hl hend
  have hx := X.1.1
  have hb := X.1.2.1
  have hl : lv_has ls 4 [(0, .ref (h 4)), (1, .ref (h 1)), (2, .int v2)] := hl
  unfold F_Fixities_look_Scopes at hF
  have h2 : ∀ (n2 : Nat) (v2 : Int32) (v3 : Int32) (σ : fx_S) (H : Heap) (locs : List Loc) (ls : Array Slot), fx_loop2 (F_Fixities_look_Scopes_B2) n2 v2 v3 σ = some res → fx_B D fx_cl (fx_ws h cA) A s.heap σ H locs → lv_has ls 4 [(0, .ref (h 4)), (1, .ref (h 1)), (2, .int v2), (3, .int v3)] → W p l e { frames := 4, cells := 0, slots := 0, locals := 90 } s m args below meth c H locs 0 0 Q (F0 m 2 ls []) := by
    intro n2
    induction n2 with
    | zero => intro v2 v3 σ H locs ls hF; cases hF
    | succ n2 ih2 =>
      obtain ⟨K2, eK2⟩ : ∃ K, K = fx_loop2 (F_Fixities_look_Scopes_B2) n2 := ⟨_, rfl⟩
      rw [← eK2] at ih2
      intro v2 v3 σ H locs ls hF hw hl
      replace hF : F_Fixities_look_Scopes_B2 (fx_loop2 (F_Fixities_look_Scopes_B2) n2) v2 v3 σ = some res := hF
      rw [← eK2] at hF
      unfold F_Fixities_look_Scopes_B2 at hF
      refine lv_iload_n hx hb d_Fixities_look_2 rfl (lv_at hl 3 rfl) ?_
      refine lv_bipush (v := 41) hx hb d_Fixities_look_3 (by decide) ?_
      refine lv_icmp_ge (tgt := 38) hx hb d_Fixities_look_5 (by decide) (fun hc => ?_) (fun hc => ?_)
      · have hF := fx_it hc hF
        exact hend _ _ _ _ _ d_Fixities_look_38 hF hw
      · have hF := fx_if hc hF
        refine lv_aload_n hx hb d_Fixities_look_8 rfl (lv_at hl 0 rfl) ?_
        refine gR_Fixities_sides X hw lk_Fixities_9 d_Fixities_look_9 ?_
        refine lv_iload_n hx hb d_Fixities_look_12 rfl (lv_at hl 3 rfl) ?_
        refine lv_aload_n hx hb d_Fixities_look_13 rfl (lv_at hl 1 rfl) ?_
        refine lv_iload_n hx hb d_Fixities_look_14 rfl (lv_at hl 2 rfl) ?_
        refine lv_iload_n hx hb d_Fixities_look_15 rfl (lv_at hl 3 rfl) ?_
        refine k_Scopes_sideOf X hw lk_Fixities_18 d_Fixities_look_16 hl.1 (lv_room (Nat.le_of_ble_eq_true rfl)) ⟨Nat.le_of_ble_eq_true rfl, Nat.le_of_ble_eq_true rfl⟩ ⟨Nat.zero_le _, Nat.zero_le _⟩ hF (fun x1 σ H locs hF hw => ?_)
        refine sA_Fixities_sides X hw d_Fixities_look_19 hF (fun σ H locs hF hw => ?_)
        refine lv_aload_n hx hb d_Fixities_look_20 rfl (lv_at hl 0 rfl) ?_
        refine gR_Fixities_ranks X hw lk_Fixities_15 d_Fixities_look_21 ?_
        refine lv_iload_n hx hb d_Fixities_look_24 rfl (lv_at hl 3 rfl) ?_
        refine lv_aload_n hx hb d_Fixities_look_25 rfl (lv_at hl 1 rfl) ?_
        refine lv_iload_n hx hb d_Fixities_look_26 rfl (lv_at hl 2 rfl) ?_
        refine lv_iload_n hx hb d_Fixities_look_27 rfl (lv_at hl 3 rfl) ?_
        refine k_Scopes_rankOf X hw lk_Fixities_24 d_Fixities_look_28 hl.1 (lv_room (Nat.le_of_ble_eq_true rfl)) ⟨Nat.le_of_ble_eq_true rfl, Nat.le_of_ble_eq_true rfl⟩ ⟨Nat.zero_le _, Nat.zero_le _⟩ hF (fun x2 σ H locs hF hw => ?_)
        refine sA_Fixities_ranks X hw d_Fixities_look_31 hF (fun σ H locs hF hw => ?_)
        refine fx_iinc (lv' := fun x3 => [(3, .int x3), (0, .ref (h 4)), (1, .ref (h 1)), (2, .int v2)]) hx hb d_Fixities_look_32 hl (k := 3) rfl rfl (by decide) (fun _ => rfl) hF (fun x3 ls hF hl => ?_)
        refine lv_goto (tgt := 2) hx hb d_Fixities_look_35 (by decide) ?_
        exact ih2 v2 x3 _ _ _ _ hF hw (lv_sub hl [1, 2, 3, 0] rfl)
  refine lv_iconst (v := 0) hx hb d_Fixities_look_0 (by decide) ?_
  refine lv_istore_n (lv' := [(3, .int 0), (0, .ref (h 4)), (1, .ref (h 1)), (2, .int v2)]) hx hb d_Fixities_look_1 rfl hl (by decide) rfl (fun ls hl => ?_)
  exact h2 fx_fuel v2 0 _ _ _ _ hF hw (lv_sub hl [1, 2, 3, 0] rfl)
section
variable {p : Program} {l : Launch} {e : Env} {R : Room} {s : State} {m : MethodId} {args : Array Value} {below : List Frame} {meth : Method} {c : Code} {H : Heap} {locs : List Loc} {cells slots : Nat} {Q : State → Prop}
variable {cc : ByteArray} {pc nL ix : Nat} {ls : Array Slot} {rest : List Value} {own : String} {D : va_G} {A : Nat → Prop} {h : Nat → Nat} {cA : Nat → ClassId} {σ : fx_S} {β : Type} {res : β × fx_S}
theorem k_Fixities_look_Scopes {v2 : Int32} (X : fx_X p m c cc nL s args own D fx_cl (fx_tys cA) fx_g fx_G A) (hw : fx_B D fx_cl (fx_ws h cA) A s.heap σ H locs) (lk : Cond.methodLink own ix y_Fixities_look ∈ fx_g) (hdg : decode cc pc = .ok (.invokevirtual ix, 3)) (hsize : ls.size = nL) (hW : 2 * (F0 m pc ls (.int v2 :: .ref (h 1) :: .ref (h 4) :: rest)).monitorRoom + (rest.map fun v => v.category).sum ≤ 8) (hR : 4 + 1 ≤ R.frames ∧ 8 + (4 + 11) + 90 ≤ R.locals) (hf : cells ≤ R.cells ∧ slots ≤ R.slots) {k : Unit → fx_M β} (hF : fx_bnd (F_Fixities_look_Scopes v2) k σ = some res) (kk : ∀ (σ' : fx_S) (H' : Heap) (locs' : List Loc), k () σ' = some res → fx_B D fx_cl (fx_ws h cA) A s.heap σ' H' locs' → W p l e R s m args below meth c H' locs' cells slots Q (F0 m (pc + 3) ls rest)) : W p l e R s m args below meth c H locs cells slots Q (F0 m pc ls (.int v2 :: .ref (h 1) :: .ref (h 4) :: rest)) :=
  fx_call_v X hw (c_Fixities_look_Scopes l D h cA v2) (fx_cwV X lk hg_Fixities_look fx_gok (rm := { frames := 4, cells := 0, slots := 0, locals := 90 }) rfl rfl (by decide +kernel) hR) (va_recv X.2.1 hw.1 (ci := 2) (q0 := 4) rfl rfl) (n := 2) rfl hdg hsize rfl hW hf hF kk
end
set_option maxHeartbeats 4000000 in
set_option maxRecDepth 100000 in
theorem c_IntStack0_clear (l : Launch) (D : va_G) (h : Nat → Nat) (cA : Nat → ClassId) : fx_Mv l y_IntStack_clear b_IntStack_clear 1 none { frames := 0, cells := 0, slots := 0, locals := 0 } D fx_cl (fx_tys cA) fx_g fx_G (fx_ws h cA) [.ref (h 14)] (F_IntStack0_clear) := by
  refine fx_start_v fx_G_ok (by decide) (Nat.le_of_ble_eq_true rfl) ?_
  intro p e s m args below meth c A ls σ res Q hF X hw hl hend
  have hx := X.1.1
  have hb := X.1.2.1
  have hl : lv_has ls 1 [(0, .ref (h 14))] := hl
  unfold F_IntStack0_clear at hF
  refine lv_aload_n hx hb d_IntStack_clear_0 rfl (lv_at hl 0 rfl) ?_
  refine lv_iconst (v := 0) hx hb d_IntStack_clear_1 (by decide) ?_
  refine pI_IntStack0_size X hw lk_IntStack_15 d_IntStack_clear_2 hF (fun σ H locs hF hw => ?_)
  exact hend _ _ _ _ _ d_IntStack_clear_5 hF hw
section
variable {p : Program} {l : Launch} {e : Env} {R : Room} {s : State} {m : MethodId} {args : Array Value} {below : List Frame} {meth : Method} {c : Code} {H : Heap} {locs : List Loc} {cells slots : Nat} {Q : State → Prop}
variable {cc : ByteArray} {pc nL ix : Nat} {ls : Array Slot} {rest : List Value} {own : String} {D : va_G} {A : Nat → Prop} {h : Nat → Nat} {cA : Nat → ClassId} {σ : fx_S} {β : Type} {res : β × fx_S}
theorem k_IntStack0_clear (X : fx_X p m c cc nL s args own D fx_cl (fx_tys cA) fx_g fx_G A) (hw : fx_B D fx_cl (fx_ws h cA) A s.heap σ H locs) (lk : Cond.methodLink own ix y_IntStack_clear ∈ fx_g) (hdg : decode cc pc = .ok (.invokevirtual ix, 3)) (hsize : ls.size = nL) (hW : 2 * (F0 m pc ls (.ref (h 14) :: rest)).monitorRoom + (rest.map fun v => v.category).sum ≤ 8) (hR : 0 + 1 ≤ R.frames ∧ 8 + (1 + 11) + 0 ≤ R.locals) (hf : cells ≤ R.cells ∧ slots ≤ R.slots) {k : Unit → fx_M β} (hF : fx_bnd (F_IntStack0_clear) k σ = some res) (kk : ∀ (σ' : fx_S) (H' : Heap) (locs' : List Loc), k () σ' = some res → fx_B D fx_cl (fx_ws h cA) A s.heap σ' H' locs' → W p l e R s m args below meth c H' locs' cells slots Q (F0 m (pc + 3) ls rest)) : W p l e R s m args below meth c H locs cells slots Q (F0 m pc ls (.ref (h 14) :: rest)) :=
  fx_call_v X hw (c_IntStack0_clear l D h cA) (fx_cwV X lk hg_IntStack_clear fx_gok (rm := { frames := 0, cells := 0, slots := 0, locals := 0 }) rfl rfl (by decide +kernel) hR) (va_recv X.2.1 hw.1 (ci := 5) (q0 := 14) rfl rfl) (n := 0) rfl hdg hsize rfl hW hf hF kk
end
set_option maxHeartbeats 4000000 in
set_option maxRecDepth 100000 in
theorem c_IntStack1_clear (l : Launch) (D : va_G) (h : Nat → Nat) (cA : Nat → ClassId) : fx_Mv l y_IntStack_clear b_IntStack_clear 1 none { frames := 0, cells := 0, slots := 0, locals := 0 } D fx_cl (fx_tys cA) fx_g fx_G (fx_ws h cA) [.ref (h 16)] (F_IntStack1_clear) := by
  refine fx_start_v fx_G_ok (by decide) (Nat.le_of_ble_eq_true rfl) ?_
  intro p e s m args below meth c A ls σ res Q hF X hw hl hend
  have hx := X.1.1
  have hb := X.1.2.1
  have hl : lv_has ls 1 [(0, .ref (h 16))] := hl
  unfold F_IntStack1_clear at hF
  refine lv_aload_n hx hb d_IntStack_clear_0 rfl (lv_at hl 0 rfl) ?_
  refine lv_iconst (v := 0) hx hb d_IntStack_clear_1 (by decide) ?_
  refine pI_IntStack1_size X hw lk_IntStack_15 d_IntStack_clear_2 hF (fun σ H locs hF hw => ?_)
  exact hend _ _ _ _ _ d_IntStack_clear_5 hF hw
section
variable {p : Program} {l : Launch} {e : Env} {R : Room} {s : State} {m : MethodId} {args : Array Value} {below : List Frame} {meth : Method} {c : Code} {H : Heap} {locs : List Loc} {cells slots : Nat} {Q : State → Prop}
variable {cc : ByteArray} {pc nL ix : Nat} {ls : Array Slot} {rest : List Value} {own : String} {D : va_G} {A : Nat → Prop} {h : Nat → Nat} {cA : Nat → ClassId} {σ : fx_S} {β : Type} {res : β × fx_S}
theorem k_IntStack1_clear (X : fx_X p m c cc nL s args own D fx_cl (fx_tys cA) fx_g fx_G A) (hw : fx_B D fx_cl (fx_ws h cA) A s.heap σ H locs) (lk : Cond.methodLink own ix y_IntStack_clear ∈ fx_g) (hdg : decode cc pc = .ok (.invokevirtual ix, 3)) (hsize : ls.size = nL) (hW : 2 * (F0 m pc ls (.ref (h 16) :: rest)).monitorRoom + (rest.map fun v => v.category).sum ≤ 8) (hR : 0 + 1 ≤ R.frames ∧ 8 + (1 + 11) + 0 ≤ R.locals) (hf : cells ≤ R.cells ∧ slots ≤ R.slots) {k : Unit → fx_M β} (hF : fx_bnd (F_IntStack1_clear) k σ = some res) (kk : ∀ (σ' : fx_S) (H' : Heap) (locs' : List Loc), k () σ' = some res → fx_B D fx_cl (fx_ws h cA) A s.heap σ' H' locs' → W p l e R s m args below meth c H' locs' cells slots Q (F0 m (pc + 3) ls rest)) : W p l e R s m args below meth c H locs cells slots Q (F0 m pc ls (.ref (h 16) :: rest)) :=
  fx_call_v X hw (c_IntStack1_clear l D h cA) (fx_cwV X lk hg_IntStack_clear fx_gok (rm := { frames := 0, cells := 0, slots := 0, locals := 0 }) rfl rfl (by decide +kernel) hR) (va_recv X.2.1 hw.1 (ci := 5) (q0 := 16) rfl rfl) (n := 0) rfl hdg hsize rfl hW hf hF kk
end
set_option maxHeartbeats 4000000 in
set_option maxRecDepth 100000 in
theorem c_IntStack1_push (l : Launch) (D : va_G) (h : Nat → Nat) (cA : Nat → ClassId) (v1 : Int32) : fx_Mv l y_IntStack_push b_IntStack_push 2 none { frames := 0, cells := 0, slots := 0, locals := 0 } D fx_cl (fx_tys cA) fx_g fx_G (fx_ws h cA) [.ref (h 16), .int v1] (F_IntStack1_push v1) := by
  refine fx_start_v fx_G_ok (by decide) (Nat.le_of_ble_eq_true rfl) ?_
  intro p e s m args below meth c A ls σ res Q hF X hw hl hend
  have hx := X.1.1
  have hb := X.1.2.1
  have hl : lv_has ls 2 [(0, .ref (h 16)), (1, .int v1)] := hl
  unfold F_IntStack1_push at hF
  refine lv_aload_n hx hb d_IntStack_push_0 rfl (lv_at hl 0 rfl) ?_
  refine gI_IntStack1_size X hw lk_IntStack_15 d_IntStack_push_1 hF (fun x1 hF => ?_)
  refine lv_sipush (v := 200) hx hb d_IntStack_push_4 (by decide) ?_
  refine lv_icmp_ge (tgt := 30) hx hb d_IntStack_push_7 (by decide) (fun hc => ?_) (fun hc => ?_)
  · have hF := fx_it hc hF
    exact hend _ _ _ _ _ d_IntStack_push_30 hF hw
  · have hF := fx_if hc hF
    refine lv_aload_n hx hb d_IntStack_push_10 rfl (lv_at hl 0 rfl) ?_
    refine gR_IntStack1_values X hw lk_IntStack_9 d_IntStack_push_11 ?_
    refine lv_aload_n hx hb d_IntStack_push_14 rfl (lv_at hl 0 rfl) ?_
    refine gI_IntStack1_size X hw lk_IntStack_15 d_IntStack_push_15 hF (fun x2 hF => ?_)
    refine lv_iload_n hx hb d_IntStack_push_18 rfl (lv_at hl 1 rfl) ?_
    refine sA_IntStack1_values X hw d_IntStack_push_19 hF (fun σ H locs hF hw => ?_)
    refine lv_aload_n hx hb d_IntStack_push_20 rfl (lv_at hl 0 rfl) ?_
    refine lv_dup hx hb d_IntStack_push_21 rfl ?_
    refine gI_IntStack1_size X hw lk_IntStack_15 d_IntStack_push_22 hF (fun x3 hF => ?_)
    refine lv_iconst (v := 1) hx hb d_IntStack_push_25 (by decide) ?_
    refine lv_iadd hx hb d_IntStack_push_26 ?_
    refine pI_IntStack1_size X hw lk_IntStack_15 d_IntStack_push_27 hF (fun σ H locs hF hw => ?_)
    exact hend _ _ _ _ _ d_IntStack_push_30 hF hw
section
variable {p : Program} {l : Launch} {e : Env} {R : Room} {s : State} {m : MethodId} {args : Array Value} {below : List Frame} {meth : Method} {c : Code} {H : Heap} {locs : List Loc} {cells slots : Nat} {Q : State → Prop}
variable {cc : ByteArray} {pc nL ix : Nat} {ls : Array Slot} {rest : List Value} {own : String} {D : va_G} {A : Nat → Prop} {h : Nat → Nat} {cA : Nat → ClassId} {σ : fx_S} {β : Type} {res : β × fx_S}
theorem k_IntStack1_push {v1 : Int32} (X : fx_X p m c cc nL s args own D fx_cl (fx_tys cA) fx_g fx_G A) (hw : fx_B D fx_cl (fx_ws h cA) A s.heap σ H locs) (lk : Cond.methodLink own ix y_IntStack_push ∈ fx_g) (hdg : decode cc pc = .ok (.invokevirtual ix, 3)) (hsize : ls.size = nL) (hW : 2 * (F0 m pc ls (.int v1 :: .ref (h 16) :: rest)).monitorRoom + (rest.map fun v => v.category).sum ≤ 8) (hR : 0 + 1 ≤ R.frames ∧ 8 + (2 + 11) + 0 ≤ R.locals) (hf : cells ≤ R.cells ∧ slots ≤ R.slots) {k : Unit → fx_M β} (hF : fx_bnd (F_IntStack1_push v1) k σ = some res) (kk : ∀ (σ' : fx_S) (H' : Heap) (locs' : List Loc), k () σ' = some res → fx_B D fx_cl (fx_ws h cA) A s.heap σ' H' locs' → W p l e R s m args below meth c H' locs' cells slots Q (F0 m (pc + 3) ls rest)) : W p l e R s m args below meth c H locs cells slots Q (F0 m pc ls (.int v1 :: .ref (h 16) :: rest)) :=
  fx_call_v X hw (c_IntStack1_push l D h cA v1) (fx_cwV X lk hg_IntStack_push fx_gok (rm := { frames := 0, cells := 0, slots := 0, locals := 0 }) rfl rfl (by decide +kernel) hR) (va_recv X.2.1 hw.1 (ci := 5) (q0 := 16) rfl rfl) (n := 1) rfl hdg hsize rfl hW hf hF kk
end
set_option maxHeartbeats 4000000 in
set_option maxRecDepth 100000 in
theorem c_IntStack2_clear (l : Launch) (D : va_G) (h : Nat → Nat) (cA : Nat → ClassId) : fx_Mv l y_IntStack_clear b_IntStack_clear 1 none { frames := 0, cells := 0, slots := 0, locals := 0 } D fx_cl (fx_tys cA) fx_g fx_G (fx_ws h cA) [.ref (h 18)] (F_IntStack2_clear) := by
  refine fx_start_v fx_G_ok (by decide) (Nat.le_of_ble_eq_true rfl) ?_
  intro p e s m args below meth c A ls σ res Q hF X hw hl hend
  have hx := X.1.1
  have hb := X.1.2.1
  have hl : lv_has ls 1 [(0, .ref (h 18))] := hl
  unfold F_IntStack2_clear at hF
  refine lv_aload_n hx hb d_IntStack_clear_0 rfl (lv_at hl 0 rfl) ?_
  refine lv_iconst (v := 0) hx hb d_IntStack_clear_1 (by decide) ?_
  refine pI_IntStack2_size X hw lk_IntStack_15 d_IntStack_clear_2 hF (fun σ H locs hF hw => ?_)
  exact hend _ _ _ _ _ d_IntStack_clear_5 hF hw
section
variable {p : Program} {l : Launch} {e : Env} {R : Room} {s : State} {m : MethodId} {args : Array Value} {below : List Frame} {meth : Method} {c : Code} {H : Heap} {locs : List Loc} {cells slots : Nat} {Q : State → Prop}
variable {cc : ByteArray} {pc nL ix : Nat} {ls : Array Slot} {rest : List Value} {own : String} {D : va_G} {A : Nat → Prop} {h : Nat → Nat} {cA : Nat → ClassId} {σ : fx_S} {β : Type} {res : β × fx_S}
theorem k_IntStack2_clear (X : fx_X p m c cc nL s args own D fx_cl (fx_tys cA) fx_g fx_G A) (hw : fx_B D fx_cl (fx_ws h cA) A s.heap σ H locs) (lk : Cond.methodLink own ix y_IntStack_clear ∈ fx_g) (hdg : decode cc pc = .ok (.invokevirtual ix, 3)) (hsize : ls.size = nL) (hW : 2 * (F0 m pc ls (.ref (h 18) :: rest)).monitorRoom + (rest.map fun v => v.category).sum ≤ 8) (hR : 0 + 1 ≤ R.frames ∧ 8 + (1 + 11) + 0 ≤ R.locals) (hf : cells ≤ R.cells ∧ slots ≤ R.slots) {k : Unit → fx_M β} (hF : fx_bnd (F_IntStack2_clear) k σ = some res) (kk : ∀ (σ' : fx_S) (H' : Heap) (locs' : List Loc), k () σ' = some res → fx_B D fx_cl (fx_ws h cA) A s.heap σ' H' locs' → W p l e R s m args below meth c H' locs' cells slots Q (F0 m (pc + 3) ls rest)) : W p l e R s m args below meth c H locs cells slots Q (F0 m pc ls (.ref (h 18) :: rest)) :=
  fx_call_v X hw (c_IntStack2_clear l D h cA) (fx_cwV X lk hg_IntStack_clear fx_gok (rm := { frames := 0, cells := 0, slots := 0, locals := 0 }) rfl rfl (by decide +kernel) hR) (va_recv X.2.1 hw.1 (ci := 5) (q0 := 18) rfl rfl) (n := 0) rfl hdg hsize rfl hW hf hF kk
end
set_option maxHeartbeats 4000000 in
set_option maxRecDepth 100000 in
theorem c_Resolver_clear (l : Launch) (D : va_G) (h : Nat → Nat) (cA : Nat → ClassId) : fx_Mv l y_Resolver_clear b_Resolver_clear 1 none { frames := 1, cells := 0, slots := 0, locals := 21 } D fx_cl (fx_tys cA) fx_g fx_G (fx_ws h cA) [.ref (h 13)] (F_Resolver_clear) := by
  refine fx_start_v fx_G_ok (by decide) (Nat.le_of_ble_eq_true rfl) ?_
  intro p e s m args below meth c A ls σ res Q hF X hw hl hend
  have hx := X.1.1
  have hb := X.1.2.1
  have hl : lv_has ls 1 [(0, .ref (h 13))] := hl
  unfold F_Resolver_clear at hF
  refine lv_aload_n hx hb d_Resolver_clear_0 rfl (lv_at hl 0 rfl) ?_
  refine gR_Resolver_waiting X hw lk_Resolver_12 d_Resolver_clear_1 ?_
  refine k_IntStack0_clear X hw lk_Resolver_106 d_Resolver_clear_4 hl.1 (lv_room (Nat.le_of_ble_eq_true rfl)) ⟨Nat.le_of_ble_eq_true rfl, Nat.le_of_ble_eq_true rfl⟩ ⟨Nat.zero_le _, Nat.zero_le _⟩ hF (fun σ H locs hF hw => ?_)
  refine lv_aload_n hx hb d_Resolver_clear_7 rfl (lv_at hl 0 rfl) ?_
  refine gR_Resolver_waitingBefore X hw lk_Resolver_18 d_Resolver_clear_8 ?_
  refine k_IntStack1_clear X hw lk_Resolver_106 d_Resolver_clear_11 hl.1 (lv_room (Nat.le_of_ble_eq_true rfl)) ⟨Nat.le_of_ble_eq_true rfl, Nat.le_of_ble_eq_true rfl⟩ ⟨Nat.zero_le _, Nat.zero_le _⟩ hF (fun σ H locs hF hw => ?_)
  refine lv_aload_n hx hb d_Resolver_clear_14 rfl (lv_at hl 0 rfl) ?_
  refine gR_Resolver_waitingBefore X hw lk_Resolver_18 d_Resolver_clear_15 ?_
  refine lv_iconst (v := 0) hx hb d_Resolver_clear_18 (by decide) ?_
  refine k_IntStack1_push X hw lk_Resolver_85 d_Resolver_clear_19 hl.1 (lv_room (Nat.le_of_ble_eq_true rfl)) ⟨Nat.le_of_ble_eq_true rfl, Nat.le_of_ble_eq_true rfl⟩ ⟨Nat.zero_le _, Nat.zero_le _⟩ hF (fun σ H locs hF hw => ?_)
  refine lv_aload_n hx hb d_Resolver_clear_22 rfl (lv_at hl 0 rfl) ?_
  refine gR_Resolver_ready X hw lk_Resolver_21 d_Resolver_clear_23 ?_
  refine k_IntStack2_clear X hw lk_Resolver_106 d_Resolver_clear_26 hl.1 (lv_room (Nat.le_of_ble_eq_true rfl)) ⟨Nat.le_of_ble_eq_true rfl, Nat.le_of_ble_eq_true rfl⟩ ⟨Nat.zero_le _, Nat.zero_le _⟩ hF (fun σ H locs hF hw => ?_)
  refine lv_aload_n hx hb d_Resolver_clear_29 rfl (lv_at hl 0 rfl) ?_
  refine lv_iconst (v := 0) hx hb d_Resolver_clear_30 (by decide) ?_
  refine pI_Resolver_mostWaiting X hw lk_Resolver_48 d_Resolver_clear_31 hF (fun σ H locs hF hw => ?_)
  refine lv_aload_n hx hb d_Resolver_clear_34 rfl (lv_at hl 0 rfl) ?_
  refine lv_iconst (v := (-1)) hx hb d_Resolver_clear_35 (by decide) ?_
  refine pI_Resolver_clashKind X hw lk_Resolver_52 d_Resolver_clear_36 hF (fun σ H locs hF hw => ?_)
  refine lv_aload_n hx hb d_Resolver_clear_39 rfl (lv_at hl 0 rfl) ?_
  refine lv_iconst (v := (-1)) hx hb d_Resolver_clear_40 (by decide) ?_
  refine pI_Resolver_clashWaiting X hw lk_Resolver_55 d_Resolver_clear_41 hF (fun σ H locs hF hw => ?_)
  refine lv_aload_n hx hb d_Resolver_clear_44 rfl (lv_at hl 0 rfl) ?_
  refine lv_iconst (v := (-1)) hx hb d_Resolver_clear_45 (by decide) ?_
  refine pI_Resolver_clashOther X hw lk_Resolver_58 d_Resolver_clear_46 hF (fun σ H locs hF hw => ?_)
  exact hend _ _ _ _ _ d_Resolver_clear_49 hF hw
section
variable {p : Program} {l : Launch} {e : Env} {R : Room} {s : State} {m : MethodId} {args : Array Value} {below : List Frame} {meth : Method} {c : Code} {H : Heap} {locs : List Loc} {cells slots : Nat} {Q : State → Prop}
variable {cc : ByteArray} {pc nL ix : Nat} {ls : Array Slot} {rest : List Value} {own : String} {D : va_G} {A : Nat → Prop} {h : Nat → Nat} {cA : Nat → ClassId} {σ : fx_S} {β : Type} {res : β × fx_S}
theorem k_Resolver_clear (X : fx_X p m c cc nL s args own D fx_cl (fx_tys cA) fx_g fx_G A) (hw : fx_B D fx_cl (fx_ws h cA) A s.heap σ H locs) (lk : Cond.methodLink own ix y_Resolver_clear ∈ fx_g) (hdg : decode cc pc = .ok (.invokevirtual ix, 3)) (hsize : ls.size = nL) (hW : 2 * (F0 m pc ls (.ref (h 13) :: rest)).monitorRoom + (rest.map fun v => v.category).sum ≤ 8) (hR : 1 + 1 ≤ R.frames ∧ 8 + (1 + 11) + 21 ≤ R.locals) (hf : cells ≤ R.cells ∧ slots ≤ R.slots) {k : Unit → fx_M β} (hF : fx_bnd (F_Resolver_clear) k σ = some res) (kk : ∀ (σ' : fx_S) (H' : Heap) (locs' : List Loc), k () σ' = some res → fx_B D fx_cl (fx_ws h cA) A s.heap σ' H' locs' → W p l e R s m args below meth c H' locs' cells slots Q (F0 m (pc + 3) ls rest)) : W p l e R s m args below meth c H locs cells slots Q (F0 m pc ls (.ref (h 13) :: rest)) :=
  fx_call_v X hw (c_Resolver_clear l D h cA) (fx_cwV X lk hg_Resolver_clear fx_gok (rm := { frames := 1, cells := 0, slots := 0, locals := 21 }) rfl rfl (by decide +kernel) hR) (va_recv X.2.1 hw.1 (ci := 4) (q0 := 13) rfl rfl) (n := 0) rfl hdg hsize rfl hW hf hF kk
end
set_option maxHeartbeats 4000000 in
set_option maxRecDepth 100000 in
theorem c_IntStack1_pop (l : Launch) (D : va_G) (h : Nat → Nat) (cA : Nat → ClassId) : fx_Mi l y_IntStack_pop b_IntStack_pop 1 (some .int) { frames := 0, cells := 0, slots := 0, locals := 0 } D fx_cl (fx_tys cA) fx_g fx_G (fx_ws h cA) [.ref (h 16)] (F_IntStack1_pop) := by
  refine fx_start_i fx_G_ok (by decide) (Nat.le_of_ble_eq_true rfl) ?_
  intro p e s m args below meth c A ls σ res Q hF X hw hl hend
  have hx := X.1.1
  have hb := X.1.2.1
  have hl : lv_has ls 1 [(0, .ref (h 16))] := hl
  unfold F_IntStack1_pop at hF
  refine lv_aload_n hx hb d_IntStack_pop_0 rfl (lv_at hl 0 rfl) ?_
  refine gI_IntStack1_size X hw lk_IntStack_15 d_IntStack_pop_1 hF (fun x1 hF => ?_)
  refine lv_if_gt (tgt := 9) hx hb d_IntStack_pop_4 (by decide) (fun hc => ?_) (fun hc => ?_)
  · have hF := fx_it hc hF
    refine lv_aload_n hx hb d_IntStack_pop_9 rfl (lv_at hl 0 rfl) ?_
    refine lv_dup hx hb d_IntStack_pop_10 rfl ?_
    refine gI_IntStack1_size X hw lk_IntStack_15 d_IntStack_pop_11 hF (fun x2 hF => ?_)
    refine lv_iconst (v := 1) hx hb d_IntStack_pop_14 (by decide) ?_
    refine lv_isub hx hb d_IntStack_pop_15 ?_
    refine pI_IntStack1_size X hw lk_IntStack_15 d_IntStack_pop_16 hF (fun σ H locs hF hw => ?_)
    refine lv_aload_n hx hb d_IntStack_pop_19 rfl (lv_at hl 0 rfl) ?_
    refine gR_IntStack1_values X hw lk_IntStack_9 d_IntStack_pop_20 ?_
    refine lv_aload_n hx hb d_IntStack_pop_23 rfl (lv_at hl 0 rfl) ?_
    refine gI_IntStack1_size X hw lk_IntStack_15 d_IntStack_pop_24 hF (fun x3 hF => ?_)
    refine lA_IntStack1_values X hw d_IntStack_pop_27 hF (fun x4 hF => ?_)
    exact hend _ _ _ _ _ _ d_IntStack_pop_28 hF hw
  · have hF := fx_if hc hF
    refine lv_iconst (v := (-1)) hx hb d_IntStack_pop_7 (by decide) ?_
    exact hend _ _ _ _ _ _ d_IntStack_pop_8 hF hw
section
variable {p : Program} {l : Launch} {e : Env} {R : Room} {s : State} {m : MethodId} {args : Array Value} {below : List Frame} {meth : Method} {c : Code} {H : Heap} {locs : List Loc} {cells slots : Nat} {Q : State → Prop}
variable {cc : ByteArray} {pc nL ix : Nat} {ls : Array Slot} {rest : List Value} {own : String} {D : va_G} {A : Nat → Prop} {h : Nat → Nat} {cA : Nat → ClassId} {σ : fx_S} {β : Type} {res : β × fx_S}
theorem k_IntStack1_pop (X : fx_X p m c cc nL s args own D fx_cl (fx_tys cA) fx_g fx_G A) (hw : fx_B D fx_cl (fx_ws h cA) A s.heap σ H locs) (lk : Cond.methodLink own ix y_IntStack_pop ∈ fx_g) (hdg : decode cc pc = .ok (.invokevirtual ix, 3)) (hsize : ls.size = nL) (hW : 2 * (F0 m pc ls (.ref (h 16) :: rest)).monitorRoom + (rest.map fun v => v.category).sum ≤ 8) (hR : 0 + 1 ≤ R.frames ∧ 8 + (1 + 11) + 0 ≤ R.locals) (hf : cells ≤ R.cells ∧ slots ≤ R.slots) {k : Int32 → fx_M β} (hF : fx_bnd (F_IntStack1_pop) k σ = some res) (kk : ∀ (r : Int32) (σ' : fx_S) (H' : Heap) (locs' : List Loc), k r σ' = some res → fx_B D fx_cl (fx_ws h cA) A s.heap σ' H' locs' → W p l e R s m args below meth c H' locs' cells slots Q (F0 m (pc + 3) ls (.int r :: rest))) : W p l e R s m args below meth c H locs cells slots Q (F0 m pc ls (.ref (h 16) :: rest)) :=
  fx_call_i X hw (c_IntStack1_pop l D h cA) (fx_cwV X lk hg_IntStack_pop fx_gok (rm := { frames := 0, cells := 0, slots := 0, locals := 0 }) rfl rfl (by decide +kernel) hR) (va_recv X.2.1 hw.1 (ci := 5) (q0 := 16) rfl rfl) (n := 0) rfl hdg hsize rfl hW hf hF kk
end
set_option maxHeartbeats 4000000 in
set_option maxRecDepth 100000 in
theorem c_IntStack0_size (l : Launch) (D : va_G) (h : Nat → Nat) (cA : Nat → ClassId) : fx_Mi l y_IntStack_size b_IntStack_size 1 (some .int) { frames := 0, cells := 0, slots := 0, locals := 0 } D fx_cl (fx_tys cA) fx_g fx_G (fx_ws h cA) [.ref (h 14)] (F_IntStack0_size) := by
  refine fx_start_i fx_G_ok (by decide) (Nat.le_of_ble_eq_true rfl) ?_
  intro p e s m args below meth c A ls σ res Q hF X hw hl hend
  have hx := X.1.1
  have hb := X.1.2.1
  have hl : lv_has ls 1 [(0, .ref (h 14))] := hl
  unfold F_IntStack0_size at hF
  refine lv_aload_n hx hb d_IntStack_size_0 rfl (lv_at hl 0 rfl) ?_
  refine gI_IntStack0_size X hw lk_IntStack_15 d_IntStack_size_1 hF (fun x1 hF => ?_)
  exact hend _ _ _ _ _ _ d_IntStack_size_4 hF hw
section
variable {p : Program} {l : Launch} {e : Env} {R : Room} {s : State} {m : MethodId} {args : Array Value} {below : List Frame} {meth : Method} {c : Code} {H : Heap} {locs : List Loc} {cells slots : Nat} {Q : State → Prop}
variable {cc : ByteArray} {pc nL ix : Nat} {ls : Array Slot} {rest : List Value} {own : String} {D : va_G} {A : Nat → Prop} {h : Nat → Nat} {cA : Nat → ClassId} {σ : fx_S} {β : Type} {res : β × fx_S}
theorem k_IntStack0_size (X : fx_X p m c cc nL s args own D fx_cl (fx_tys cA) fx_g fx_G A) (hw : fx_B D fx_cl (fx_ws h cA) A s.heap σ H locs) (lk : Cond.methodLink own ix y_IntStack_size ∈ fx_g) (hdg : decode cc pc = .ok (.invokevirtual ix, 3)) (hsize : ls.size = nL) (hW : 2 * (F0 m pc ls (.ref (h 14) :: rest)).monitorRoom + (rest.map fun v => v.category).sum ≤ 8) (hR : 0 + 1 ≤ R.frames ∧ 8 + (1 + 11) + 0 ≤ R.locals) (hf : cells ≤ R.cells ∧ slots ≤ R.slots) {k : Int32 → fx_M β} (hF : fx_bnd (F_IntStack0_size) k σ = some res) (kk : ∀ (r : Int32) (σ' : fx_S) (H' : Heap) (locs' : List Loc), k r σ' = some res → fx_B D fx_cl (fx_ws h cA) A s.heap σ' H' locs' → W p l e R s m args below meth c H' locs' cells slots Q (F0 m (pc + 3) ls (.int r :: rest))) : W p l e R s m args below meth c H locs cells slots Q (F0 m pc ls (.ref (h 14) :: rest)) :=
  fx_call_i X hw (c_IntStack0_size l D h cA) (fx_cwV X lk hg_IntStack_size fx_gok (rm := { frames := 0, cells := 0, slots := 0, locals := 0 }) rfl rfl (by decide +kernel) hR) (va_recv X.2.1 hw.1 (ci := 5) (q0 := 14) rfl rfl) (n := 0) rfl hdg hsize rfl hW hf hF kk
end
set_option maxHeartbeats 4000000 in
set_option maxRecDepth 100000 in
theorem c_IntStack1_top (l : Launch) (D : va_G) (h : Nat → Nat) (cA : Nat → ClassId) : fx_Mi l y_IntStack_top b_IntStack_top 1 (some .int) { frames := 0, cells := 0, slots := 0, locals := 0 } D fx_cl (fx_tys cA) fx_g fx_G (fx_ws h cA) [.ref (h 16)] (F_IntStack1_top) := by
  refine fx_start_i fx_G_ok (by decide) (Nat.le_of_ble_eq_true rfl) ?_
  intro p e s m args below meth c A ls σ res Q hF X hw hl hend
  have hx := X.1.1
  have hb := X.1.2.1
  have hl : lv_has ls 1 [(0, .ref (h 16))] := hl
  unfold F_IntStack1_top at hF
  refine lv_aload_n hx hb d_IntStack_top_0 rfl (lv_at hl 0 rfl) ?_
  refine gI_IntStack1_size X hw lk_IntStack_15 d_IntStack_top_1 hF (fun x1 hF => ?_)
  refine lv_if_le (tgt := 21) hx hb d_IntStack_top_4 (by decide) (fun hc => ?_) (fun hc => ?_)
  · have hF := fx_it hc hF
    refine lv_iconst (v := (-1)) hx hb d_IntStack_top_21 (by decide) ?_
    exact hend _ _ _ _ _ _ d_IntStack_top_22 hF hw
  · have hF := fx_if hc hF
    refine lv_aload_n hx hb d_IntStack_top_7 rfl (lv_at hl 0 rfl) ?_
    refine gR_IntStack1_values X hw lk_IntStack_9 d_IntStack_top_8 ?_
    refine lv_aload_n hx hb d_IntStack_top_11 rfl (lv_at hl 0 rfl) ?_
    refine gI_IntStack1_size X hw lk_IntStack_15 d_IntStack_top_12 hF (fun x2 hF => ?_)
    refine lv_iconst (v := 1) hx hb d_IntStack_top_15 (by decide) ?_
    refine lv_isub hx hb d_IntStack_top_16 ?_
    refine lA_IntStack1_values X hw d_IntStack_top_17 hF (fun x3 hF => ?_)
    refine lv_goto (tgt := 22) hx hb d_IntStack_top_18 (by decide) ?_
    exact hend _ _ _ _ _ _ d_IntStack_top_22 hF hw
section
variable {p : Program} {l : Launch} {e : Env} {R : Room} {s : State} {m : MethodId} {args : Array Value} {below : List Frame} {meth : Method} {c : Code} {H : Heap} {locs : List Loc} {cells slots : Nat} {Q : State → Prop}
variable {cc : ByteArray} {pc nL ix : Nat} {ls : Array Slot} {rest : List Value} {own : String} {D : va_G} {A : Nat → Prop} {h : Nat → Nat} {cA : Nat → ClassId} {σ : fx_S} {β : Type} {res : β × fx_S}
theorem k_IntStack1_top (X : fx_X p m c cc nL s args own D fx_cl (fx_tys cA) fx_g fx_G A) (hw : fx_B D fx_cl (fx_ws h cA) A s.heap σ H locs) (lk : Cond.methodLink own ix y_IntStack_top ∈ fx_g) (hdg : decode cc pc = .ok (.invokevirtual ix, 3)) (hsize : ls.size = nL) (hW : 2 * (F0 m pc ls (.ref (h 16) :: rest)).monitorRoom + (rest.map fun v => v.category).sum ≤ 8) (hR : 0 + 1 ≤ R.frames ∧ 8 + (1 + 11) + 0 ≤ R.locals) (hf : cells ≤ R.cells ∧ slots ≤ R.slots) {k : Int32 → fx_M β} (hF : fx_bnd (F_IntStack1_top) k σ = some res) (kk : ∀ (r : Int32) (σ' : fx_S) (H' : Heap) (locs' : List Loc), k r σ' = some res → fx_B D fx_cl (fx_ws h cA) A s.heap σ' H' locs' → W p l e R s m args below meth c H' locs' cells slots Q (F0 m (pc + 3) ls (.int r :: rest))) : W p l e R s m args below meth c H locs cells slots Q (F0 m pc ls (.ref (h 16) :: rest)) :=
  fx_call_i X hw (c_IntStack1_top l D h cA) (fx_cwV X lk hg_IntStack_top fx_gok (rm := { frames := 0, cells := 0, slots := 0, locals := 0 }) rfl rfl (by decide +kernel) hR) (va_recv X.2.1 hw.1 (ci := 5) (q0 := 16) rfl rfl) (n := 0) rfl hdg hsize rfl hW hf hF kk
end
set_option maxHeartbeats 4000000 in
set_option maxRecDepth 100000 in
theorem c_Resolver_oneWaits (l : Launch) (D : va_G) (h : Nat → Nat) (cA : Nat → ClassId) : fx_Mi l y_Resolver_oneWaits b_Resolver_oneWaits 1 (some .boolean) { frames := 1, cells := 0, slots := 0, locals := 20 } D fx_cl (fx_tys cA) fx_g fx_G (fx_ws h cA) [.ref (h 13)] (F_Resolver_oneWaits) := by
  refine fx_start_z fx_G_ok (by decide) (Nat.le_of_ble_eq_true rfl) ?_
  intro p e s m args below meth c A ls σ res Q hF X hw hl hend
  have hx := X.1.1
  have hb := X.1.2.1
  have hl : lv_has ls 1 [(0, .ref (h 13))] := hl
  unfold F_Resolver_oneWaits at hF
  refine lv_aload_n hx hb d_Resolver_oneWaits_0 rfl (lv_at hl 0 rfl) ?_
  refine gR_Resolver_waiting X hw lk_Resolver_12 d_Resolver_oneWaits_1 ?_
  refine k_IntStack0_size X hw lk_Resolver_84 d_Resolver_oneWaits_4 hl.1 (lv_room (Nat.le_of_ble_eq_true rfl)) ⟨Nat.le_of_ble_eq_true rfl, Nat.le_of_ble_eq_true rfl⟩ ⟨Nat.zero_le _, Nat.zero_le _⟩ hF (fun x1 σ H locs hF hw => ?_)
  refine lv_aload_n hx hb d_Resolver_oneWaits_7 rfl (lv_at hl 0 rfl) ?_
  refine gR_Resolver_waitingBefore X hw lk_Resolver_18 d_Resolver_oneWaits_8 ?_
  refine k_IntStack1_top X hw lk_Resolver_97 d_Resolver_oneWaits_11 hl.1 (lv_room (Nat.le_of_ble_eq_true rfl)) ⟨Nat.le_of_ble_eq_true rfl, Nat.le_of_ble_eq_true rfl⟩ ⟨Nat.zero_le _, Nat.zero_le _⟩ hF (fun x2 σ H locs hF hw => ?_)
  refine lv_icmp_le (tgt := 21) hx hb d_Resolver_oneWaits_14 (by decide) (fun hc => ?_) (fun hc => ?_)
  · have hF := fx_it hc hF
    refine lv_iconst (v := 0) hx hb d_Resolver_oneWaits_21 (by decide) ?_
    exact hend _ _ _ _ _ _ d_Resolver_oneWaits_22 hF hw
  · have hF := fx_if hc hF
    refine lv_iconst (v := 1) hx hb d_Resolver_oneWaits_17 (by decide) ?_
    refine lv_goto (tgt := 22) hx hb d_Resolver_oneWaits_18 (by decide) ?_
    exact hend _ _ _ _ _ _ d_Resolver_oneWaits_22 hF hw
section
variable {p : Program} {l : Launch} {e : Env} {R : Room} {s : State} {m : MethodId} {args : Array Value} {below : List Frame} {meth : Method} {c : Code} {H : Heap} {locs : List Loc} {cells slots : Nat} {Q : State → Prop}
variable {cc : ByteArray} {pc nL ix : Nat} {ls : Array Slot} {rest : List Value} {own : String} {D : va_G} {A : Nat → Prop} {h : Nat → Nat} {cA : Nat → ClassId} {σ : fx_S} {β : Type} {res : β × fx_S}
theorem k_Resolver_oneWaits (X : fx_X p m c cc nL s args own D fx_cl (fx_tys cA) fx_g fx_G A) (hw : fx_B D fx_cl (fx_ws h cA) A s.heap σ H locs) (lk : Cond.methodLink own ix y_Resolver_oneWaits ∈ fx_g) (hdg : decode cc pc = .ok (.invokevirtual ix, 3)) (hsize : ls.size = nL) (hW : 2 * (F0 m pc ls (.ref (h 13) :: rest)).monitorRoom + (rest.map fun v => v.category).sum ≤ 8) (hR : 1 + 1 ≤ R.frames ∧ 8 + (1 + 11) + 20 ≤ R.locals) (hf : cells ≤ R.cells ∧ slots ≤ R.slots) {k : Int32 → fx_M β} (hF : fx_bnd (F_Resolver_oneWaits) k σ = some res) (kk : ∀ (r : Int32) (σ' : fx_S) (H' : Heap) (locs' : List Loc), k r σ' = some res → fx_B D fx_cl (fx_ws h cA) A s.heap σ' H' locs' → W p l e R s m args below meth c H' locs' cells slots Q (F0 m (pc + 3) ls (.int r :: rest))) : W p l e R s m args below meth c H locs cells slots Q (F0 m pc ls (.ref (h 13) :: rest)) :=
  fx_call_i X hw (c_Resolver_oneWaits l D h cA) (fx_cwV X lk hg_Resolver_oneWaits fx_gok (rm := { frames := 1, cells := 0, slots := 0, locals := 20 }) rfl rfl (by decide +kernel) hR) (va_recv X.2.1 hw.1 (ci := 4) (q0 := 13) rfl rfl) (n := 0) rfl hdg hsize rfl hW hf hF kk
end
set_option maxHeartbeats 4000000 in
set_option maxRecDepth 100000 in
theorem c_IntStack0_pop (l : Launch) (D : va_G) (h : Nat → Nat) (cA : Nat → ClassId) : fx_Mi l y_IntStack_pop b_IntStack_pop 1 (some .int) { frames := 0, cells := 0, slots := 0, locals := 0 } D fx_cl (fx_tys cA) fx_g fx_G (fx_ws h cA) [.ref (h 14)] (F_IntStack0_pop) := by
  refine fx_start_i fx_G_ok (by decide) (Nat.le_of_ble_eq_true rfl) ?_
  intro p e s m args below meth c A ls σ res Q hF X hw hl hend
  have hx := X.1.1
  have hb := X.1.2.1
  have hl : lv_has ls 1 [(0, .ref (h 14))] := hl
  unfold F_IntStack0_pop at hF
  refine lv_aload_n hx hb d_IntStack_pop_0 rfl (lv_at hl 0 rfl) ?_
  refine gI_IntStack0_size X hw lk_IntStack_15 d_IntStack_pop_1 hF (fun x1 hF => ?_)
  refine lv_if_gt (tgt := 9) hx hb d_IntStack_pop_4 (by decide) (fun hc => ?_) (fun hc => ?_)
  · have hF := fx_it hc hF
    refine lv_aload_n hx hb d_IntStack_pop_9 rfl (lv_at hl 0 rfl) ?_
    refine lv_dup hx hb d_IntStack_pop_10 rfl ?_
    refine gI_IntStack0_size X hw lk_IntStack_15 d_IntStack_pop_11 hF (fun x2 hF => ?_)
    refine lv_iconst (v := 1) hx hb d_IntStack_pop_14 (by decide) ?_
    refine lv_isub hx hb d_IntStack_pop_15 ?_
    refine pI_IntStack0_size X hw lk_IntStack_15 d_IntStack_pop_16 hF (fun σ H locs hF hw => ?_)
    refine lv_aload_n hx hb d_IntStack_pop_19 rfl (lv_at hl 0 rfl) ?_
    refine gR_IntStack0_values X hw lk_IntStack_9 d_IntStack_pop_20 ?_
    refine lv_aload_n hx hb d_IntStack_pop_23 rfl (lv_at hl 0 rfl) ?_
    refine gI_IntStack0_size X hw lk_IntStack_15 d_IntStack_pop_24 hF (fun x3 hF => ?_)
    refine lA_IntStack0_values X hw d_IntStack_pop_27 hF (fun x4 hF => ?_)
    exact hend _ _ _ _ _ _ d_IntStack_pop_28 hF hw
  · have hF := fx_if hc hF
    refine lv_iconst (v := (-1)) hx hb d_IntStack_pop_7 (by decide) ?_
    exact hend _ _ _ _ _ _ d_IntStack_pop_8 hF hw
section
variable {p : Program} {l : Launch} {e : Env} {R : Room} {s : State} {m : MethodId} {args : Array Value} {below : List Frame} {meth : Method} {c : Code} {H : Heap} {locs : List Loc} {cells slots : Nat} {Q : State → Prop}
variable {cc : ByteArray} {pc nL ix : Nat} {ls : Array Slot} {rest : List Value} {own : String} {D : va_G} {A : Nat → Prop} {h : Nat → Nat} {cA : Nat → ClassId} {σ : fx_S} {β : Type} {res : β × fx_S}
theorem k_IntStack0_pop (X : fx_X p m c cc nL s args own D fx_cl (fx_tys cA) fx_g fx_G A) (hw : fx_B D fx_cl (fx_ws h cA) A s.heap σ H locs) (lk : Cond.methodLink own ix y_IntStack_pop ∈ fx_g) (hdg : decode cc pc = .ok (.invokevirtual ix, 3)) (hsize : ls.size = nL) (hW : 2 * (F0 m pc ls (.ref (h 14) :: rest)).monitorRoom + (rest.map fun v => v.category).sum ≤ 8) (hR : 0 + 1 ≤ R.frames ∧ 8 + (1 + 11) + 0 ≤ R.locals) (hf : cells ≤ R.cells ∧ slots ≤ R.slots) {k : Int32 → fx_M β} (hF : fx_bnd (F_IntStack0_pop) k σ = some res) (kk : ∀ (r : Int32) (σ' : fx_S) (H' : Heap) (locs' : List Loc), k r σ' = some res → fx_B D fx_cl (fx_ws h cA) A s.heap σ' H' locs' → W p l e R s m args below meth c H' locs' cells slots Q (F0 m (pc + 3) ls (.int r :: rest))) : W p l e R s m args below meth c H locs cells slots Q (F0 m pc ls (.ref (h 14) :: rest)) :=
  fx_call_i X hw (c_IntStack0_pop l D h cA) (fx_cwV X lk hg_IntStack_pop fx_gok (rm := { frames := 0, cells := 0, slots := 0, locals := 0 }) rfl rfl (by decide +kernel) hR) (va_recv X.2.1 hw.1 (ci := 5) (q0 := 14) rfl rfl) (n := 0) rfl hdg hsize rfl hW hf hF kk
end
set_option maxHeartbeats 4000000 in
set_option maxRecDepth 100000 in
theorem c_Resolver_isPlace (l : Launch) (D : va_G) (h : Nat → Nat) (cA : Nat → ClassId) (v0 : Int32) : fx_Mi l y_Resolver_isPlace b_Resolver_isPlace 1 (some .boolean) { frames := 0, cells := 0, slots := 0, locals := 0 } D fx_cl (fx_tys cA) fx_g fx_G (fx_ws h cA) [.int v0] (F_Resolver_isPlace v0) := by
  refine fx_start_z fx_G_ok (by decide) (Nat.le_of_ble_eq_true rfl) ?_
  intro p e s m args below meth c A ls σ res Q hF X hw hl hend
  have hx := X.1.1
  have hb := X.1.2.1
  have hl : lv_has ls 1 [(0, .int v0)] := hl
  unfold F_Resolver_isPlace at hF
  refine lv_iload_n hx hb d_Resolver_isPlace_0 rfl (lv_at hl 0 rfl) ?_
  refine lv_if_lt (tgt := 15) hx hb d_Resolver_isPlace_1 (by decide) (fun hc => ?_) (fun hc => ?_)
  · have hF := fx_it hc hF
    refine lv_iconst (v := 0) hx hb d_Resolver_isPlace_15 (by decide) ?_
    exact hend _ _ _ _ _ _ d_Resolver_isPlace_16 hF hw
  · have hF := fx_if hc hF
    refine lv_iload_n hx hb d_Resolver_isPlace_4 rfl (lv_at hl 0 rfl) ?_
    refine lv_sipush (v := 200) hx hb d_Resolver_isPlace_5 (by decide) ?_
    refine lv_icmp_ge (tgt := 15) hx hb d_Resolver_isPlace_8 (by decide) (fun hc => ?_) (fun hc => ?_)
    · have hF := fx_it hc hF
      refine lv_iconst (v := 0) hx hb d_Resolver_isPlace_15 (by decide) ?_
      exact hend _ _ _ _ _ _ d_Resolver_isPlace_16 hF hw
    · have hF := fx_if hc hF
      refine lv_iconst (v := 1) hx hb d_Resolver_isPlace_11 (by decide) ?_
      refine lv_goto (tgt := 16) hx hb d_Resolver_isPlace_12 (by decide) ?_
      exact hend _ _ _ _ _ _ d_Resolver_isPlace_16 hF hw
section
variable {p : Program} {l : Launch} {e : Env} {R : Room} {s : State} {m : MethodId} {args : Array Value} {below : List Frame} {meth : Method} {c : Code} {H : Heap} {locs : List Loc} {cells slots : Nat} {Q : State → Prop}
variable {cc : ByteArray} {pc nL ix : Nat} {ls : Array Slot} {rest : List Value} {own : String} {D : va_G} {A : Nat → Prop} {h : Nat → Nat} {cA : Nat → ClassId} {σ : fx_S} {β : Type} {res : β × fx_S}
theorem kN_Resolver_isPlace {v0 : Int32} (X : fx_X p m c cc nL s args own D fx_cl (fx_tys cA) fx_g fx_G A) (hw : fx_B D fx_cl (fx_ws h cA) A s.heap σ H locs) {host : String} (lk : va_Nw (.methodLinkNest own ix y_Resolver_isPlace host) s) (hdg : decode cc pc = .ok (.invokestatic ix, 3)) (hsize : ls.size = nL) (hW : 2 * (F0 m pc ls (.int v0 :: rest)).monitorRoom + (rest.map fun v => v.category).sum ≤ 8) (hR : 0 + 1 ≤ R.frames ∧ 8 + (1 + 11) + 0 ≤ R.locals) (hf : cells ≤ R.cells ∧ slots ≤ R.slots) {k : Int32 → fx_M β} (hF : fx_bnd (F_Resolver_isPlace v0) k σ = some res) (kk : ∀ (r : Int32) (σ' : fx_S) (H' : Heap) (locs' : List Loc), k r σ' = some res → fx_B D fx_cl (fx_ws h cA) A s.heap σ' H' locs' → W p l e R s m args below meth c H' locs' cells slots Q (F0 m (pc + 3) ls (.int r :: rest))) : W p l e R s m args below meth c H locs cells slots Q (F0 m pc ls (.int v0 :: rest)) :=
  fx_callN_i X hw (c_Resolver_isPlace l D h cA v0) (fx_cwN X lk hg_Resolver_isPlace fx_gok (rm := { frames := 0, cells := 0, slots := 0, locals := 0 }) rfl rfl (by decide +kernel) hR) (n := 1) rfl hdg hsize rfl hW hf hF kk
theorem k_Resolver_isPlace {v0 : Int32} (X : fx_X p m c cc nL s args own D fx_cl (fx_tys cA) fx_g fx_G A) (hw : fx_B D fx_cl (fx_ws h cA) A s.heap σ H locs) (lk : Cond.methodLink own ix y_Resolver_isPlace ∈ fx_g) (hdg : decode cc pc = .ok (.invokestatic ix, 3)) (hsize : ls.size = nL) (hW : 2 * (F0 m pc ls (.int v0 :: rest)).monitorRoom + (rest.map fun v => v.category).sum ≤ 8) (hR : 0 + 1 ≤ R.frames ∧ 8 + (1 + 11) + 0 ≤ R.locals) (hf : cells ≤ R.cells ∧ slots ≤ R.slots) {k : Int32 → fx_M β} (hF : fx_bnd (F_Resolver_isPlace v0) k σ = some res) (kk : ∀ (r : Int32) (σ' : fx_S) (H' : Heap) (locs' : List Loc), k r σ' = some res → fx_B D fx_cl (fx_ws h cA) A s.heap σ' H' locs' → W p l e R s m args below meth c H' locs' cells slots Q (F0 m (pc + 3) ls (.int r :: rest))) : W p l e R s m args below meth c H locs cells slots Q (F0 m pc ls (.int v0 :: rest)) :=
  fx_calls_i X hw (c_Resolver_isPlace l D h cA v0) (fx_cwS X lk hg_Resolver_isPlace fx_gok (rm := { frames := 0, cells := 0, slots := 0, locals := 0 }) rfl rfl (by decide +kernel) hR) (n := 1) rfl hdg hsize rfl hW hf hF kk
end
set_option maxHeartbeats 4000000 in
set_option maxRecDepth 100000 in
theorem c_Row_nodeKindAt (l : Launch) (D : va_G) (h : Nat → Nat) (cA : Nat → ClassId) (v1 : Int32) : fx_Mi l y_Row_nodeKindAt b_Row_nodeKindAt 2 (some .int) { frames := 1, cells := 0, slots := 0, locals := 21 } D fx_cl (fx_tys cA) fx_g fx_G (fx_ws h cA) [.ref (h 7), .int v1] (F_Row_nodeKindAt v1) := by
  refine fx_start_i fx_G_ok (by decide) (Nat.le_of_ble_eq_true rfl) ?_
  intro p e s m args below meth c A ls σ res Q hF X hw hl hend
  have hx := X.1.1
  have hb := X.1.2.1
  have hl : lv_has ls 2 [(0, .ref (h 7)), (1, .int v1)] := hl
  unfold F_Row_nodeKindAt at hF
  refine lv_aload_n hx hb d_Row_nodeKindAt_0 rfl (lv_at hl 0 rfl) ?_
  refine lv_iload_n hx hb d_Row_nodeKindAt_1 rfl (lv_at hl 1 rfl) ?_
  refine k_Row_has X hw lk_Row_40 d_Row_nodeKindAt_2 hl.1 (lv_room (Nat.le_of_ble_eq_true rfl)) ⟨Nat.le_of_ble_eq_true rfl, Nat.le_of_ble_eq_true rfl⟩ ⟨Nat.zero_le _, Nat.zero_le _⟩ hF (fun x1 σ H locs hF hw => ?_)
  refine lv_if_eq (tgt := 17) hx hb d_Row_nodeKindAt_5 (by decide) (fun hc => ?_) (fun hc => ?_)
  · have hF := fx_it hc hF
    refine lv_iconst (v := (-1)) hx hb d_Row_nodeKindAt_17 (by decide) ?_
    exact hend _ _ _ _ _ _ d_Row_nodeKindAt_18 hF hw
  · have hF := fx_if hc hF
    refine lv_aload_n hx hb d_Row_nodeKindAt_8 rfl (lv_at hl 0 rfl) ?_
    refine gR_Row_nodeKinds X hw lk_Row_15 d_Row_nodeKindAt_9 ?_
    refine lv_iload_n hx hb d_Row_nodeKindAt_12 rfl (lv_at hl 1 rfl) ?_
    refine lA_Row_nodeKinds X hw d_Row_nodeKindAt_13 hF (fun x2 hF => ?_)
    refine lv_goto (tgt := 18) hx hb d_Row_nodeKindAt_14 (by decide) ?_
    exact hend _ _ _ _ _ _ d_Row_nodeKindAt_18 hF hw
section
variable {p : Program} {l : Launch} {e : Env} {R : Room} {s : State} {m : MethodId} {args : Array Value} {below : List Frame} {meth : Method} {c : Code} {H : Heap} {locs : List Loc} {cells slots : Nat} {Q : State → Prop}
variable {cc : ByteArray} {pc nL ix : Nat} {ls : Array Slot} {rest : List Value} {own : String} {D : va_G} {A : Nat → Prop} {h : Nat → Nat} {cA : Nat → ClassId} {σ : fx_S} {β : Type} {res : β × fx_S}
theorem k_Row_nodeKindAt {v1 : Int32} (X : fx_X p m c cc nL s args own D fx_cl (fx_tys cA) fx_g fx_G A) (hw : fx_B D fx_cl (fx_ws h cA) A s.heap σ H locs) (lk : Cond.methodLink own ix y_Row_nodeKindAt ∈ fx_g) (hdg : decode cc pc = .ok (.invokevirtual ix, 3)) (hsize : ls.size = nL) (hW : 2 * (F0 m pc ls (.int v1 :: .ref (h 7) :: rest)).monitorRoom + (rest.map fun v => v.category).sum ≤ 8) (hR : 1 + 1 ≤ R.frames ∧ 8 + (2 + 11) + 21 ≤ R.locals) (hf : cells ≤ R.cells ∧ slots ≤ R.slots) {k : Int32 → fx_M β} (hF : fx_bnd (F_Row_nodeKindAt v1) k σ = some res) (kk : ∀ (r : Int32) (σ' : fx_S) (H' : Heap) (locs' : List Loc), k r σ' = some res → fx_B D fx_cl (fx_ws h cA) A s.heap σ' H' locs' → W p l e R s m args below meth c H' locs' cells slots Q (F0 m (pc + 3) ls (.int r :: rest))) : W p l e R s m args below meth c H locs cells slots Q (F0 m pc ls (.int v1 :: .ref (h 7) :: rest)) :=
  fx_call_i X hw (c_Row_nodeKindAt l D h cA v1) (fx_cwV X lk hg_Row_nodeKindAt fx_gok (rm := { frames := 1, cells := 0, slots := 0, locals := 21 }) rfl rfl (by decide +kernel) hR) (va_recv X.2.1 hw.1 (ci := 3) (q0 := 7) rfl rfl) (n := 1) rfl hdg hsize rfl hW hf hF kk
end
