set_option maxHeartbeats 4000000 in
set_option maxRecDepth 100000 in
theorem c_Md_thrown (l : Launch) (D : va_G) (h : Nat → Nat) (cA : Nat → ClassId) : fx_Mi l y_Md_thrown b_Md_thrown 1 (some .int) { frames := 0, cells := 0, slots := 0, locals := 0 } D fx_cl (fx_tys cA) fx_g fx_G (rf_ws h cA) [.ref (h 0)] (F_Md_thrown) := by
  refine fx_start_i fx_G_ok (by decide) (Nat.le_of_ble_eq_true rfl) ?_
  intro p e s m args below meth c A ls σ res Q hF X hw hl hend
  have hx := X.1.1
  have hb := X.1.2.1
  have hl : lv_has ls 1 [(0, .ref (h 0))] := hl
  unfold F_Md_thrown at hF
  refine lv_aload_n hx hb d_Md_thrown_0 rfl (lv_at hl 0 rfl) ?_
  refine gI_Md_code X hw lk_Md_113 d_Md_thrown_1 hF (fun x1 hF => ?_)
  exact hend _ _ _ _ _ _ d_Md_thrown_4 hF hw
section
variable {p : Program} {l : Launch} {e : Env} {R : Room} {s : State} {m : MethodId} {args : Array Value} {below : List Frame} {meth : Method} {c : Code} {H : Heap} {locs : List Loc} {cells slots : Nat} {Q : State → Prop}
variable {cc : ByteArray} {pc nL ix : Nat} {ls : Array Slot} {rest : List Value} {own : String} {D : va_G} {A : Nat → Prop} {h : Nat → Nat} {cA : Nat → ClassId} {σ : fx_S} {β : Type} {res : β × fx_S}
theorem k_Md_thrown (X : fx_X p m c cc nL s args own D fx_cl (fx_tys cA) fx_g fx_G A) (hw : fx_B D fx_cl (rf_ws h cA) A s.heap σ H locs) (lk : Cond.methodLink own ix y_Md_thrown ∈ fx_g) (hdg : decode cc pc = .ok (.invokevirtual ix, 3)) (hsize : ls.size = nL) (hW : 2 * (F0 m pc ls (.ref (h 0) :: rest)).monitorRoom + (rest.map fun v => v.category).sum ≤ 8) (hR : 0 + 1 ≤ R.frames ∧ 8 + (1 + 11) + 0 ≤ R.locals) (hf : cells ≤ R.cells ∧ slots ≤ R.slots) {k : Int32 → fx_M β} (hF : fx_bnd (F_Md_thrown) k σ = some res) (kk : ∀ (r : Int32) (σ' : fx_S) (H' : Heap) (locs' : List Loc), k r σ' = some res → fx_B D fx_cl (rf_ws h cA) A s.heap σ' H' locs' → W p l e R s m args below meth c H' locs' cells slots Q (F0 m (pc + 3) ls (.int r :: rest))) : W p l e R s m args below meth c H locs cells slots Q (F0 m pc ls (.ref (h 0) :: rest)) :=
  fx_call_i X hw (c_Md_thrown l D h cA) (fx_cwV X lk hg_Md_thrown fx_gok (rm := { frames := 0, cells := 0, slots := 0, locals := 0 }) rfl rfl (by decide +kernel) hR) (va_recv X.2.1 hw.1 (ci := 8) (q0 := 0) rfl rfl) (n := 0) rfl hdg hsize rfl hW hf hF kk
end
set_option maxHeartbeats 4000000 in
set_option maxRecDepth 100000 in
theorem c_Md_isIn (l : Launch) (D : va_G) (h : Nat → Nat) (cA : Nat → ClassId) (v0 : Int32) (v1 : Int32) (v2 : Int32) : fx_Mi l y_Md_isIn b_Md_isIn 3 (some .boolean) { frames := 0, cells := 0, slots := 0, locals := 0 } D fx_cl (fx_tys cA) fx_g fx_G (rf_ws h cA) [.int v0, .int v1, .int v2] (F_Md_isIn v0 v1 v2) := by
  refine fx_start_z fx_G_ok (by decide) (Nat.le_of_ble_eq_true rfl) ?_
  intro p e s m args below meth c A ls σ res Q hF X hw hl hend
  have hx := X.1.1
  have hb := X.1.2.1
  have hl : lv_has ls 3 [(0, .int v0), (1, .int v1), (2, .int v2)] := hl
  unfold F_Md_isIn at hF
  refine lv_iload_n hx hb d_Md_isIn_0 rfl (lv_at hl 0 rfl) ?_
  refine lv_iload_n hx hb d_Md_isIn_1 rfl (lv_at hl 1 rfl) ?_
  refine lv_icmp_lt (tgt := 14) hx hb d_Md_isIn_2 (by decide) (fun hc => ?_) (fun hc => ?_)
  · have hF := fx_it hc hF
    refine lv_iconst (v := 0) hx hb d_Md_isIn_14 (by decide) ?_
    exact hend _ _ _ _ _ _ d_Md_isIn_15 hF hw
  · have hF := fx_if hc hF
    refine lv_iload_n hx hb d_Md_isIn_5 rfl (lv_at hl 0 rfl) ?_
    refine lv_iload_n hx hb d_Md_isIn_6 rfl (lv_at hl 2 rfl) ?_
    refine lv_icmp_gt (tgt := 14) hx hb d_Md_isIn_7 (by decide) (fun hc => ?_) (fun hc => ?_)
    · have hF := fx_it hc hF
      refine lv_iconst (v := 0) hx hb d_Md_isIn_14 (by decide) ?_
      exact hend _ _ _ _ _ _ d_Md_isIn_15 hF hw
    · have hF := fx_if hc hF
      refine lv_iconst (v := 1) hx hb d_Md_isIn_10 (by decide) ?_
      refine lv_goto (tgt := 15) hx hb d_Md_isIn_11 (by decide) ?_
      exact hend _ _ _ _ _ _ d_Md_isIn_15 hF hw
section
variable {p : Program} {l : Launch} {e : Env} {R : Room} {s : State} {m : MethodId} {args : Array Value} {below : List Frame} {meth : Method} {c : Code} {H : Heap} {locs : List Loc} {cells slots : Nat} {Q : State → Prop}
variable {cc : ByteArray} {pc nL ix : Nat} {ls : Array Slot} {rest : List Value} {own : String} {D : va_G} {A : Nat → Prop} {h : Nat → Nat} {cA : Nat → ClassId} {σ : fx_S} {β : Type} {res : β × fx_S}
theorem kN_Md_isIn {v0 : Int32} {v1 : Int32} {v2 : Int32} (X : fx_X p m c cc nL s args own D fx_cl (fx_tys cA) fx_g fx_G A) (hw : fx_B D fx_cl (rf_ws h cA) A s.heap σ H locs) {host : String} (lk : va_Nw (.methodLinkNest own ix y_Md_isIn host) s) (hdg : decode cc pc = .ok (.invokestatic ix, 3)) (hsize : ls.size = nL) (hW : 2 * (F0 m pc ls (.int v2 :: .int v1 :: .int v0 :: rest)).monitorRoom + (rest.map fun v => v.category).sum ≤ 8) (hR : 0 + 1 ≤ R.frames ∧ 8 + (3 + 11) + 0 ≤ R.locals) (hf : cells ≤ R.cells ∧ slots ≤ R.slots) {k : Int32 → fx_M β} (hF : fx_bnd (F_Md_isIn v0 v1 v2) k σ = some res) (kk : ∀ (r : Int32) (σ' : fx_S) (H' : Heap) (locs' : List Loc), k r σ' = some res → fx_B D fx_cl (rf_ws h cA) A s.heap σ' H' locs' → W p l e R s m args below meth c H' locs' cells slots Q (F0 m (pc + 3) ls (.int r :: rest))) : W p l e R s m args below meth c H locs cells slots Q (F0 m pc ls (.int v2 :: .int v1 :: .int v0 :: rest)) :=
  fx_callN_i X hw (c_Md_isIn l D h cA v0 v1 v2) (fx_cwN X lk hg_Md_isIn fx_gok (rm := { frames := 0, cells := 0, slots := 0, locals := 0 }) rfl rfl (by decide +kernel) hR) (n := 3) rfl hdg hsize rfl hW hf hF kk
theorem k_Md_isIn {v0 : Int32} {v1 : Int32} {v2 : Int32} (X : fx_X p m c cc nL s args own D fx_cl (fx_tys cA) fx_g fx_G A) (hw : fx_B D fx_cl (rf_ws h cA) A s.heap σ H locs) (lk : Cond.methodLink own ix y_Md_isIn ∈ fx_g) (hdg : decode cc pc = .ok (.invokestatic ix, 3)) (hsize : ls.size = nL) (hW : 2 * (F0 m pc ls (.int v2 :: .int v1 :: .int v0 :: rest)).monitorRoom + (rest.map fun v => v.category).sum ≤ 8) (hR : 0 + 1 ≤ R.frames ∧ 8 + (3 + 11) + 0 ≤ R.locals) (hf : cells ≤ R.cells ∧ slots ≤ R.slots) {k : Int32 → fx_M β} (hF : fx_bnd (F_Md_isIn v0 v1 v2) k σ = some res) (kk : ∀ (r : Int32) (σ' : fx_S) (H' : Heap) (locs' : List Loc), k r σ' = some res → fx_B D fx_cl (rf_ws h cA) A s.heap σ' H' locs' → W p l e R s m args below meth c H' locs' cells slots Q (F0 m (pc + 3) ls (.int r :: rest))) : W p l e R s m args below meth c H locs cells slots Q (F0 m pc ls (.int v2 :: .int v1 :: .int v0 :: rest)) :=
  fx_calls_i X hw (c_Md_isIn l D h cA v0 v1 v2) (fx_cwS X lk hg_Md_isIn fx_gok (rm := { frames := 0, cells := 0, slots := 0, locals := 0 }) rfl rfl (by decide +kernel) hR) (n := 3) rfl hdg hsize rfl hW hf hF kk
end
set_option maxHeartbeats 4000000 in
set_option maxRecDepth 100000 in
theorem c_Md_isScope (l : Launch) (D : va_G) (h : Nat → Nat) (cA : Nat → ClassId) (v1 : Int32) : fx_Mi l y_Md_isScope b_Md_isScope 2 (some .boolean) { frames := 1, cells := 0, slots := 0, locals := 22 } D fx_cl (fx_tys cA) fx_g fx_G (rf_ws h cA) [.ref (h 0), .int v1] (F_Md_isScope v1) := by
  refine fx_start_z fx_G_ok (by decide) (Nat.le_of_ble_eq_true rfl) ?_
  intro p e s m args below meth c A ls σ res Q hF X hw hl hend
  have hx := X.1.1
  have hb := X.1.2.1
  have hl : lv_has ls 2 [(0, .ref (h 0)), (1, .int v1)] := hl
  unfold F_Md_isScope at hF
  refine lv_iload_n hx hb d_Md_isScope_0 rfl (lv_at hl 1 rfl) ?_
  refine lv_iconst (v := 0) hx hb d_Md_isScope_1 (by decide) ?_
  refine lv_aload_n hx hb d_Md_isScope_2 rfl (lv_at hl 0 rfl) ?_
  refine gI_Md_scopes X hw lk_Md_106 d_Md_isScope_3 hF (fun x1 hF => ?_)
  refine lv_iconst (v := 1) hx hb d_Md_isScope_6 (by decide) ?_
  refine lv_isub hx hb d_Md_isScope_7 ?_
  refine k_Md_isIn X hw lk_Md_116 d_Md_isScope_8 hl.1 (lv_room (Nat.le_of_ble_eq_true rfl)) ⟨Nat.le_of_ble_eq_true rfl, Nat.le_of_ble_eq_true rfl⟩ ⟨Nat.zero_le _, Nat.zero_le _⟩ hF (fun x2 σ H locs hF hw => ?_)
  exact hend _ _ _ _ _ _ d_Md_isScope_11 hF hw
section
variable {p : Program} {l : Launch} {e : Env} {R : Room} {s : State} {m : MethodId} {args : Array Value} {below : List Frame} {meth : Method} {c : Code} {H : Heap} {locs : List Loc} {cells slots : Nat} {Q : State → Prop}
variable {cc : ByteArray} {pc nL ix : Nat} {ls : Array Slot} {rest : List Value} {own : String} {D : va_G} {A : Nat → Prop} {h : Nat → Nat} {cA : Nat → ClassId} {σ : fx_S} {β : Type} {res : β × fx_S}
theorem k_Md_isScope {v1 : Int32} (X : fx_X p m c cc nL s args own D fx_cl (fx_tys cA) fx_g fx_G A) (hw : fx_B D fx_cl (rf_ws h cA) A s.heap σ H locs) (lk : Cond.methodLink own ix y_Md_isScope ∈ fx_g) (hdg : decode cc pc = .ok (.invokevirtual ix, 3)) (hsize : ls.size = nL) (hW : 2 * (F0 m pc ls (.int v1 :: .ref (h 0) :: rest)).monitorRoom + (rest.map fun v => v.category).sum ≤ 8) (hR : 1 + 1 ≤ R.frames ∧ 8 + (2 + 11) + 22 ≤ R.locals) (hf : cells ≤ R.cells ∧ slots ≤ R.slots) {k : Int32 → fx_M β} (hF : fx_bnd (F_Md_isScope v1) k σ = some res) (kk : ∀ (r : Int32) (σ' : fx_S) (H' : Heap) (locs' : List Loc), k r σ' = some res → fx_B D fx_cl (rf_ws h cA) A s.heap σ' H' locs' → W p l e R s m args below meth c H' locs' cells slots Q (F0 m (pc + 3) ls (.int r :: rest))) : W p l e R s m args below meth c H locs cells slots Q (F0 m pc ls (.int v1 :: .ref (h 0) :: rest)) :=
  fx_call_i X hw (c_Md_isScope l D h cA v1) (fx_cwV X lk hg_Md_isScope fx_gok (rm := { frames := 1, cells := 0, slots := 0, locals := 22 }) rfl rfl (by decide +kernel) hR) (va_recv X.2.1 hw.1 (ci := 8) (q0 := 0) rfl rfl) (n := 1) rfl hdg hsize rfl hW hf hF kk
end
set_option maxHeartbeats 4000000 in
set_option maxRecDepth 100000 in
theorem c_Md_isGood (l : Launch) (D : va_G) (h : Nat → Nat) (cA : Nat → ClassId) (v1 : Int32) : fx_Mi l y_Md_isGood b_Md_isGood 2 (some .boolean) { frames := 0, cells := 0, slots := 0, locals := 0 } D fx_cl (fx_tys cA) fx_g fx_G (rf_ws h cA) [.ref (h 0), .int v1] (F_Md_isGood v1) := by
  refine fx_start_z fx_G_ok (by decide) (Nat.le_of_ble_eq_true rfl) ?_
  intro p e s m args below meth c A ls σ res Q hF X hw hl hend
  have hx := X.1.1
  have hb := X.1.2.1
  have hl : lv_has ls 2 [(0, .ref (h 0)), (1, .int v1)] := hl
  unfold F_Md_isGood at hF
  refine lv_aload_n hx hb d_Md_isGood_0 rfl (lv_at hl 0 rfl) ?_
  refine lv_iload_n hx hb d_Md_isGood_1 rfl (lv_at hl 1 rfl) ?_
  refine pI_Md_code X hw lk_Md_113 d_Md_isGood_2 hF (fun σ H locs hF hw => ?_)
  refine lv_iload_n hx hb d_Md_isGood_5 rfl (lv_at hl 1 rfl) ?_
  refine lv_if_ne (tgt := 13) hx hb d_Md_isGood_6 (by decide) (fun hc => ?_) (fun hc => ?_)
  · have hF := fx_if hc hF
    refine lv_iconst (v := 0) hx hb d_Md_isGood_13 (by decide) ?_
    exact hend _ _ _ _ _ _ d_Md_isGood_14 hF hw
  · have hF := fx_it hc hF
    refine lv_iconst (v := 1) hx hb d_Md_isGood_9 (by decide) ?_
    refine lv_goto (tgt := 14) hx hb d_Md_isGood_10 (by decide) ?_
    exact hend _ _ _ _ _ _ d_Md_isGood_14 hF hw
section
variable {p : Program} {l : Launch} {e : Env} {R : Room} {s : State} {m : MethodId} {args : Array Value} {below : List Frame} {meth : Method} {c : Code} {H : Heap} {locs : List Loc} {cells slots : Nat} {Q : State → Prop}
variable {cc : ByteArray} {pc nL ix : Nat} {ls : Array Slot} {rest : List Value} {own : String} {D : va_G} {A : Nat → Prop} {h : Nat → Nat} {cA : Nat → ClassId} {σ : fx_S} {β : Type} {res : β × fx_S}
theorem k_Md_isGood {v1 : Int32} (X : fx_X p m c cc nL s args own D fx_cl (fx_tys cA) fx_g fx_G A) (hw : fx_B D fx_cl (rf_ws h cA) A s.heap σ H locs) (lk : Cond.methodLink own ix y_Md_isGood ∈ fx_g) (hdg : decode cc pc = .ok (.invokevirtual ix, 3)) (hsize : ls.size = nL) (hW : 2 * (F0 m pc ls (.int v1 :: .ref (h 0) :: rest)).monitorRoom + (rest.map fun v => v.category).sum ≤ 8) (hR : 0 + 1 ≤ R.frames ∧ 8 + (2 + 11) + 0 ≤ R.locals) (hf : cells ≤ R.cells ∧ slots ≤ R.slots) {k : Int32 → fx_M β} (hF : fx_bnd (F_Md_isGood v1) k σ = some res) (kk : ∀ (r : Int32) (σ' : fx_S) (H' : Heap) (locs' : List Loc), k r σ' = some res → fx_B D fx_cl (rf_ws h cA) A s.heap σ' H' locs' → W p l e R s m args below meth c H' locs' cells slots Q (F0 m (pc + 3) ls (.int r :: rest))) : W p l e R s m args below meth c H locs cells slots Q (F0 m pc ls (.int v1 :: .ref (h 0) :: rest)) :=
  fx_call_i X hw (c_Md_isGood l D h cA v1) (fx_cwV X lk hg_Md_isGood fx_gok (rm := { frames := 0, cells := 0, slots := 0, locals := 0 }) rfl rfl (by decide +kernel) hR) (va_recv X.2.1 hw.1 (ci := 8) (q0 := 0) rfl rfl) (n := 1) rfl hdg hsize rfl hW hf hF kk
end
set_option maxHeartbeats 4000000 in
set_option maxRecDepth 100000 in
theorem c_Md_tellNothing (l : Launch) (D : va_G) (h : Nat → Nat) (cA : Nat → ClassId) (v1 : Int32) : fx_Mv l y_Md_tellNothing b_Md_tellNothing 3 none { frames := 0, cells := 0, slots := 0, locals := 0 } D fx_cl (fx_tys cA) fx_g fx_G (rf_ws h cA) [.ref (h 0), .int v1] (F_Md_tellNothing v1) := by
  refine fx_start_v fx_G_ok (by decide) (Nat.le_of_ble_eq_true rfl) ?_
  intro p e s m args below meth c A ls σ res Q hF X hw hl hend
  have hx := X.1.1
  have hb := X.1.2.1
  have hl : lv_has ls 3 [(0, .ref (h 0)), (1, .int v1)] := hl
  unfold F_Md_tellNothing at hF
  have h2 : ∀ (n2 : Nat) (v1 : Int32) (v2 : Int32) (σ : fx_S) (H : Heap) (locs : List Loc) (ls : Array Slot), fx_loop2 (F_Md_tellNothing_B2) n2 v1 v2 σ = some res → fx_B D fx_cl (rf_ws h cA) A s.heap σ H locs → lv_has ls 3 [(0, .ref (h 0)), (1, .int v1), (2, .int v2)] → W p l e { frames := 0, cells := 0, slots := 0, locals := 0 } s m args below meth c H locs 0 0 Q (F0 m 2 ls []) := by
    intro n2
    induction n2 with
    | zero => intro v1 v2 σ H locs ls hF; cases hF
    | succ n2 ih2 =>
      obtain ⟨K2, eK2⟩ : ∃ K, K = fx_loop2 (F_Md_tellNothing_B2) n2 := ⟨_, rfl⟩
      rw [← eK2] at ih2
      intro v1 v2 σ H locs ls hF hw hl
      replace hF : F_Md_tellNothing_B2 (fx_loop2 (F_Md_tellNothing_B2) n2) v1 v2 σ = some res := hF
      rw [← eK2] at hF
      unfold F_Md_tellNothing_B2 at hF
      refine lv_iload_n hx hb d_Md_tellNothing_2 rfl (lv_at hl 2 rfl) ?_
      refine lv_bipush (v := 41) hx hb d_Md_tellNothing_3 (by decide) ?_
      refine lv_icmp_ge (tgt := 26) hx hb d_Md_tellNothing_5 (by decide) (fun hc => ?_) (fun hc => ?_)
      · have hF := fx_it hc hF
        exact hend _ _ _ _ _ d_Md_tellNothing_26 hF hw
      · have hF := fx_if hc hF
        refine lv_aload_n hx hb d_Md_tellNothing_8 rfl (lv_at hl 0 rfl) ?_
        refine gR_Md_sides X hw lk_Md_13 d_Md_tellNothing_9 ?_
        refine lv_bipush (v := 41) hx hb d_Md_tellNothing_12 (by decide) ?_
        refine lv_iload_n hx hb d_Md_tellNothing_14 rfl (lv_at hl 1 rfl) ?_
        refine lv_imul hx hb d_Md_tellNothing_15 ?_
        refine lv_iload_n hx hb d_Md_tellNothing_16 rfl (lv_at hl 2 rfl) ?_
        refine lv_iadd hx hb d_Md_tellNothing_17 ?_
        refine lv_iconst (v := (-1)) hx hb d_Md_tellNothing_18 (by decide) ?_
        refine sA_Md_sides X hw d_Md_tellNothing_19 hF (fun σ H locs hF hw => ?_)
        refine fx_iinc (lv' := fun x1 => [(2, .int x1), (0, .ref (h 0)), (1, .int v1)]) hx hb d_Md_tellNothing_20 hl (k := 2) rfl rfl (by decide) (fun _ => rfl) hF (fun x1 ls hF hl => ?_)
        refine lv_goto (tgt := 2) hx hb d_Md_tellNothing_23 (by decide) ?_
        exact ih2 v1 x1 _ _ _ _ hF hw (lv_sub hl [1, 2, 0] rfl)
  refine lv_iconst (v := 0) hx hb d_Md_tellNothing_0 (by decide) ?_
  refine lv_istore_n (lv' := [(2, .int 0), (0, .ref (h 0)), (1, .int v1)]) hx hb d_Md_tellNothing_1 rfl hl (by decide) rfl (fun ls hl => ?_)
  exact h2 fx_fuel v1 0 _ _ _ _ hF hw (lv_sub hl [1, 2, 0] rfl)
section
variable {p : Program} {l : Launch} {e : Env} {R : Room} {s : State} {m : MethodId} {args : Array Value} {below : List Frame} {meth : Method} {c : Code} {H : Heap} {locs : List Loc} {cells slots : Nat} {Q : State → Prop}
variable {cc : ByteArray} {pc nL ix : Nat} {ls : Array Slot} {rest : List Value} {own : String} {D : va_G} {A : Nat → Prop} {h : Nat → Nat} {cA : Nat → ClassId} {σ : fx_S} {β : Type} {res : β × fx_S}
theorem k_Md_tellNothing {v1 : Int32} (X : fx_X p m c cc nL s args own D fx_cl (fx_tys cA) fx_g fx_G A) (hw : fx_B D fx_cl (rf_ws h cA) A s.heap σ H locs) (lk : Cond.methodLink own ix y_Md_tellNothing ∈ fx_g) (hdg : decode cc pc = .ok (.invokevirtual ix, 3)) (hsize : ls.size = nL) (hW : 2 * (F0 m pc ls (.int v1 :: .ref (h 0) :: rest)).monitorRoom + (rest.map fun v => v.category).sum ≤ 8) (hR : 0 + 1 ≤ R.frames ∧ 8 + (3 + 11) + 0 ≤ R.locals) (hf : cells ≤ R.cells ∧ slots ≤ R.slots) {k : Unit → fx_M β} (hF : fx_bnd (F_Md_tellNothing v1) k σ = some res) (kk : ∀ (σ' : fx_S) (H' : Heap) (locs' : List Loc), k () σ' = some res → fx_B D fx_cl (rf_ws h cA) A s.heap σ' H' locs' → W p l e R s m args below meth c H' locs' cells slots Q (F0 m (pc + 3) ls rest)) : W p l e R s m args below meth c H locs cells slots Q (F0 m pc ls (.int v1 :: .ref (h 0) :: rest)) :=
  fx_call_v X hw (c_Md_tellNothing l D h cA v1) (fx_cwV X lk hg_Md_tellNothing fx_gok (rm := { frames := 0, cells := 0, slots := 0, locals := 0 }) rfl rfl (by decide +kernel) hR) (va_recv X.2.1 hw.1 (ci := 8) (q0 := 0) rfl rfl) (n := 1) rfl hdg hsize rfl hW hf hF kk
end
set_option maxHeartbeats 4000000 in
set_option maxRecDepth 100000 in
theorem c_Md_scope (l : Launch) (D : va_G) (h : Nat → Nat) (cA : Nat → ClassId) (v1 : Int32) : fx_Mi l y_Md_scope b_Md_scope 2 (some .int) { frames := 2, cells := 0, slots := 0, locals := 43 } D fx_cl (fx_tys cA) fx_g fx_G (rf_ws h cA) [.ref (h 0), .int v1] (F_Md_scope v1) := by
  refine fx_start_i fx_G_ok (by decide) (Nat.le_of_ble_eq_true rfl) ?_
  intro p e s m args below meth c A ls σ res Q hF X hw hl hend
  have hx := X.1.1
  have hb := X.1.2.1
  have hl : lv_has ls 2 [(0, .ref (h 0)), (1, .int v1)] := hl
  unfold F_Md_scope at hF
  have h27 : ∀ (v1 : Int32) (t0 : Int32) (σ : fx_S) (H : Heap) (locs : List Loc) (ls : Array Slot), F_Md_scope_J27 v1 t0 σ = some res → fx_B D fx_cl (rf_ws h cA) A s.heap σ H locs → lv_has ls 2 [(0, .ref (h 0)), (1, .int v1)] → W p l e { frames := 2, cells := 0, slots := 0, locals := 43 } s m args below meth c H locs 0 0 Q (F0 m 27 ls [.int t0, .ref (h 0)]) := by
    intro v1 t0 σ H locs ls hF hw hl
    unfold F_Md_scope_J27 at hF
    refine k_Md_isGood X hw lk_Md_124 d_Md_scope_27 hl.1 (lv_room (Nat.le_of_ble_eq_true rfl)) ⟨Nat.le_of_ble_eq_true rfl, Nat.le_of_ble_eq_true rfl⟩ ⟨Nat.zero_le _, Nat.zero_le _⟩ hF (fun x3 σ H locs hF hw => ?_)
    refine lv_if_ne (tgt := 35) hx hb d_Md_scope_30 (by decide) (fun hc => ?_) (fun hc => ?_)
    · have hF := fx_if hc hF
      refine lv_aload_n hx hb d_Md_scope_35 rfl (lv_at hl 0 rfl) ?_
      refine gR_Md_outer X hw lk_Md_7 d_Md_scope_36 ?_
      refine lv_aload_n hx hb d_Md_scope_39 rfl (lv_at hl 0 rfl) ?_
      refine gI_Md_scopes X hw lk_Md_106 d_Md_scope_40 hF (fun x4 hF => ?_)
      refine lv_iload_n hx hb d_Md_scope_43 rfl (lv_at hl 1 rfl) ?_
      refine sA_Md_outer X hw d_Md_scope_44 hF (fun σ H locs hF hw => ?_)
      refine lv_aload_n hx hb d_Md_scope_45 rfl (lv_at hl 0 rfl) ?_
      refine lv_aload_n hx hb d_Md_scope_46 rfl (lv_at hl 0 rfl) ?_
      refine gI_Md_scopes X hw lk_Md_106 d_Md_scope_47 hF (fun x5 hF => ?_)
      refine k_Md_tellNothing X hw lk_Md_109 d_Md_scope_50 hl.1 (lv_room (Nat.le_of_ble_eq_true rfl)) ⟨Nat.le_of_ble_eq_true rfl, Nat.le_of_ble_eq_true rfl⟩ ⟨Nat.zero_le _, Nat.zero_le _⟩ hF (fun σ H locs hF hw => ?_)
      refine lv_aload_n hx hb d_Md_scope_53 rfl (lv_at hl 0 rfl) ?_
      refine lv_dup hx hb d_Md_scope_54 rfl ?_
      refine gI_Md_scopes X hw lk_Md_106 d_Md_scope_55 hF (fun x6 hF => ?_)
      refine lv_iconst (v := 1) hx hb d_Md_scope_58 (by decide) ?_
      refine lv_iadd hx hb d_Md_scope_59 ?_
      refine pI_Md_scopes X hw lk_Md_106 d_Md_scope_60 hF (fun σ H locs hF hw => ?_)
      refine lv_aload_n hx hb d_Md_scope_63 rfl (lv_at hl 0 rfl) ?_
      refine gI_Md_scopes X hw lk_Md_106 d_Md_scope_64 hF (fun x7 hF => ?_)
      refine lv_iconst (v := 1) hx hb d_Md_scope_67 (by decide) ?_
      refine lv_isub hx hb d_Md_scope_68 ?_
      exact hend _ _ _ _ _ _ d_Md_scope_69 hF hw
    · have hF := fx_it hc hF
      refine lv_iconst (v := 0) hx hb d_Md_scope_33 (by decide) ?_
      exact hend _ _ _ _ _ _ d_Md_scope_34 hF hw
  refine lv_aload_n hx hb d_Md_scope_0 rfl (lv_at hl 0 rfl) ?_
  refine lv_aload_n hx hb d_Md_scope_1 rfl (lv_at hl 0 rfl) ?_
  refine lv_iload_n hx hb d_Md_scope_2 rfl (lv_at hl 1 rfl) ?_
  refine k_Md_isScope X hw lk_Md_120 d_Md_scope_3 hl.1 (lv_room (Nat.le_of_ble_eq_true rfl)) ⟨Nat.le_of_ble_eq_true rfl, Nat.le_of_ble_eq_true rfl⟩ ⟨Nat.zero_le _, Nat.zero_le _⟩ hF (fun x1 σ H locs hF hw => ?_)
  refine lv_if_ne (tgt := 13) hx hb d_Md_scope_6 (by decide) (fun hc => ?_) (fun hc => ?_)
  · have hF := fx_if hc hF
    refine lv_aload_n hx hb d_Md_scope_13 rfl (lv_at hl 0 rfl) ?_
    refine gI_Md_scopes X hw lk_Md_106 d_Md_scope_14 hF (fun x2 hF => ?_)
    refine lv_bipush (v := 30) hx hb d_Md_scope_17 (by decide) ?_
    refine lv_icmp_ne (tgt := 26) hx hb d_Md_scope_19 (by decide) (fun hc => ?_) (fun hc => ?_)
    · have hF := fx_if hc hF
      refine lv_iconst (v := 0) hx hb d_Md_scope_26 (by decide) ?_
      exact h27 v1 0 _ _ _ _ hF hw (lv_sub hl [0, 1] rfl)
    · have hF := fx_it hc hF
      refine lv_iconst (v := 2) hx hb d_Md_scope_22 (by decide) ?_
      refine lv_goto (tgt := 27) hx hb d_Md_scope_23 (by decide) ?_
      exact h27 v1 2 _ _ _ _ hF hw (lv_sub hl [0, 1] rfl)
  · have hF := fx_it hc hF
    refine lv_iconst (v := 1) hx hb d_Md_scope_9 (by decide) ?_
    refine lv_goto (tgt := 27) hx hb d_Md_scope_10 (by decide) ?_
    exact h27 v1 1 _ _ _ _ hF hw (lv_sub hl [0, 1] rfl)
section
variable {p : Program} {l : Launch} {e : Env} {R : Room} {s : State} {m : MethodId} {args : Array Value} {below : List Frame} {meth : Method} {c : Code} {H : Heap} {locs : List Loc} {cells slots : Nat} {Q : State → Prop}
variable {cc : ByteArray} {pc nL ix : Nat} {ls : Array Slot} {rest : List Value} {own : String} {D : va_G} {A : Nat → Prop} {h : Nat → Nat} {cA : Nat → ClassId} {σ : fx_S} {β : Type} {res : β × fx_S}
theorem k_Md_scope {v1 : Int32} (X : fx_X p m c cc nL s args own D fx_cl (fx_tys cA) fx_g fx_G A) (hw : fx_B D fx_cl (rf_ws h cA) A s.heap σ H locs) (lk : Cond.methodLink own ix y_Md_scope ∈ fx_g) (hdg : decode cc pc = .ok (.invokevirtual ix, 3)) (hsize : ls.size = nL) (hW : 2 * (F0 m pc ls (.int v1 :: .ref (h 0) :: rest)).monitorRoom + (rest.map fun v => v.category).sum ≤ 8) (hR : 2 + 1 ≤ R.frames ∧ 8 + (2 + 11) + 43 ≤ R.locals) (hf : cells ≤ R.cells ∧ slots ≤ R.slots) {k : Int32 → fx_M β} (hF : fx_bnd (F_Md_scope v1) k σ = some res) (kk : ∀ (r : Int32) (σ' : fx_S) (H' : Heap) (locs' : List Loc), k r σ' = some res → fx_B D fx_cl (rf_ws h cA) A s.heap σ' H' locs' → W p l e R s m args below meth c H' locs' cells slots Q (F0 m (pc + 3) ls (.int r :: rest))) : W p l e R s m args below meth c H locs cells slots Q (F0 m pc ls (.int v1 :: .ref (h 0) :: rest)) :=
  fx_call_i X hw (c_Md_scope l D h cA v1) (fx_cwV X lk hg_Md_scope fx_gok (rm := { frames := 2, cells := 0, slots := 0, locals := 43 }) rfl rfl (by decide +kernel) hR) (va_recv X.2.1 hw.1 (ci := 8) (q0 := 0) rfl rfl) (n := 1) rfl hdg hsize rfl hW hf hF kk
end
set_option maxHeartbeats 4000000 in
set_option maxRecDepth 100000 in
theorem c_Md_isOperator (l : Launch) (D : va_G) (h : Nat → Nat) (cA : Nat → ClassId) (v0 : Int32) : fx_Mi l y_Md_isOperator b_Md_isOperator 1 (some .boolean) { frames := 1, cells := 0, slots := 0, locals := 22 } D fx_cl (fx_tys cA) fx_g fx_G (rf_ws h cA) [.int v0] (F_Md_isOperator v0) := by
  refine fx_start_z fx_G_ok (by decide) (Nat.le_of_ble_eq_true rfl) ?_
  intro p e s m args below meth c A ls σ res Q hF X hw hl hend
  have hx := X.1.1
  have hb := X.1.2.1
  have hl : lv_has ls 1 [(0, .int v0)] := hl
  unfold F_Md_isOperator at hF
  refine lv_iload_n hx hb d_Md_isOperator_0 rfl (lv_at hl 0 rfl) ?_
  refine lv_iconst (v := 0) hx hb d_Md_isOperator_1 (by decide) ?_
  refine lv_bipush (v := 40) hx hb d_Md_isOperator_2 (by decide) ?_
  refine k_Md_isIn X hw lk_Md_116 d_Md_isOperator_4 hl.1 (lv_room (Nat.le_of_ble_eq_true rfl)) ⟨Nat.le_of_ble_eq_true rfl, Nat.le_of_ble_eq_true rfl⟩ ⟨Nat.zero_le _, Nat.zero_le _⟩ hF (fun x1 σ H locs hF hw => ?_)
  exact hend _ _ _ _ _ _ d_Md_isOperator_7 hF hw
section
variable {p : Program} {l : Launch} {e : Env} {R : Room} {s : State} {m : MethodId} {args : Array Value} {below : List Frame} {meth : Method} {c : Code} {H : Heap} {locs : List Loc} {cells slots : Nat} {Q : State → Prop}
variable {cc : ByteArray} {pc nL ix : Nat} {ls : Array Slot} {rest : List Value} {own : String} {D : va_G} {A : Nat → Prop} {h : Nat → Nat} {cA : Nat → ClassId} {σ : fx_S} {β : Type} {res : β × fx_S}
theorem kN_Md_isOperator {v0 : Int32} (X : fx_X p m c cc nL s args own D fx_cl (fx_tys cA) fx_g fx_G A) (hw : fx_B D fx_cl (rf_ws h cA) A s.heap σ H locs) {host : String} (lk : va_Nw (.methodLinkNest own ix y_Md_isOperator host) s) (hdg : decode cc pc = .ok (.invokestatic ix, 3)) (hsize : ls.size = nL) (hW : 2 * (F0 m pc ls (.int v0 :: rest)).monitorRoom + (rest.map fun v => v.category).sum ≤ 8) (hR : 1 + 1 ≤ R.frames ∧ 8 + (1 + 11) + 22 ≤ R.locals) (hf : cells ≤ R.cells ∧ slots ≤ R.slots) {k : Int32 → fx_M β} (hF : fx_bnd (F_Md_isOperator v0) k σ = some res) (kk : ∀ (r : Int32) (σ' : fx_S) (H' : Heap) (locs' : List Loc), k r σ' = some res → fx_B D fx_cl (rf_ws h cA) A s.heap σ' H' locs' → W p l e R s m args below meth c H' locs' cells slots Q (F0 m (pc + 3) ls (.int r :: rest))) : W p l e R s m args below meth c H locs cells slots Q (F0 m pc ls (.int v0 :: rest)) :=
  fx_callN_i X hw (c_Md_isOperator l D h cA v0) (fx_cwN X lk hg_Md_isOperator fx_gok (rm := { frames := 1, cells := 0, slots := 0, locals := 22 }) rfl rfl (by decide +kernel) hR) (n := 1) rfl hdg hsize rfl hW hf hF kk
theorem k_Md_isOperator {v0 : Int32} (X : fx_X p m c cc nL s args own D fx_cl (fx_tys cA) fx_g fx_G A) (hw : fx_B D fx_cl (rf_ws h cA) A s.heap σ H locs) (lk : Cond.methodLink own ix y_Md_isOperator ∈ fx_g) (hdg : decode cc pc = .ok (.invokestatic ix, 3)) (hsize : ls.size = nL) (hW : 2 * (F0 m pc ls (.int v0 :: rest)).monitorRoom + (rest.map fun v => v.category).sum ≤ 8) (hR : 1 + 1 ≤ R.frames ∧ 8 + (1 + 11) + 22 ≤ R.locals) (hf : cells ≤ R.cells ∧ slots ≤ R.slots) {k : Int32 → fx_M β} (hF : fx_bnd (F_Md_isOperator v0) k σ = some res) (kk : ∀ (r : Int32) (σ' : fx_S) (H' : Heap) (locs' : List Loc), k r σ' = some res → fx_B D fx_cl (rf_ws h cA) A s.heap σ' H' locs' → W p l e R s m args below meth c H' locs' cells slots Q (F0 m (pc + 3) ls (.int r :: rest))) : W p l e R s m args below meth c H locs cells slots Q (F0 m pc ls (.int v0 :: rest)) :=
  fx_calls_i X hw (c_Md_isOperator l D h cA v0) (fx_cwS X lk hg_Md_isOperator fx_gok (rm := { frames := 1, cells := 0, slots := 0, locals := 22 }) rfl rfl (by decide +kernel) hR) (n := 1) rfl hdg hsize rfl hW hf hF kk
end
set_option maxHeartbeats 4000000 in
set_option maxRecDepth 100000 in
theorem c_Md_fixity (l : Launch) (D : va_G) (h : Nat → Nat) (cA : Nat → ClassId) (v1 : Int32) (v2 : Int32) (v3 : Int32) (v4 : Int32) : fx_Mv l y_Md_fixity b_Md_fixity 6 none { frames := 2, cells := 0, slots := 0, locals := 43 } D fx_cl (fx_tys cA) fx_g fx_G (rf_ws h cA) [.ref (h 0), .int v1, .int v2, .int v3, .int v4] (F_Md_fixity v1 v2 v3 v4) := by
  refine fx_start_v fx_G_ok (by decide) (Nat.le_of_ble_eq_true rfl) ?_
  intro p e s m args below meth c A ls σ res Q hF X hw hl hend
  have hx := X.1.1
  have hb := X.1.2.1
  have hl : lv_has ls 6 [(0, .ref (h 0)), (1, .int v1), (2, .int v2), (3, .int v3), (4, .int v4)] := hl
  unfold F_Md_fixity at hF
  have h77 : ∀ (v1 : Int32) (v2 : Int32) (v3 : Int32) (v4 : Int32) (v5 : Int32) (σ : fx_S) (H : Heap) (locs : List Loc) (ls : Array Slot), F_Md_fixity_J77 v1 v2 v3 v4 v5 σ = some res → fx_B D fx_cl (rf_ws h cA) A s.heap σ H locs → lv_has ls 6 [(0, .ref (h 0)), (1, .int v1), (2, .int v2), (3, .int v3), (4, .int v4), (5, .int v5)] → W p l e { frames := 2, cells := 0, slots := 0, locals := 43 } s m args below meth c H locs 0 0 Q (F0 m 77 ls []) := by
    intro v1 v2 v3 v4 v5 σ H locs ls hF hw hl
    unfold F_Md_fixity_J77 at hF
    refine lv_aload_n hx hb d_Md_fixity_77 rfl (lv_at hl 0 rfl) ?_
    refine lv_iload hx hb d_Md_fixity_78 (lv_at hl 5 rfl) ?_
    refine k_Md_isGood X hw lk_Md_124 d_Md_fixity_80 hl.1 (lv_room (Nat.le_of_ble_eq_true rfl)) ⟨Nat.le_of_ble_eq_true rfl, Nat.le_of_ble_eq_true rfl⟩ ⟨Nat.zero_le _, Nat.zero_le _⟩ hF (fun x2 σ H locs hF hw => ?_)
    refine lv_if_eq (tgt := 111) hx hb d_Md_fixity_83 (by decide) (fun hc => ?_) (fun hc => ?_)
    · have hF := fx_it hc hF
      exact hend _ _ _ _ _ d_Md_fixity_111 hF hw
    · have hF := fx_if hc hF
      refine lv_aload_n hx hb d_Md_fixity_86 rfl (lv_at hl 0 rfl) ?_
      refine gR_Md_sides X hw lk_Md_13 d_Md_fixity_87 ?_
      refine lv_bipush (v := 41) hx hb d_Md_fixity_90 (by decide) ?_
      refine lv_iload_n hx hb d_Md_fixity_92 rfl (lv_at hl 1 rfl) ?_
      refine lv_imul hx hb d_Md_fixity_93 ?_
      refine lv_iload_n hx hb d_Md_fixity_94 rfl (lv_at hl 2 rfl) ?_
      refine lv_iadd hx hb d_Md_fixity_95 ?_
      refine lv_iload_n hx hb d_Md_fixity_96 rfl (lv_at hl 3 rfl) ?_
      refine sA_Md_sides X hw d_Md_fixity_97 hF (fun σ H locs hF hw => ?_)
      refine lv_aload_n hx hb d_Md_fixity_98 rfl (lv_at hl 0 rfl) ?_
      refine gR_Md_ranks X hw lk_Md_16 d_Md_fixity_99 ?_
      refine lv_bipush (v := 41) hx hb d_Md_fixity_102 (by decide) ?_
      refine lv_iload_n hx hb d_Md_fixity_104 rfl (lv_at hl 1 rfl) ?_
      refine lv_imul hx hb d_Md_fixity_105 ?_
      refine lv_iload_n hx hb d_Md_fixity_106 rfl (lv_at hl 2 rfl) ?_
      refine lv_iadd hx hb d_Md_fixity_107 ?_
      refine lv_iload hx hb d_Md_fixity_108 (lv_at hl 4 rfl) ?_
      refine sA_Md_ranks X hw d_Md_fixity_110 hF (fun σ H locs hF hw => ?_)
      exact hend _ _ _ _ _ d_Md_fixity_111 hF hw
  have h74 : ∀ (v1 : Int32) (v2 : Int32) (v3 : Int32) (v4 : Int32) (σ : fx_S) (H : Heap) (locs : List Loc) (ls : Array Slot), F_Md_fixity_J74 v1 v2 v3 v4 σ = some res → fx_B D fx_cl (rf_ws h cA) A s.heap σ H locs → lv_has ls 6 [(0, .ref (h 0)), (1, .int v1), (2, .int v2), (3, .int v3), (4, .int v4)] → W p l e { frames := 2, cells := 0, slots := 0, locals := 43 } s m args below meth c H locs 0 0 Q (F0 m 74 ls []) := by
    intro v1 v2 v3 v4 σ H locs ls hF hw hl
    unfold F_Md_fixity_J74 at hF
    refine lv_iconst (v := 3) hx hb d_Md_fixity_74 (by decide) ?_
    refine lv_istore (lv' := [(5, .int 3), (0, .ref (h 0)), (1, .int v1), (2, .int v2), (3, .int v3), (4, .int v4)]) hx hb d_Md_fixity_75 hl (by decide) rfl (fun ls hl => ?_)
    exact h77 v1 v2 v3 v4 3 _ _ _ _ hF hw (lv_sub hl [1, 2, 3, 4, 5, 0] rfl)
  have h49 : ∀ (v1 : Int32) (v2 : Int32) (v3 : Int32) (v4 : Int32) (v5 : Int32) (σ : fx_S) (H : Heap) (locs : List Loc) (ls : Array Slot), F_Md_fixity_J49 v1 v2 v3 v4 v5 σ = some res → fx_B D fx_cl (rf_ws h cA) A s.heap σ H locs → lv_has ls 6 [(0, .ref (h 0)), (1, .int v1), (2, .int v2), (3, .int v3), (4, .int v4), (5, .int v5)] → W p l e { frames := 2, cells := 0, slots := 0, locals := 43 } s m args below meth c H locs 0 0 Q (F0 m 49 ls []) := by
    intro v1 v2 v3 v4 v5 σ H locs ls hF hw hl
    unfold F_Md_fixity_J49 at hF
    refine lv_iload hx hb d_Md_fixity_49 (lv_at hl 5 rfl) ?_
    refine lv_if_ne (tgt := 77) hx hb d_Md_fixity_51 (by decide) (fun hc => ?_) (fun hc => ?_)
    · have hF := fx_if hc hF
      exact h77 v1 v2 v3 v4 v5 _ _ _ _ hF hw (lv_sub hl [0, 1, 2, 3, 4, 5] rfl)
    · have hF := fx_it hc hF
      refine lv_iload_n hx hb d_Md_fixity_54 rfl (lv_at hl 3 rfl) ?_
      refine lv_iconst (v := 0) hx hb d_Md_fixity_55 (by decide) ?_
      refine lv_iconst (v := 2) hx hb d_Md_fixity_56 (by decide) ?_
      refine k_Md_isIn X hw lk_Md_116 d_Md_fixity_57 hl.1 (lv_room (Nat.le_of_ble_eq_true rfl)) ⟨Nat.le_of_ble_eq_true rfl, Nat.le_of_ble_eq_true rfl⟩ ⟨Nat.zero_le _, Nat.zero_le _⟩ hF (fun x3 σ H locs hF hw => ?_)
      refine lv_if_eq (tgt := 74) hx hb d_Md_fixity_60 (by decide) (fun hc => ?_) (fun hc => ?_)
      · have hF := fx_it hc hF
        exact h74 v1 v2 v3 v4 _ _ _ _ hF hw (lv_sub hl [0, 1, 2, 3, 4] rfl)
      · have hF := fx_if hc hF
        refine lv_iload hx hb d_Md_fixity_63 (lv_at hl 4 rfl) ?_
        refine lv_iconst (v := 0) hx hb d_Md_fixity_65 (by decide) ?_
        refine lv_bipush (v := 9) hx hb d_Md_fixity_66 (by decide) ?_
        refine k_Md_isIn X hw lk_Md_116 d_Md_fixity_68 hl.1 (lv_room (Nat.le_of_ble_eq_true rfl)) ⟨Nat.le_of_ble_eq_true rfl, Nat.le_of_ble_eq_true rfl⟩ ⟨Nat.zero_le _, Nat.zero_le _⟩ hF (fun x4 σ H locs hF hw => ?_)
        refine lv_if_ne (tgt := 77) hx hb d_Md_fixity_71 (by decide) (fun hc => ?_) (fun hc => ?_)
        · have hF := fx_if hc hF
          exact h77 v1 v2 v3 v4 v5 _ _ _ _ hF hw (lv_sub hl [0, 1, 2, 3, 4, 5] rfl)
        · have hF := fx_it hc hF
          exact h74 v1 v2 v3 v4 _ _ _ _ hF hw (lv_sub hl [0, 1, 2, 3, 4] rfl)
  have h46 : ∀ (v1 : Int32) (v2 : Int32) (v3 : Int32) (v4 : Int32) (σ : fx_S) (H : Heap) (locs : List Loc) (ls : Array Slot), F_Md_fixity_J46 v1 v2 v3 v4 σ = some res → fx_B D fx_cl (rf_ws h cA) A s.heap σ H locs → lv_has ls 6 [(0, .ref (h 0)), (1, .int v1), (2, .int v2), (3, .int v3), (4, .int v4)] → W p l e { frames := 2, cells := 0, slots := 0, locals := 43 } s m args below meth c H locs 0 0 Q (F0 m 46 ls []) := by
    intro v1 v2 v3 v4 σ H locs ls hF hw hl
    unfold F_Md_fixity_J46 at hF
    refine lv_iconst (v := 2) hx hb d_Md_fixity_46 (by decide) ?_
    refine lv_istore (lv' := [(5, .int 2), (0, .ref (h 0)), (1, .int v1), (2, .int v2), (3, .int v3), (4, .int v4)]) hx hb d_Md_fixity_47 hl (by decide) rfl (fun ls hl => ?_)
    exact h49 v1 v2 v3 v4 2 _ _ _ _ hF hw (lv_sub hl [1, 2, 3, 4, 5, 0] rfl)
  have h20 : ∀ (v1 : Int32) (v2 : Int32) (v3 : Int32) (v4 : Int32) (t0 : Int32) (σ : fx_S) (H : Heap) (locs : List Loc) (ls : Array Slot), F_Md_fixity_J20 v1 v2 v3 v4 t0 σ = some res → fx_B D fx_cl (rf_ws h cA) A s.heap σ H locs → lv_has ls 6 [(0, .ref (h 0)), (1, .int v1), (2, .int v2), (3, .int v3), (4, .int v4)] → W p l e { frames := 2, cells := 0, slots := 0, locals := 43 } s m args below meth c H locs 0 0 Q (F0 m 20 ls [.int t0]) := by
    intro v1 v2 v3 v4 t0 σ H locs ls hF hw hl
    unfold F_Md_fixity_J20 at hF
    refine lv_istore (lv' := [(5, .int t0), (0, .ref (h 0)), (1, .int v1), (2, .int v2), (3, .int v3), (4, .int v4)]) hx hb d_Md_fixity_20 hl (by decide) rfl (fun ls hl => ?_)
    refine lv_iload hx hb d_Md_fixity_22 (lv_at hl 0 rfl) ?_
    refine lv_if_ne (tgt := 49) hx hb d_Md_fixity_24 (by decide) (fun hc => ?_) (fun hc => ?_)
    · have hF := fx_if hc hF
      exact h49 v1 v2 v3 v4 t0 _ _ _ _ hF hw (lv_sub hl [1, 2, 3, 4, 5, 0] rfl)
    · have hF := fx_it hc hF
      refine lv_iload_n hx hb d_Md_fixity_27 rfl (lv_at hl 3 rfl) ?_
      refine lv_if_eq (tgt := 46) hx hb d_Md_fixity_28 (by decide) (fun hc => ?_) (fun hc => ?_)
      · have hF := fx_it hc hF
        exact h46 v1 v2 v3 v4 _ _ _ _ hF hw (lv_sub hl [1, 2, 3, 4, 5] rfl)
      · have hF := fx_if hc hF
        refine lv_aload_n hx hb d_Md_fixity_31 rfl (lv_at hl 1 rfl) ?_
        refine gR_Md_sides X hw lk_Md_13 d_Md_fixity_32 ?_
        refine lv_bipush (v := 41) hx hb d_Md_fixity_35 (by decide) ?_
        refine lv_iload_n hx hb d_Md_fixity_37 rfl (lv_at hl 2 rfl) ?_
        refine lv_imul hx hb d_Md_fixity_38 ?_
        refine lv_iload_n hx hb d_Md_fixity_39 rfl (lv_at hl 3 rfl) ?_
        refine lv_iadd hx hb d_Md_fixity_40 ?_
        refine lA_Md_sides X hw d_Md_fixity_41 hF (fun x5 hF => ?_)
        refine lv_iconst (v := (-1)) hx hb d_Md_fixity_42 (by decide) ?_
        refine lv_icmp_eq (tgt := 49) hx hb d_Md_fixity_43 (by decide) (fun hc => ?_) (fun hc => ?_)
        · have hF := fx_it hc hF
          exact h49 v1 v2 v3 v4 t0 _ _ _ _ hF hw (lv_sub hl [1, 2, 3, 4, 5, 0] rfl)
        · have hF := fx_if hc hF
          exact h46 v1 v2 v3 v4 _ _ _ _ hF hw (lv_sub hl [1, 2, 3, 4, 5] rfl)
  have h15 : ∀ (v1 : Int32) (v2 : Int32) (v3 : Int32) (v4 : Int32) (σ : fx_S) (H : Heap) (locs : List Loc) (ls : Array Slot), F_Md_fixity_J15 v1 v2 v3 v4 σ = some res → fx_B D fx_cl (rf_ws h cA) A s.heap σ H locs → lv_has ls 6 [(0, .ref (h 0)), (1, .int v1), (2, .int v2), (3, .int v3), (4, .int v4)] → W p l e { frames := 2, cells := 0, slots := 0, locals := 43 } s m args below meth c H locs 0 0 Q (F0 m 15 ls []) := by
    intro v1 v2 v3 v4 σ H locs ls hF hw hl
    unfold F_Md_fixity_J15 at hF
    refine lv_iconst (v := 1) hx hb d_Md_fixity_15 (by decide) ?_
    refine lv_goto (tgt := 20) hx hb d_Md_fixity_16 (by decide) ?_
    exact h20 v1 v2 v3 v4 1 _ _ _ _ hF hw (lv_sub hl [0, 1, 2, 3, 4] rfl)
  refine lv_aload_n hx hb d_Md_fixity_0 rfl (lv_at hl 0 rfl) ?_
  refine lv_iload_n hx hb d_Md_fixity_1 rfl (lv_at hl 1 rfl) ?_
  refine k_Md_isScope X hw lk_Md_120 d_Md_fixity_2 hl.1 (lv_room (Nat.le_of_ble_eq_true rfl)) ⟨Nat.le_of_ble_eq_true rfl, Nat.le_of_ble_eq_true rfl⟩ ⟨Nat.zero_le _, Nat.zero_le _⟩ hF (fun x1 σ H locs hF hw => ?_)
  refine lv_if_eq (tgt := 15) hx hb d_Md_fixity_5 (by decide) (fun hc => ?_) (fun hc => ?_)
  · have hF := fx_it hc hF
    exact h15 v1 v2 v3 v4 _ _ _ _ hF hw (lv_sub hl [0, 1, 2, 3, 4] rfl)
  · have hF := fx_if hc hF
    refine lv_iload_n hx hb d_Md_fixity_8 rfl (lv_at hl 2 rfl) ?_
    refine k_Md_isOperator X hw lk_Md_127 d_Md_fixity_9 hl.1 (lv_room (Nat.le_of_ble_eq_true rfl)) ⟨Nat.le_of_ble_eq_true rfl, Nat.le_of_ble_eq_true rfl⟩ ⟨Nat.zero_le _, Nat.zero_le _⟩ hF (fun x6 σ H locs hF hw => ?_)
    refine lv_if_ne (tgt := 19) hx hb d_Md_fixity_12 (by decide) (fun hc => ?_) (fun hc => ?_)
    · have hF := fx_if hc hF
      refine lv_iconst (v := 0) hx hb d_Md_fixity_19 (by decide) ?_
      exact h20 v1 v2 v3 v4 0 _ _ _ _ hF hw (lv_sub hl [0, 1, 2, 3, 4] rfl)
    · have hF := fx_it hc hF
      exact h15 v1 v2 v3 v4 _ _ _ _ hF hw (lv_sub hl [0, 1, 2, 3, 4] rfl)
section
variable {p : Program} {l : Launch} {e : Env} {R : Room} {s : State} {m : MethodId} {args : Array Value} {below : List Frame} {meth : Method} {c : Code} {H : Heap} {locs : List Loc} {cells slots : Nat} {Q : State → Prop}
variable {cc : ByteArray} {pc nL ix : Nat} {ls : Array Slot} {rest : List Value} {own : String} {D : va_G} {A : Nat → Prop} {h : Nat → Nat} {cA : Nat → ClassId} {σ : fx_S} {β : Type} {res : β × fx_S}
theorem k_Md_fixity {v1 : Int32} {v2 : Int32} {v3 : Int32} {v4 : Int32} (X : fx_X p m c cc nL s args own D fx_cl (fx_tys cA) fx_g fx_G A) (hw : fx_B D fx_cl (rf_ws h cA) A s.heap σ H locs) (lk : Cond.methodLink own ix y_Md_fixity ∈ fx_g) (hdg : decode cc pc = .ok (.invokevirtual ix, 3)) (hsize : ls.size = nL) (hW : 2 * (F0 m pc ls (.int v4 :: .int v3 :: .int v2 :: .int v1 :: .ref (h 0) :: rest)).monitorRoom + (rest.map fun v => v.category).sum ≤ 8) (hR : 2 + 1 ≤ R.frames ∧ 8 + (6 + 11) + 43 ≤ R.locals) (hf : cells ≤ R.cells ∧ slots ≤ R.slots) {k : Unit → fx_M β} (hF : fx_bnd (F_Md_fixity v1 v2 v3 v4) k σ = some res) (kk : ∀ (σ' : fx_S) (H' : Heap) (locs' : List Loc), k () σ' = some res → fx_B D fx_cl (rf_ws h cA) A s.heap σ' H' locs' → W p l e R s m args below meth c H' locs' cells slots Q (F0 m (pc + 3) ls rest)) : W p l e R s m args below meth c H locs cells slots Q (F0 m pc ls (.int v4 :: .int v3 :: .int v2 :: .int v1 :: .ref (h 0) :: rest)) :=
  fx_call_v X hw (c_Md_fixity l D h cA v1 v2 v3 v4) (fx_cwV X lk hg_Md_fixity fx_gok (rm := { frames := 2, cells := 0, slots := 0, locals := 43 }) rfl rfl (by decide +kernel) hR) (va_recv X.2.1 hw.1 (ci := 8) (q0 := 0) rfl rfl) (n := 4) rfl hdg hsize rfl hW hf hF kk
end
set_option maxHeartbeats 4000000 in
set_option maxRecDepth 100000 in
theorem c_Md_teller (l : Launch) (D : va_G) (h : Nat → Nat) (cA : Nat → ClassId) (v1 : Int32) (v2 : Int32) : fx_Mi l y_Md_teller b_Md_teller 4 (some .int) { frames := 0, cells := 0, slots := 0, locals := 0 } D fx_cl (fx_tys cA) fx_g fx_G (rf_ws h cA) [.ref (h 0), .int v1, .int v2] (F_Md_teller v1 v2) := by
  refine fx_start_i fx_G_ok (by decide) (Nat.le_of_ble_eq_true rfl) ?_
  intro p e s m args below meth c A ls σ res Q hF X hw hl hend
  have hx := X.1.1
  have hb := X.1.2.1
  have hl : lv_has ls 4 [(0, .ref (h 0)), (1, .int v1), (2, .int v2)] := hl
  unfold F_Md_teller at hF
  have h2 : ∀ (n2 : Nat) (v2 : Int32) (v3 : Int32) (σ : fx_S) (H : Heap) (locs : List Loc) (ls : Array Slot), fx_loop2 (F_Md_teller_B2) n2 v2 v3 σ = some res → fx_B D fx_cl (rf_ws h cA) A s.heap σ H locs → lv_has ls 4 [(0, .ref (h 0)), (2, .int v2), (3, .int v3)] → W p l e { frames := 0, cells := 0, slots := 0, locals := 0 } s m args below meth c H locs 0 0 Q (F0 m 2 ls []) := by
    intro n2
    induction n2 with
    | zero => intro v2 v3 σ H locs ls hF; cases hF
    | succ n2 ih2 =>
      obtain ⟨K2, eK2⟩ : ∃ K, K = fx_loop2 (F_Md_teller_B2) n2 := ⟨_, rfl⟩
      rw [← eK2] at ih2
      intro v2 v3 σ H locs ls hF hw hl
      replace hF : F_Md_teller_B2 (fx_loop2 (F_Md_teller_B2) n2) v2 v3 σ = some res := hF
      rw [← eK2] at hF
      unfold F_Md_teller_B2 at hF
      refine lv_iload_n hx hb d_Md_teller_2 rfl (lv_at hl 2 rfl) ?_
      refine lv_iconst (v := (-1)) hx hb d_Md_teller_3 (by decide) ?_
      refine lv_icmp_eq (tgt := 32) hx hb d_Md_teller_4 (by decide) (fun hc => ?_) (fun hc => ?_)
      · have hF := fx_it hc hF
        refine lv_iload_n hx hb d_Md_teller_32 rfl (lv_at hl 2 rfl) ?_
        exact hend _ _ _ _ _ _ d_Md_teller_33 hF hw
      · have hF := fx_if hc hF
        refine lv_aload_n hx hb d_Md_teller_7 rfl (lv_at hl 0 rfl) ?_
        refine gR_Md_sides X hw lk_Md_13 d_Md_teller_8 ?_
        refine lv_bipush (v := 41) hx hb d_Md_teller_11 (by decide) ?_
        refine lv_iload_n hx hb d_Md_teller_13 rfl (lv_at hl 2 rfl) ?_
        refine lv_imul hx hb d_Md_teller_14 ?_
        refine lv_iload_n hx hb d_Md_teller_15 rfl (lv_at hl 1 rfl) ?_
        refine lv_iadd hx hb d_Md_teller_16 ?_
        refine lA_Md_sides X hw d_Md_teller_17 hF (fun x1 hF => ?_)
        refine lv_iconst (v := (-1)) hx hb d_Md_teller_18 (by decide) ?_
        refine lv_icmp_ne (tgt := 32) hx hb d_Md_teller_19 (by decide) (fun hc => ?_) (fun hc => ?_)
        · have hF := fx_if hc hF
          refine lv_iload_n hx hb d_Md_teller_32 rfl (lv_at hl 2 rfl) ?_
          exact hend _ _ _ _ _ _ d_Md_teller_33 hF hw
        · have hF := fx_it hc hF
          refine lv_aload_n hx hb d_Md_teller_22 rfl (lv_at hl 0 rfl) ?_
          refine gR_Md_outer X hw lk_Md_7 d_Md_teller_23 ?_
          refine lv_iload_n hx hb d_Md_teller_26 rfl (lv_at hl 2 rfl) ?_
          refine lA_Md_outer X hw d_Md_teller_27 hF (fun x2 hF => ?_)
          refine lv_istore_n (lv' := [(3, .int x2), (0, .ref (h 0)), (2, .int v2)]) hx hb d_Md_teller_28 rfl hl (by decide) rfl (fun ls hl => ?_)
          refine lv_goto (tgt := 2) hx hb d_Md_teller_29 (by decide) ?_
          exact ih2 v2 x2 _ _ _ _ hF hw (lv_sub hl [1, 2, 0] rfl)
  refine lv_iload_n hx hb d_Md_teller_0 rfl (lv_at hl 1 rfl) ?_
  refine lv_istore_n (lv' := [(3, .int v1), (0, .ref (h 0)), (1, .int v1), (2, .int v2)]) hx hb d_Md_teller_1 rfl hl (by decide) rfl (fun ls hl => ?_)
  exact h2 fx_fuel v2 v1 _ _ _ _ hF hw (lv_sub hl [1, 3, 0] rfl)
section
variable {p : Program} {l : Launch} {e : Env} {R : Room} {s : State} {m : MethodId} {args : Array Value} {below : List Frame} {meth : Method} {c : Code} {H : Heap} {locs : List Loc} {cells slots : Nat} {Q : State → Prop}
variable {cc : ByteArray} {pc nL ix : Nat} {ls : Array Slot} {rest : List Value} {own : String} {D : va_G} {A : Nat → Prop} {h : Nat → Nat} {cA : Nat → ClassId} {σ : fx_S} {β : Type} {res : β × fx_S}
theorem k_Md_teller {v1 : Int32} {v2 : Int32} (X : fx_X p m c cc nL s args own D fx_cl (fx_tys cA) fx_g fx_G A) (hw : fx_B D fx_cl (rf_ws h cA) A s.heap σ H locs) (lk : Cond.methodLink own ix y_Md_teller ∈ fx_g) (hdg : decode cc pc = .ok (.invokevirtual ix, 3)) (hsize : ls.size = nL) (hW : 2 * (F0 m pc ls (.int v2 :: .int v1 :: .ref (h 0) :: rest)).monitorRoom + (rest.map fun v => v.category).sum ≤ 8) (hR : 0 + 1 ≤ R.frames ∧ 8 + (4 + 11) + 0 ≤ R.locals) (hf : cells ≤ R.cells ∧ slots ≤ R.slots) {k : Int32 → fx_M β} (hF : fx_bnd (F_Md_teller v1 v2) k σ = some res) (kk : ∀ (r : Int32) (σ' : fx_S) (H' : Heap) (locs' : List Loc), k r σ' = some res → fx_B D fx_cl (rf_ws h cA) A s.heap σ' H' locs' → W p l e R s m args below meth c H' locs' cells slots Q (F0 m (pc + 3) ls (.int r :: rest))) : W p l e R s m args below meth c H locs cells slots Q (F0 m pc ls (.int v2 :: .int v1 :: .ref (h 0) :: rest)) :=
  fx_call_i X hw (c_Md_teller l D h cA v1 v2) (fx_cwV X lk hg_Md_teller fx_gok (rm := { frames := 0, cells := 0, slots := 0, locals := 0 }) rfl rfl (by decide +kernel) hR) (va_recv X.2.1 hw.1 (ci := 8) (q0 := 0) rfl rfl) (n := 2) rfl hdg hsize rfl hW hf hF kk
end
set_option maxHeartbeats 4000000 in
set_option maxRecDepth 100000 in
theorem c_Md_rankOf (l : Launch) (D : va_G) (h : Nat → Nat) (cA : Nat → ClassId) (v1 : Int32) (v2 : Int32) : fx_Mi l y_Md_rankOf b_Md_rankOf 4 (some .int) { frames := 1, cells := 0, slots := 0, locals := 23 } D fx_cl (fx_tys cA) fx_g fx_G (rf_ws h cA) [.ref (h 0), .int v1, .int v2] (F_Md_rankOf v1 v2) := by
  refine fx_start_i fx_G_ok (by decide) (Nat.le_of_ble_eq_true rfl) ?_
  intro p e s m args below meth c A ls σ res Q hF X hw hl hend
  have hx := X.1.1
  have hb := X.1.2.1
  have hl : lv_has ls 4 [(0, .ref (h 0)), (1, .int v1), (2, .int v2)] := hl
  unfold F_Md_rankOf at hF
  refine lv_aload_n hx hb d_Md_rankOf_0 rfl (lv_at hl 0 rfl) ?_
  refine lv_iload_n hx hb d_Md_rankOf_1 rfl (lv_at hl 1 rfl) ?_
  refine lv_iload_n hx hb d_Md_rankOf_2 rfl (lv_at hl 2 rfl) ?_
  refine k_Md_teller X hw lk_Md_130 d_Md_rankOf_3 hl.1 (lv_room (Nat.le_of_ble_eq_true rfl)) ⟨Nat.le_of_ble_eq_true rfl, Nat.le_of_ble_eq_true rfl⟩ ⟨Nat.zero_le _, Nat.zero_le _⟩ hF (fun x1 σ H locs hF hw => ?_)
  refine lv_istore_n (lv' := [(3, .int x1), (0, .ref (h 0)), (1, .int v1), (2, .int v2)]) hx hb d_Md_rankOf_6 rfl hl (by decide) rfl (fun ls hl => ?_)
  refine lv_iload_n hx hb d_Md_rankOf_7 rfl (lv_at hl 3 rfl) ?_
  refine lv_if_ne (tgt := 16) hx hb d_Md_rankOf_8 (by decide) (fun hc => ?_) (fun hc => ?_)
  · have hF := fx_if hc hF
    refine lv_iload_n hx hb d_Md_rankOf_16 rfl (lv_at hl 0 rfl) ?_
    refine lv_iconst (v := (-1)) hx hb d_Md_rankOf_17 (by decide) ?_
    refine lv_icmp_ne (tgt := 26) hx hb d_Md_rankOf_18 (by decide) (fun hc => ?_) (fun hc => ?_)
    · have hF := fx_if hc hF
      refine lv_aload_n hx hb d_Md_rankOf_26 rfl (lv_at hl 1 rfl) ?_
      refine gR_Md_ranks X hw lk_Md_16 d_Md_rankOf_27 ?_
      refine lv_bipush (v := 41) hx hb d_Md_rankOf_30 (by decide) ?_
      refine lv_iload_n hx hb d_Md_rankOf_32 rfl (lv_at hl 0 rfl) ?_
      refine lv_imul hx hb d_Md_rankOf_33 ?_
      refine lv_iload_n hx hb d_Md_rankOf_34 rfl (lv_at hl 3 rfl) ?_
      refine lv_iadd hx hb d_Md_rankOf_35 ?_
      refine lA_Md_ranks X hw d_Md_rankOf_36 hF (fun x2 hF => ?_)
      exact hend _ _ _ _ _ _ d_Md_rankOf_37 hF hw
    · have hF := fx_it hc hF
      refine lv_bipush (v := 9) hx hb d_Md_rankOf_21 (by decide) ?_
      refine lv_goto (tgt := 37) hx hb d_Md_rankOf_23 (by decide) ?_
      exact hend _ _ _ _ _ _ d_Md_rankOf_37 hF hw
  · have hF := fx_it hc hF
    refine lv_bipush (v := 6) hx hb d_Md_rankOf_11 (by decide) ?_
    refine lv_goto (tgt := 37) hx hb d_Md_rankOf_13 (by decide) ?_
    exact hend _ _ _ _ _ _ d_Md_rankOf_37 hF hw
section
variable {p : Program} {l : Launch} {e : Env} {R : Room} {s : State} {m : MethodId} {args : Array Value} {below : List Frame} {meth : Method} {c : Code} {H : Heap} {locs : List Loc} {cells slots : Nat} {Q : State → Prop}
variable {cc : ByteArray} {pc nL ix : Nat} {ls : Array Slot} {rest : List Value} {own : String} {D : va_G} {A : Nat → Prop} {h : Nat → Nat} {cA : Nat → ClassId} {σ : fx_S} {β : Type} {res : β × fx_S}
theorem k_Md_rankOf {v1 : Int32} {v2 : Int32} (X : fx_X p m c cc nL s args own D fx_cl (fx_tys cA) fx_g fx_G A) (hw : fx_B D fx_cl (rf_ws h cA) A s.heap σ H locs) (lk : Cond.methodLink own ix y_Md_rankOf ∈ fx_g) (hdg : decode cc pc = .ok (.invokevirtual ix, 3)) (hsize : ls.size = nL) (hW : 2 * (F0 m pc ls (.int v2 :: .int v1 :: .ref (h 0) :: rest)).monitorRoom + (rest.map fun v => v.category).sum ≤ 8) (hR : 1 + 1 ≤ R.frames ∧ 8 + (4 + 11) + 23 ≤ R.locals) (hf : cells ≤ R.cells ∧ slots ≤ R.slots) {k : Int32 → fx_M β} (hF : fx_bnd (F_Md_rankOf v1 v2) k σ = some res) (kk : ∀ (r : Int32) (σ' : fx_S) (H' : Heap) (locs' : List Loc), k r σ' = some res → fx_B D fx_cl (rf_ws h cA) A s.heap σ' H' locs' → W p l e R s m args below meth c H' locs' cells slots Q (F0 m (pc + 3) ls (.int r :: rest))) : W p l e R s m args below meth c H locs cells slots Q (F0 m pc ls (.int v2 :: .int v1 :: .ref (h 0) :: rest)) :=
  fx_call_i X hw (c_Md_rankOf l D h cA v1 v2) (fx_cwV X lk hg_Md_rankOf fx_gok (rm := { frames := 1, cells := 0, slots := 0, locals := 23 }) rfl rfl (by decide +kernel) hR) (va_recv X.2.1 hw.1 (ci := 8) (q0 := 0) rfl rfl) (n := 2) rfl hdg hsize rfl hW hf hF kk
end
set_option maxHeartbeats 4000000 in
set_option maxRecDepth 100000 in
theorem c_Md_sideOf (l : Launch) (D : va_G) (h : Nat → Nat) (cA : Nat → ClassId) (v1 : Int32) (v2 : Int32) : fx_Mi l y_Md_sideOf b_Md_sideOf 4 (some .int) { frames := 1, cells := 0, slots := 0, locals := 23 } D fx_cl (fx_tys cA) fx_g fx_G (rf_ws h cA) [.ref (h 0), .int v1, .int v2] (F_Md_sideOf v1 v2) := by
  refine fx_start_i fx_G_ok (by decide) (Nat.le_of_ble_eq_true rfl) ?_
  intro p e s m args below meth c A ls σ res Q hF X hw hl hend
  have hx := X.1.1
  have hb := X.1.2.1
  have hl : lv_has ls 4 [(0, .ref (h 0)), (1, .int v1), (2, .int v2)] := hl
  unfold F_Md_sideOf at hF
  refine lv_aload_n hx hb d_Md_sideOf_0 rfl (lv_at hl 0 rfl) ?_
  refine lv_iload_n hx hb d_Md_sideOf_1 rfl (lv_at hl 1 rfl) ?_
  refine lv_iload_n hx hb d_Md_sideOf_2 rfl (lv_at hl 2 rfl) ?_
  refine k_Md_teller X hw lk_Md_130 d_Md_sideOf_3 hl.1 (lv_room (Nat.le_of_ble_eq_true rfl)) ⟨Nat.le_of_ble_eq_true rfl, Nat.le_of_ble_eq_true rfl⟩ ⟨Nat.zero_le _, Nat.zero_le _⟩ hF (fun x1 σ H locs hF hw => ?_)
  refine lv_istore_n (lv' := [(3, .int x1), (0, .ref (h 0)), (1, .int v1), (2, .int v2)]) hx hb d_Md_sideOf_6 rfl hl (by decide) rfl (fun ls hl => ?_)
  refine lv_iload_n hx hb d_Md_sideOf_7 rfl (lv_at hl 0 rfl) ?_
  refine lv_iconst (v := (-1)) hx hb d_Md_sideOf_8 (by decide) ?_
  refine lv_icmp_ne (tgt := 16) hx hb d_Md_sideOf_9 (by decide) (fun hc => ?_) (fun hc => ?_)
  · have hF := fx_if hc hF
    refine lv_aload_n hx hb d_Md_sideOf_16 rfl (lv_at hl 1 rfl) ?_
    refine gR_Md_sides X hw lk_Md_13 d_Md_sideOf_17 ?_
    refine lv_bipush (v := 41) hx hb d_Md_sideOf_20 (by decide) ?_
    refine lv_iload_n hx hb d_Md_sideOf_22 rfl (lv_at hl 0 rfl) ?_
    refine lv_imul hx hb d_Md_sideOf_23 ?_
    refine lv_iload_n hx hb d_Md_sideOf_24 rfl (lv_at hl 3 rfl) ?_
    refine lv_iadd hx hb d_Md_sideOf_25 ?_
    refine lA_Md_sides X hw d_Md_sideOf_26 hF (fun x2 hF => ?_)
    exact hend _ _ _ _ _ _ d_Md_sideOf_27 hF hw
  · have hF := fx_it hc hF
    refine lv_iconst (v := 0) hx hb d_Md_sideOf_12 (by decide) ?_
    refine lv_goto (tgt := 27) hx hb d_Md_sideOf_13 (by decide) ?_
    exact hend _ _ _ _ _ _ d_Md_sideOf_27 hF hw
section
variable {p : Program} {l : Launch} {e : Env} {R : Room} {s : State} {m : MethodId} {args : Array Value} {below : List Frame} {meth : Method} {c : Code} {H : Heap} {locs : List Loc} {cells slots : Nat} {Q : State → Prop}
variable {cc : ByteArray} {pc nL ix : Nat} {ls : Array Slot} {rest : List Value} {own : String} {D : va_G} {A : Nat → Prop} {h : Nat → Nat} {cA : Nat → ClassId} {σ : fx_S} {β : Type} {res : β × fx_S}
theorem k_Md_sideOf {v1 : Int32} {v2 : Int32} (X : fx_X p m c cc nL s args own D fx_cl (fx_tys cA) fx_g fx_G A) (hw : fx_B D fx_cl (rf_ws h cA) A s.heap σ H locs) (lk : Cond.methodLink own ix y_Md_sideOf ∈ fx_g) (hdg : decode cc pc = .ok (.invokevirtual ix, 3)) (hsize : ls.size = nL) (hW : 2 * (F0 m pc ls (.int v2 :: .int v1 :: .ref (h 0) :: rest)).monitorRoom + (rest.map fun v => v.category).sum ≤ 8) (hR : 1 + 1 ≤ R.frames ∧ 8 + (4 + 11) + 23 ≤ R.locals) (hf : cells ≤ R.cells ∧ slots ≤ R.slots) {k : Int32 → fx_M β} (hF : fx_bnd (F_Md_sideOf v1 v2) k σ = some res) (kk : ∀ (r : Int32) (σ' : fx_S) (H' : Heap) (locs' : List Loc), k r σ' = some res → fx_B D fx_cl (rf_ws h cA) A s.heap σ' H' locs' → W p l e R s m args below meth c H' locs' cells slots Q (F0 m (pc + 3) ls (.int r :: rest))) : W p l e R s m args below meth c H locs cells slots Q (F0 m pc ls (.int v2 :: .int v1 :: .ref (h 0) :: rest)) :=
  fx_call_i X hw (c_Md_sideOf l D h cA v1 v2) (fx_cwV X lk hg_Md_sideOf fx_gok (rm := { frames := 1, cells := 0, slots := 0, locals := 23 }) rfl rfl (by decide +kernel) hR) (va_recv X.2.1 hw.1 (ci := 8) (q0 := 0) rfl rfl) (n := 2) rfl hdg hsize rfl hW hf hF kk
end
set_option maxHeartbeats 4000000 in
set_option maxRecDepth 100000 in
theorem c_Md_looked (l : Launch) (D : va_G) (h : Nat → Nat) (cA : Nat → ClassId) (v1 : Int32) (v2 : Int32) (v3 : Int32) : fx_Mi l y_Md_looked b_Md_looked 4 (some .int) { frames := 2, cells := 0, slots := 0, locals := 46 } D fx_cl (fx_tys cA) fx_g fx_G (rf_ws h cA) [.ref (h 0), .int v1, .int v2, .int v3] (F_Md_looked v1 v2 v3) := by
  refine fx_start_i fx_G_ok (by decide) (Nat.le_of_ble_eq_true rfl) ?_
  intro p e s m args below meth c A ls σ res Q hF X hw hl hend
  have hx := X.1.1
  have hb := X.1.2.1
  have hl : lv_has ls 4 [(0, .ref (h 0)), (1, .int v1), (2, .int v2), (3, .int v3)] := hl
  unfold F_Md_looked at hF
  have h34 : ∀ (v1 : Int32) (v2 : Int32) (v3 : Int32) (t0 : Int32) (σ : fx_S) (H : Heap) (locs : List Loc) (ls : Array Slot), F_Md_looked_J34 v1 v2 v3 t0 σ = some res → fx_B D fx_cl (rf_ws h cA) A s.heap σ H locs → lv_has ls 4 [(0, .ref (h 0)), (1, .int v1), (2, .int v2), (3, .int v3)] → W p l e { frames := 2, cells := 0, slots := 0, locals := 46 } s m args below meth c H locs 0 0 Q (F0 m 34 ls [.int t0, .ref (h 0)]) := by
    intro v1 v2 v3 t0 σ H locs ls hF hw hl
    unfold F_Md_looked_J34 at hF
    refine k_Md_isGood X hw lk_Md_124 d_Md_looked_34 hl.1 (lv_room (Nat.le_of_ble_eq_true rfl)) ⟨Nat.le_of_ble_eq_true rfl, Nat.le_of_ble_eq_true rfl⟩ ⟨Nat.zero_le _, Nat.zero_le _⟩ hF (fun x2 σ H locs hF hw => ?_)
    refine lv_if_ne (tgt := 42) hx hb d_Md_looked_37 (by decide) (fun hc => ?_) (fun hc => ?_)
    · have hF := fx_if hc hF
      refine lv_iload_n hx hb d_Md_looked_42 rfl (lv_at hl 3 rfl) ?_
      refine lv_if_ne (tgt := 55) hx hb d_Md_looked_43 (by decide) (fun hc => ?_) (fun hc => ?_)
      · have hF := fx_if hc hF
        refine lv_iload_n hx hb d_Md_looked_55 rfl (lv_at hl 3 rfl) ?_
        refine lv_iconst (v := 1) hx hb d_Md_looked_56 (by decide) ?_
        refine lv_icmp_ne (tgt := 69) hx hb d_Md_looked_57 (by decide) (fun hc => ?_) (fun hc => ?_)
        · have hF := fx_if hc hF
          refine lv_aload_n hx hb d_Md_looked_69 rfl (lv_at hl 0 rfl) ?_
          refine lv_iload_n hx hb d_Md_looked_70 rfl (lv_at hl 1 rfl) ?_
          refine lv_iload_n hx hb d_Md_looked_71 rfl (lv_at hl 2 rfl) ?_
          refine k_Md_teller X hw lk_Md_130 d_Md_looked_72 hl.1 (lv_room (Nat.le_of_ble_eq_true rfl)) ⟨Nat.le_of_ble_eq_true rfl, Nat.le_of_ble_eq_true rfl⟩ ⟨Nat.zero_le _, Nat.zero_le _⟩ hF (fun x3 σ H locs hF hw => ?_)
          exact hend _ _ _ _ _ _ d_Md_looked_75 hF hw
        · have hF := fx_it hc hF
          refine lv_aload_n hx hb d_Md_looked_60 rfl (lv_at hl 0 rfl) ?_
          refine lv_iload_n hx hb d_Md_looked_61 rfl (lv_at hl 1 rfl) ?_
          refine lv_iload_n hx hb d_Md_looked_62 rfl (lv_at hl 2 rfl) ?_
          refine k_Md_rankOf X hw lk_Md_137 d_Md_looked_63 hl.1 (lv_room (Nat.le_of_ble_eq_true rfl)) ⟨Nat.le_of_ble_eq_true rfl, Nat.le_of_ble_eq_true rfl⟩ ⟨Nat.zero_le _, Nat.zero_le _⟩ hF (fun x4 σ H locs hF hw => ?_)
          refine lv_goto (tgt := 75) hx hb d_Md_looked_66 (by decide) ?_
          exact hend _ _ _ _ _ _ d_Md_looked_75 hF hw
      · have hF := fx_it hc hF
        refine lv_aload_n hx hb d_Md_looked_46 rfl (lv_at hl 0 rfl) ?_
        refine lv_iload_n hx hb d_Md_looked_47 rfl (lv_at hl 1 rfl) ?_
        refine lv_iload_n hx hb d_Md_looked_48 rfl (lv_at hl 2 rfl) ?_
        refine k_Md_sideOf X hw lk_Md_134 d_Md_looked_49 hl.1 (lv_room (Nat.le_of_ble_eq_true rfl)) ⟨Nat.le_of_ble_eq_true rfl, Nat.le_of_ble_eq_true rfl⟩ ⟨Nat.zero_le _, Nat.zero_le _⟩ hF (fun x5 σ H locs hF hw => ?_)
        refine lv_goto (tgt := 75) hx hb d_Md_looked_52 (by decide) ?_
        exact hend _ _ _ _ _ _ d_Md_looked_75 hF hw
    · have hF := fx_it hc hF
      refine lv_iconst (v := 0) hx hb d_Md_looked_40 (by decide) ?_
      exact hend _ _ _ _ _ _ d_Md_looked_41 hF hw
  have h16 : ∀ (v1 : Int32) (v2 : Int32) (v3 : Int32) (σ : fx_S) (H : Heap) (locs : List Loc) (ls : Array Slot), F_Md_looked_J16 v1 v2 v3 σ = some res → fx_B D fx_cl (rf_ws h cA) A s.heap σ H locs → lv_has ls 4 [(0, .ref (h 0)), (1, .int v1), (2, .int v2), (3, .int v3)] → W p l e { frames := 2, cells := 0, slots := 0, locals := 46 } s m args below meth c H locs 0 0 Q (F0 m 16 ls [.ref (h 0)]) := by
    intro v1 v2 v3 σ H locs ls hF hw hl
    unfold F_Md_looked_J16 at hF
    refine lv_iconst (v := 1) hx hb d_Md_looked_16 (by decide) ?_
    refine lv_goto (tgt := 34) hx hb d_Md_looked_17 (by decide) ?_
    exact h34 v1 v2 v3 1 _ _ _ _ hF hw (lv_sub hl [0, 1, 2, 3] rfl)
  refine lv_aload_n hx hb d_Md_looked_0 rfl (lv_at hl 0 rfl) ?_
  refine lv_aload_n hx hb d_Md_looked_1 rfl (lv_at hl 0 rfl) ?_
  refine lv_iload_n hx hb d_Md_looked_2 rfl (lv_at hl 1 rfl) ?_
  refine k_Md_isScope X hw lk_Md_120 d_Md_looked_3 hl.1 (lv_room (Nat.le_of_ble_eq_true rfl)) ⟨Nat.le_of_ble_eq_true rfl, Nat.le_of_ble_eq_true rfl⟩ ⟨Nat.zero_le _, Nat.zero_le _⟩ hF (fun x1 σ H locs hF hw => ?_)
  refine lv_if_eq (tgt := 16) hx hb d_Md_looked_6 (by decide) (fun hc => ?_) (fun hc => ?_)
  · have hF := fx_it hc hF
    exact h16 v1 v2 v3 _ _ _ _ hF hw (lv_sub hl [0, 1, 2, 3] rfl)
  · have hF := fx_if hc hF
    refine lv_iload_n hx hb d_Md_looked_9 rfl (lv_at hl 2 rfl) ?_
    refine k_Md_isOperator X hw lk_Md_127 d_Md_looked_10 hl.1 (lv_room (Nat.le_of_ble_eq_true rfl)) ⟨Nat.le_of_ble_eq_true rfl, Nat.le_of_ble_eq_true rfl⟩ ⟨Nat.zero_le _, Nat.zero_le _⟩ hF (fun x6 σ H locs hF hw => ?_)
    refine lv_if_ne (tgt := 20) hx hb d_Md_looked_13 (by decide) (fun hc => ?_) (fun hc => ?_)
    · have hF := fx_if hc hF
      refine lv_iload_n hx hb d_Md_looked_20 rfl (lv_at hl 3 rfl) ?_
      refine lv_iconst (v := 0) hx hb d_Md_looked_21 (by decide) ?_
      refine lv_iconst (v := 2) hx hb d_Md_looked_22 (by decide) ?_
      refine k_Md_isIn X hw lk_Md_116 d_Md_looked_23 hl.1 (lv_room (Nat.le_of_ble_eq_true rfl)) ⟨Nat.le_of_ble_eq_true rfl, Nat.le_of_ble_eq_true rfl⟩ ⟨Nat.zero_le _, Nat.zero_le _⟩ hF (fun x7 σ H locs hF hw => ?_)
      refine lv_if_ne (tgt := 33) hx hb d_Md_looked_26 (by decide) (fun hc => ?_) (fun hc => ?_)
      · have hF := fx_if hc hF
        refine lv_iconst (v := 0) hx hb d_Md_looked_33 (by decide) ?_
        exact h34 v1 v2 v3 0 _ _ _ _ hF hw (lv_sub hl [0, 1, 2, 3] rfl)
      · have hF := fx_it hc hF
        refine lv_iconst (v := 2) hx hb d_Md_looked_29 (by decide) ?_
        refine lv_goto (tgt := 34) hx hb d_Md_looked_30 (by decide) ?_
        exact h34 v1 v2 v3 2 _ _ _ _ hF hw (lv_sub hl [0, 1, 2, 3] rfl)
    · have hF := fx_it hc hF
      exact h16 v1 v2 v3 _ _ _ _ hF hw (lv_sub hl [0, 1, 2, 3] rfl)
section
variable {p : Program} {l : Launch} {e : Env} {R : Room} {s : State} {m : MethodId} {args : Array Value} {below : List Frame} {meth : Method} {c : Code} {H : Heap} {locs : List Loc} {cells slots : Nat} {Q : State → Prop}
variable {cc : ByteArray} {pc nL ix : Nat} {ls : Array Slot} {rest : List Value} {own : String} {D : va_G} {A : Nat → Prop} {h : Nat → Nat} {cA : Nat → ClassId} {σ : fx_S} {β : Type} {res : β × fx_S}
theorem k_Md_looked {v1 : Int32} {v2 : Int32} {v3 : Int32} (X : fx_X p m c cc nL s args own D fx_cl (fx_tys cA) fx_g fx_G A) (hw : fx_B D fx_cl (rf_ws h cA) A s.heap σ H locs) (lk : Cond.methodLink own ix y_Md_looked ∈ fx_g) (hdg : decode cc pc = .ok (.invokevirtual ix, 3)) (hsize : ls.size = nL) (hW : 2 * (F0 m pc ls (.int v3 :: .int v2 :: .int v1 :: .ref (h 0) :: rest)).monitorRoom + (rest.map fun v => v.category).sum ≤ 8) (hR : 2 + 1 ≤ R.frames ∧ 8 + (4 + 11) + 46 ≤ R.locals) (hf : cells ≤ R.cells ∧ slots ≤ R.slots) {k : Int32 → fx_M β} (hF : fx_bnd (F_Md_looked v1 v2 v3) k σ = some res) (kk : ∀ (r : Int32) (σ' : fx_S) (H' : Heap) (locs' : List Loc), k r σ' = some res → fx_B D fx_cl (rf_ws h cA) A s.heap σ' H' locs' → W p l e R s m args below meth c H' locs' cells slots Q (F0 m (pc + 3) ls (.int r :: rest))) : W p l e R s m args below meth c H locs cells slots Q (F0 m pc ls (.int v3 :: .int v2 :: .int v1 :: .ref (h 0) :: rest)) :=
  fx_call_i X hw (c_Md_looked l D h cA v1 v2 v3) (fx_cwV X lk hg_Md_looked fx_gok (rm := { frames := 2, cells := 0, slots := 0, locals := 46 }) rfl rfl (by decide +kernel) hR) (va_recv X.2.1 hw.1 (ci := 8) (q0 := 0) rfl rfl) (n := 3) rfl hdg hsize rfl hW hf hF kk
end
set_option maxHeartbeats 4000000 in
set_option maxRecDepth 100000 in
theorem c_Md_begin (l : Launch) (D : va_G) (h : Nat → Nat) (cA : Nat → ClassId) (v1 : Int32) : fx_Mv l y_Md_begin b_Md_begin 2 none { frames := 0, cells := 0, slots := 0, locals := 0 } D fx_cl (fx_tys cA) fx_g fx_G (rf_ws h cA) [.ref (h 0), .int v1] (F_Md_begin v1) := by
  refine fx_start_v fx_G_ok (by decide) (Nat.le_of_ble_eq_true rfl) ?_
  intro p e s m args below meth c A ls σ res Q hF X hw hl hend
  have hx := X.1.1
  have hb := X.1.2.1
  have hl : lv_has ls 2 [(0, .ref (h 0)), (1, .int v1)] := hl
  unfold F_Md_begin at hF
  refine lv_aload_n hx hb d_Md_begin_0 rfl (lv_at hl 0 rfl) ?_
  refine lv_iconst (v := 0) hx hb d_Md_begin_1 (by decide) ?_
  refine pI_Md_code X hw lk_Md_113 d_Md_begin_2 hF (fun σ H locs hF hw => ?_)
  refine lv_aload_n hx hb d_Md_begin_5 rfl (lv_at hl 0 rfl) ?_
  refine lv_iconst (v := 0) hx hb d_Md_begin_6 (by decide) ?_
  refine pI_Md_count X hw lk_Md_140 d_Md_begin_7 hF (fun σ H locs hF hw => ?_)
  refine lv_aload_n hx hb d_Md_begin_10 rfl (lv_at hl 0 rfl) ?_
  refine lv_iconst (v := 0) hx hb d_Md_begin_11 (by decide) ?_
  refine pI_Md_opened X hw lk_Md_143 d_Md_begin_12 hF (fun σ H locs hF hw => ?_)
  refine lv_aload_n hx hb d_Md_begin_15 rfl (lv_at hl 0 rfl) ?_
  refine lv_iload_n hx hb d_Md_begin_16 rfl (lv_at hl 1 rfl) ?_
  refine pI_Md_isPattern X hw lk_Md_146 d_Md_begin_17 hF (fun σ H locs hF hw => ?_)
  exact hend _ _ _ _ _ d_Md_begin_20 hF hw
section
variable {p : Program} {l : Launch} {e : Env} {R : Room} {s : State} {m : MethodId} {args : Array Value} {below : List Frame} {meth : Method} {c : Code} {H : Heap} {locs : List Loc} {cells slots : Nat} {Q : State → Prop}
variable {cc : ByteArray} {pc nL ix : Nat} {ls : Array Slot} {rest : List Value} {own : String} {D : va_G} {A : Nat → Prop} {h : Nat → Nat} {cA : Nat → ClassId} {σ : fx_S} {β : Type} {res : β × fx_S}
theorem k_Md_begin {v1 : Int32} (X : fx_X p m c cc nL s args own D fx_cl (fx_tys cA) fx_g fx_G A) (hw : fx_B D fx_cl (rf_ws h cA) A s.heap σ H locs) (lk : Cond.methodLink own ix y_Md_begin ∈ fx_g) (hdg : decode cc pc = .ok (.invokevirtual ix, 3)) (hsize : ls.size = nL) (hW : 2 * (F0 m pc ls (.int v1 :: .ref (h 0) :: rest)).monitorRoom + (rest.map fun v => v.category).sum ≤ 8) (hR : 0 + 1 ≤ R.frames ∧ 8 + (2 + 11) + 0 ≤ R.locals) (hf : cells ≤ R.cells ∧ slots ≤ R.slots) {k : Unit → fx_M β} (hF : fx_bnd (F_Md_begin v1) k σ = some res) (kk : ∀ (σ' : fx_S) (H' : Heap) (locs' : List Loc), k () σ' = some res → fx_B D fx_cl (rf_ws h cA) A s.heap σ' H' locs' → W p l e R s m args below meth c H' locs' cells slots Q (F0 m (pc + 3) ls rest)) : W p l e R s m args below meth c H locs cells slots Q (F0 m pc ls (.int v1 :: .ref (h 0) :: rest)) :=
  fx_call_v X hw (c_Md_begin l D h cA v1) (fx_cwV X lk hg_Md_begin fx_gok (rm := { frames := 0, cells := 0, slots := 0, locals := 0 }) rfl rfl (by decide +kernel) hR) (va_recv X.2.1 hw.1 (ci := 8) (q0 := 0) rfl rfl) (n := 1) rfl hdg hsize rfl hW hf hF kk
end
set_option maxHeartbeats 4000000 in
set_option maxRecDepth 100000 in
theorem c_Md_lastKind (l : Launch) (D : va_G) (h : Nat → Nat) (cA : Nat → ClassId) : fx_Mi l y_Md_lastKind b_Md_lastKind 1 (some .int) { frames := 0, cells := 0, slots := 0, locals := 0 } D fx_cl (fx_tys cA) fx_g fx_G (rf_ws h cA) [.ref (h 0)] (F_Md_lastKind) := by
  refine fx_start_i fx_G_ok (by decide) (Nat.le_of_ble_eq_true rfl) ?_
  intro p e s m args below meth c A ls σ res Q hF X hw hl hend
  have hx := X.1.1
  have hb := X.1.2.1
  have hl : lv_has ls 1 [(0, .ref (h 0))] := hl
  unfold F_Md_lastKind at hF
  refine lv_aload_n hx hb d_Md_lastKind_0 rfl (lv_at hl 0 rfl) ?_
  refine gI_Md_count X hw lk_Md_140 d_Md_lastKind_1 hF (fun x1 hF => ?_)
  refine lv_if_ne (tgt := 11) hx hb d_Md_lastKind_4 (by decide) (fun hc => ?_) (fun hc => ?_)
  · have hF := fx_if hc hF
    refine lv_aload_n hx hb d_Md_lastKind_11 rfl (lv_at hl 0 rfl) ?_
    refine gR_Md_kinds X hw lk_Md_19 d_Md_lastKind_12 ?_
    refine lv_aload_n hx hb d_Md_lastKind_15 rfl (lv_at hl 0 rfl) ?_
    refine gI_Md_count X hw lk_Md_140 d_Md_lastKind_16 hF (fun x2 hF => ?_)
    refine lv_iconst (v := 1) hx hb d_Md_lastKind_19 (by decide) ?_
    refine lv_isub hx hb d_Md_lastKind_20 ?_
    refine lA_Md_kinds X hw d_Md_lastKind_21 hF (fun x3 hF => ?_)
    exact hend _ _ _ _ _ _ d_Md_lastKind_22 hF hw
  · have hF := fx_it hc hF
    refine lv_iconst (v := (-1)) hx hb d_Md_lastKind_7 (by decide) ?_
    refine lv_goto (tgt := 22) hx hb d_Md_lastKind_8 (by decide) ?_
    exact hend _ _ _ _ _ _ d_Md_lastKind_22 hF hw
section
variable {p : Program} {l : Launch} {e : Env} {R : Room} {s : State} {m : MethodId} {args : Array Value} {below : List Frame} {meth : Method} {c : Code} {H : Heap} {locs : List Loc} {cells slots : Nat} {Q : State → Prop}
variable {cc : ByteArray} {pc nL ix : Nat} {ls : Array Slot} {rest : List Value} {own : String} {D : va_G} {A : Nat → Prop} {h : Nat → Nat} {cA : Nat → ClassId} {σ : fx_S} {β : Type} {res : β × fx_S}
theorem k_Md_lastKind (X : fx_X p m c cc nL s args own D fx_cl (fx_tys cA) fx_g fx_G A) (hw : fx_B D fx_cl (rf_ws h cA) A s.heap σ H locs) (lk : Cond.methodLink own ix y_Md_lastKind ∈ fx_g) (hdg : decode cc pc = .ok (.invokevirtual ix, 3)) (hsize : ls.size = nL) (hW : 2 * (F0 m pc ls (.ref (h 0) :: rest)).monitorRoom + (rest.map fun v => v.category).sum ≤ 8) (hR : 0 + 1 ≤ R.frames ∧ 8 + (1 + 11) + 0 ≤ R.locals) (hf : cells ≤ R.cells ∧ slots ≤ R.slots) {k : Int32 → fx_M β} (hF : fx_bnd (F_Md_lastKind) k σ = some res) (kk : ∀ (r : Int32) (σ' : fx_S) (H' : Heap) (locs' : List Loc), k r σ' = some res → fx_B D fx_cl (rf_ws h cA) A s.heap σ' H' locs' → W p l e R s m args below meth c H' locs' cells slots Q (F0 m (pc + 3) ls (.int r :: rest))) : W p l e R s m args below meth c H locs cells slots Q (F0 m pc ls (.ref (h 0) :: rest)) :=
  fx_call_i X hw (c_Md_lastKind l D h cA) (fx_cwV X lk hg_Md_lastKind fx_gok (rm := { frames := 0, cells := 0, slots := 0, locals := 0 }) rfl rfl (by decide +kernel) hR) (va_recv X.2.1 hw.1 (ci := 8) (q0 := 0) rfl rfl) (n := 0) rfl hdg hsize rfl hW hf hF kk
end
