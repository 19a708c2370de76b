set_option maxHeartbeats 4000000 in
set_option maxRecDepth 100000 in
theorem c_Row_isPattern (l : Launch) (D : va_G) (h : Nat → Nat) (cA : Nat → ClassId) : fx_Mi l y_Row_isPattern b_Row_isPattern 1 (some .boolean) { frames := 0, cells := 0, slots := 0, locals := 0 } D fx_cl (fx_tys cA) fx_g fx_G (fx_ws h cA) [.ref (h 7)] (F_Row_isPattern) := by
  refine fx_start_z fx_G_ok (by decide) (Nat.le_of_ble_eq_true rfl) ?_
  intro p e s m args below meth c A ls σ res Q hF X hw hl hend
  have hx := X.1.1
  have hb := X.1.2.1
  have hl : lv_has ls 1 [(0, .ref (h 7))] := hl
  unfold F_Row_isPattern at hF
  refine lv_aload_n hx hb d_Row_isPattern_0 rfl (lv_at hl 0 rfl) ?_
  refine gI_Row_pattern X hw lk_Row_36 d_Row_isPattern_1 hF (fun x1 hF => ?_)
  exact hend _ _ _ _ _ _ d_Row_isPattern_4 hF hw
section
variable {p : Program} {l : Launch} {e : Env} {R : Room} {s : State} {m : MethodId} {args : Array Value} {below : List Frame} {meth : Method} {c : Code} {H : Heap} {locs : List Loc} {cells slots : Nat} {Q : State → Prop}
variable {cc : ByteArray} {pc nL ix : Nat} {ls : Array Slot} {rest : List Value} {own : String} {D : va_G} {A : Nat → Prop} {h : Nat → Nat} {cA : Nat → ClassId} {σ : fx_S} {β : Type} {res : β × fx_S}
theorem k_Row_isPattern (X : fx_X p m c cc nL s args own D fx_cl (fx_tys cA) fx_g fx_G A) (hw : fx_B D fx_cl (fx_ws h cA) A s.heap σ H locs) (lk : Cond.methodLink own ix y_Row_isPattern ∈ fx_g) (hdg : decode cc pc = .ok (.invokevirtual ix, 3)) (hsize : ls.size = nL) (hW : 2 * (F0 m pc ls (.ref (h 7) :: rest)).monitorRoom + (rest.map fun v => v.category).sum ≤ 8) (hR : 0 + 1 ≤ R.frames ∧ 8 + (1 + 11) + 0 ≤ R.locals) (hf : cells ≤ R.cells ∧ slots ≤ R.slots) {k : Int32 → fx_M β} (hF : fx_bnd (F_Row_isPattern) k σ = some res) (kk : ∀ (r : Int32) (σ' : fx_S) (H' : Heap) (locs' : List Loc), k r σ' = some res → fx_B D fx_cl (fx_ws h cA) A s.heap σ' H' locs' → W p l e R s m args below meth c H' locs' cells slots Q (F0 m (pc + 3) ls (.int r :: rest))) : W p l e R s m args below meth c H locs cells slots Q (F0 m pc ls (.ref (h 7) :: rest)) :=
  fx_call_i X hw (c_Row_isPattern l D h cA) (fx_cwV X lk hg_Row_isPattern fx_gok (rm := { frames := 0, cells := 0, slots := 0, locals := 0 }) rfl rfl (by decide +kernel) hR) (va_recv X.2.1 hw.1 (ci := 3) (q0 := 7) rfl rfl) (n := 0) rfl hdg hsize rfl hW hf hF kk
end
set_option maxHeartbeats 4000000 in
set_option maxRecDepth 100000 in
theorem c_Resolver_fateOf (l : Launch) (D : va_G) (h : Nat → Nat) (cA : Nat → ClassId) (v1 : Int32) (v2 : Int32) : fx_Mi l y_Resolver_fateOf b_Resolver_fateOf 7 (some .int) { frames := 3, cells := 0, slots := 0, locals := 63 } D fx_cl (fx_tys cA) fx_g fx_G (fx_ws h cA) [.ref (h 13), .int v1, .int v2] (F_Resolver_fateOf v1 v2) := by
  refine fx_start_i fx_G_ok (by decide) (Nat.le_of_ble_eq_true rfl) ?_
  intro p e s m args below meth c A ls σ res Q hF X hw hl hend
  have hx := X.1.1
  have hb := X.1.2.1
  have hl : lv_has ls 7 [(0, .ref (h 13)), (1, .int v1), (2, .int v2)] := hl
  unfold F_Resolver_fateOf at hF
  have h83 : ∀ (v6 : Int32) (σ : fx_S) (H : Heap) (locs : List Loc) (ls : Array Slot), F_Resolver_fateOf_J83 v6 σ = some res → fx_B D fx_cl (fx_ws h cA) A s.heap σ H locs → lv_has ls 7 [(0, .ref (h 13)), (6, .int v6)] → W p l e { frames := 3, cells := 0, slots := 0, locals := 63 } s m args below meth c H locs 0 0 Q (F0 m 83 ls []) := by
    intro v6 σ H locs ls hF hw hl
    unfold F_Resolver_fateOf_J83 at hF
    refine lv_aload_n hx hb d_Resolver_fateOf_83 rfl (lv_at hl 0 rfl) ?_
    refine gR_Resolver_row X hw lk_Resolver_40 d_Resolver_fateOf_84 ?_
    refine k_Row_isPattern X hw lk_Resolver_157 d_Resolver_fateOf_87 hl.1 (lv_room (Nat.le_of_ble_eq_true rfl)) ⟨Nat.le_of_ble_eq_true rfl, Nat.le_of_ble_eq_true rfl⟩ ⟨Nat.zero_le _, Nat.zero_le _⟩ hF (fun x5 σ H locs hF hw => ?_)
    refine lv_if_eq (tgt := 103) hx hb d_Resolver_fateOf_90 (by decide) (fun hc => ?_) (fun hc => ?_)
    · have hF := fx_it hc hF
      refine lv_iconst (v := (-1)) hx hb d_Resolver_fateOf_103 (by decide) ?_
      exact hend _ _ _ _ _ _ d_Resolver_fateOf_104 hF hw
    · have hF := fx_if hc hF
      refine lv_iload hx hb d_Resolver_fateOf_93 (lv_at hl 1 rfl) ?_
      refine lv_iconst (v := 2) hx hb d_Resolver_fateOf_95 (by decide) ?_
      refine lv_icmp_ne (tgt := 103) hx hb d_Resolver_fateOf_96 (by decide) (fun hc => ?_) (fun hc => ?_)
      · have hF := fx_if hc hF
        refine lv_iconst (v := (-1)) hx hb d_Resolver_fateOf_103 (by decide) ?_
        exact hend _ _ _ _ _ _ d_Resolver_fateOf_104 hF hw
      · have hF := fx_it hc hF
        refine lv_iconst (v := 4) hx hb d_Resolver_fateOf_99 (by decide) ?_
        refine lv_goto (tgt := 104) hx hb d_Resolver_fateOf_100 (by decide) ?_
        exact hend _ _ _ _ _ _ d_Resolver_fateOf_104 hF hw
  have h71 : ∀ (v6 : Int32) (σ : fx_S) (H : Heap) (locs : List Loc) (ls : Array Slot), F_Resolver_fateOf_J71 v6 σ = some res → fx_B D fx_cl (fx_ws h cA) A s.heap σ H locs → lv_has ls 7 [(6, .int v6)] → W p l e { frames := 3, cells := 0, slots := 0, locals := 63 } s m args below meth c H locs 0 0 Q (F0 m 71 ls []) := by
    intro v6 σ H locs ls hF hw hl
    unfold F_Resolver_fateOf_J71 at hF
    refine lv_iload hx hb d_Resolver_fateOf_71 (lv_at hl 0 rfl) ?_
    refine lv_iconst (v := 4) hx hb d_Resolver_fateOf_73 (by decide) ?_
    refine lv_icmp_ne (tgt := 81) hx hb d_Resolver_fateOf_74 (by decide) (fun hc => ?_) (fun hc => ?_)
    · have hF := fx_if hc hF
      refine lv_iconst (v := 0) hx hb d_Resolver_fateOf_81 (by decide) ?_
      exact hend _ _ _ _ _ _ d_Resolver_fateOf_82 hF hw
    · have hF := fx_it hc hF
      refine lv_iconst (v := 3) hx hb d_Resolver_fateOf_77 (by decide) ?_
      refine lv_goto (tgt := 82) hx hb d_Resolver_fateOf_78 (by decide) ?_
      exact hend _ _ _ _ _ _ d_Resolver_fateOf_82 hF hw
  have h44 : ∀ (v1 : Int32) (v3 : Int32) (v4 : Int32) (v5 : Int32) (σ : fx_S) (H : Heap) (locs : List Loc) (ls : Array Slot), F_Resolver_fateOf_J44 v1 v3 v4 v5 σ = some res → fx_B D fx_cl (fx_ws h cA) A s.heap σ H locs → lv_has ls 7 [(0, .ref (h 13)), (1, .int v1), (3, .int v3), (4, .int v4), (5, .int v5)] → W p l e { frames := 3, cells := 0, slots := 0, locals := 63 } s m args below meth c H locs 0 0 Q (F0 m 44 ls []) := by
    intro v1 v3 v4 v5 σ H locs ls hF hw hl
    unfold F_Resolver_fateOf_J44 at hF
    refine lv_aload_n hx hb d_Resolver_fateOf_44 rfl (lv_at hl 0 rfl) ?_
    refine gR_Resolver_row X hw lk_Resolver_40 d_Resolver_fateOf_45 ?_
    refine lv_iload_n hx hb d_Resolver_fateOf_48 rfl (lv_at hl 1 rfl) ?_
    refine k_Row_nodeKindAt X hw lk_Resolver_116 d_Resolver_fateOf_49 hl.1 (lv_room (Nat.le_of_ble_eq_true rfl)) ⟨Nat.le_of_ble_eq_true rfl, Nat.le_of_ble_eq_true rfl⟩ ⟨Nat.zero_le _, Nat.zero_le _⟩ hF (fun x4 σ H locs hF hw => ?_)
    refine lv_istore (lv' := [(6, .int x4), (0, .ref (h 13)), (1, .int v1), (3, .int v3), (4, .int v4), (5, .int v5)]) hx hb d_Resolver_fateOf_52 hl (by decide) rfl (fun ls hl => ?_)
    refine lv_iload_n hx hb d_Resolver_fateOf_54 rfl (lv_at hl 3 rfl) ?_
    refine lv_iload hx hb d_Resolver_fateOf_55 (lv_at hl 5 rfl) ?_
    refine lv_icmp_gt (tgt := 71) hx hb d_Resolver_fateOf_57 (by decide) (fun hc => ?_) (fun hc => ?_)
    · have hF := fx_it hc hF
      exact h71 x4 _ _ _ _ hF hw (lv_sub hl [0] rfl)
    · have hF := fx_if hc hF
      refine lv_iload_n hx hb d_Resolver_fateOf_60 rfl (lv_at hl 3 rfl) ?_
      refine lv_iload hx hb d_Resolver_fateOf_61 (lv_at hl 5 rfl) ?_
      refine lv_icmp_ne (tgt := 83) hx hb d_Resolver_fateOf_63 (by decide) (fun hc => ?_) (fun hc => ?_)
      · have hF := fx_if hc hF
        exact h83 x4 _ _ _ _ hF hw (lv_sub hl [1, 0] rfl)
      · have hF := fx_it hc hF
        refine lv_iload hx hb d_Resolver_fateOf_66 (lv_at hl 4 rfl) ?_
        refine lv_if_ne (tgt := 83) hx hb d_Resolver_fateOf_68 (by decide) (fun hc => ?_) (fun hc => ?_)
        · have hF := fx_if hc hF
          exact h83 x4 _ _ _ _ hF hw (lv_sub hl [1, 0] rfl)
        · have hF := fx_it hc hF
          exact h71 x4 _ _ _ _ hF hw (lv_sub hl [0] rfl)
  refine lv_aload_n hx hb d_Resolver_fateOf_0 rfl (lv_at hl 0 rfl) ?_
  refine lv_iload_n hx hb d_Resolver_fateOf_1 rfl (lv_at hl 1 rfl) ?_
  refine k_Resolver_rankAt X hw lk_Resolver_141 d_Resolver_fateOf_2 hl.1 (lv_room (Nat.le_of_ble_eq_true rfl)) ⟨Nat.le_of_ble_eq_true rfl, Nat.le_of_ble_eq_true rfl⟩ ⟨Nat.zero_le _, Nat.zero_le _⟩ hF (fun x1 σ H locs hF hw => ?_)
  refine lv_istore_n (lv' := [(3, .int x1), (0, .ref (h 13)), (1, .int v1), (2, .int v2)]) hx hb d_Resolver_fateOf_5 rfl hl (by decide) rfl (fun ls hl => ?_)
  refine lv_aload_n hx hb d_Resolver_fateOf_6 rfl (lv_at hl 1 rfl) ?_
  refine lv_iload_n hx hb d_Resolver_fateOf_7 rfl (lv_at hl 2 rfl) ?_
  refine k_Resolver_sideAt X hw lk_Resolver_154 d_Resolver_fateOf_8 hl.1 (lv_room (Nat.le_of_ble_eq_true rfl)) ⟨Nat.le_of_ble_eq_true rfl, Nat.le_of_ble_eq_true rfl⟩ ⟨Nat.zero_le _, Nat.zero_le _⟩ hF (fun x2 σ H locs hF hw => ?_)
  refine lv_istore (lv' := [(4, .int x2), (3, .int x1), (0, .ref (h 13)), (1, .int v1), (2, .int v2)]) hx hb d_Resolver_fateOf_11 hl (by decide) rfl (fun ls hl => ?_)
  refine lv_aload_n hx hb d_Resolver_fateOf_13 rfl (lv_at hl 2 rfl) ?_
  refine lv_iload_n hx hb d_Resolver_fateOf_14 rfl (lv_at hl 4 rfl) ?_
  refine k_Resolver_rankAt X hw lk_Resolver_141 d_Resolver_fateOf_15 hl.1 (lv_room (Nat.le_of_ble_eq_true rfl)) ⟨Nat.le_of_ble_eq_true rfl, Nat.le_of_ble_eq_true rfl⟩ ⟨Nat.zero_le _, Nat.zero_le _⟩ hF (fun x3 σ H locs hF hw => ?_)
  refine lv_istore (lv' := [(5, .int x3), (4, .int x2), (3, .int x1), (0, .ref (h 13)), (1, .int v1), (2, .int v2)]) hx hb d_Resolver_fateOf_18 hl (by decide) rfl (fun ls hl => ?_)
  refine lv_iload_n hx hb d_Resolver_fateOf_20 rfl (lv_at hl 2 rfl) ?_
  refine lv_iload hx hb d_Resolver_fateOf_21 (lv_at hl 0 rfl) ?_
  refine lv_icmp_ne (tgt := 44) hx hb d_Resolver_fateOf_23 (by decide) (fun hc => ?_) (fun hc => ?_)
  · have hF := fx_if hc hF
    exact h44 v1 x1 x2 x3 _ _ _ _ hF hw (lv_sub hl [3, 4, 2, 1, 0] rfl)
  · have hF := fx_it hc hF
    refine lv_iload hx hb d_Resolver_fateOf_26 (lv_at hl 1 rfl) ?_
    refine lv_aload_n hx hb d_Resolver_fateOf_28 rfl (lv_at hl 3 rfl) ?_
    refine lv_iload_n hx hb d_Resolver_fateOf_29 rfl (lv_at hl 5 rfl) ?_
    refine k_Resolver_sideAt X hw lk_Resolver_154 d_Resolver_fateOf_30 hl.1 (lv_room (Nat.le_of_ble_eq_true rfl)) ⟨Nat.le_of_ble_eq_true rfl, Nat.le_of_ble_eq_true rfl⟩ ⟨Nat.zero_le _, Nat.zero_le _⟩ hF (fun x6 σ H locs hF hw => ?_)
    refine lv_icmp_ne (tgt := 42) hx hb d_Resolver_fateOf_33 (by decide) (fun hc => ?_) (fun hc => ?_)
    · have hF := fx_if hc hF
      refine lv_iconst (v := 1) hx hb d_Resolver_fateOf_42 (by decide) ?_
      exact hend _ _ _ _ _ _ d_Resolver_fateOf_43 hF hw
    · have hF := fx_it hc hF
      refine lv_iload hx hb d_Resolver_fateOf_36 (lv_at hl 1 rfl) ?_
      refine lv_iconst (v := 2) hx hb d_Resolver_fateOf_38 (by decide) ?_
      refine lv_icmp_ne (tgt := 44) hx hb d_Resolver_fateOf_39 (by decide) (fun hc => ?_) (fun hc => ?_)
      · have hF := fx_if hc hF
        exact h44 v1 x1 x2 x3 _ _ _ _ hF hw (lv_sub hl [3, 4, 2, 1, 0] rfl)
      · have hF := fx_it hc hF
        refine lv_iconst (v := 1) hx hb d_Resolver_fateOf_42 (by decide) ?_
        exact hend _ _ _ _ _ _ d_Resolver_fateOf_43 hF hw
section
variable {p : Program} {l : Launch} {e : Env} {R : Room} {s : State} {m : MethodId} {args : Array Value} {below : List Frame} {meth : Method} {c : Code} {H : Heap} {locs : List Loc} {cells slots : Nat} {Q : State → Prop}
variable {cc : ByteArray} {pc nL ix : Nat} {ls : Array Slot} {rest : List Value} {own : String} {D : va_G} {A : Nat → Prop} {h : Nat → Nat} {cA : Nat → ClassId} {σ : fx_S} {β : Type} {res : β × fx_S}
theorem k_Resolver_fateOf {v1 : Int32} {v2 : Int32} (X : fx_X p m c cc nL s args own D fx_cl (fx_tys cA) fx_g fx_G A) (hw : fx_B D fx_cl (fx_ws h cA) A s.heap σ H locs) (lk : Cond.methodLink own ix y_Resolver_fateOf ∈ fx_g) (hdg : decode cc pc = .ok (.invokevirtual ix, 3)) (hsize : ls.size = nL) (hW : 2 * (F0 m pc ls (.int v2 :: .int v1 :: .ref (h 13) :: rest)).monitorRoom + (rest.map fun v => v.category).sum ≤ 8) (hR : 3 + 1 ≤ R.frames ∧ 8 + (7 + 11) + 63 ≤ R.locals) (hf : cells ≤ R.cells ∧ slots ≤ R.slots) {k : Int32 → fx_M β} (hF : fx_bnd (F_Resolver_fateOf v1 v2) k σ = some res) (kk : ∀ (r : Int32) (σ' : fx_S) (H' : Heap) (locs' : List Loc), k r σ' = some res → fx_B D fx_cl (fx_ws h cA) A s.heap σ' H' locs' → W p l e R s m args below meth c H' locs' cells slots Q (F0 m (pc + 3) ls (.int r :: rest))) : W p l e R s m args below meth c H locs cells slots Q (F0 m pc ls (.int v2 :: .int v1 :: .ref (h 13) :: rest)) :=
  fx_call_i X hw (c_Resolver_fateOf l D h cA v1 v2) (fx_cwV X lk hg_Resolver_fateOf fx_gok (rm := { frames := 3, cells := 0, slots := 0, locals := 63 }) rfl rfl (by decide +kernel) hR) (va_recv X.2.1 hw.1 (ci := 4) (q0 := 13) rfl rfl) (n := 2) rfl hdg hsize rfl hW hf hF kk
end
set_option maxHeartbeats 4000000 in
set_option maxRecDepth 100000 in
theorem c_Resolver_note (l : Launch) (D : va_G) (h : Nat → Nat) (cA : Nat → ClassId) (v1 : Int32) (v2 : Int32) (v3 : Int32) : fx_Mv l y_Resolver_note b_Resolver_note 4 none { frames := 0, cells := 0, slots := 0, locals := 0 } D fx_cl (fx_tys cA) fx_g fx_G (fx_ws h cA) [.ref (h 13), .int v1, .int v2, .int v3] (F_Resolver_note v1 v2 v3) := by
  refine fx_start_v fx_G_ok (by decide) (Nat.le_of_ble_eq_true rfl) ?_
  intro p e s m args below meth c A ls σ res Q hF X hw hl hend
  have hx := X.1.1
  have hb := X.1.2.1
  have hl : lv_has ls 4 [(0, .ref (h 13)), (1, .int v1), (2, .int v2), (3, .int v3)] := hl
  unfold F_Resolver_note at hF
  refine lv_aload_n hx hb d_Resolver_note_0 rfl (lv_at hl 0 rfl) ?_
  refine lv_iload_n hx hb d_Resolver_note_1 rfl (lv_at hl 1 rfl) ?_
  refine pI_Resolver_clashKind X hw lk_Resolver_52 d_Resolver_note_2 hF (fun σ H locs hF hw => ?_)
  refine lv_aload_n hx hb d_Resolver_note_5 rfl (lv_at hl 0 rfl) ?_
  refine lv_iload_n hx hb d_Resolver_note_6 rfl (lv_at hl 2 rfl) ?_
  refine pI_Resolver_clashWaiting X hw lk_Resolver_55 d_Resolver_note_7 hF (fun σ H locs hF hw => ?_)
  refine lv_aload_n hx hb d_Resolver_note_10 rfl (lv_at hl 0 rfl) ?_
  refine lv_iload_n hx hb d_Resolver_note_11 rfl (lv_at hl 3 rfl) ?_
  refine pI_Resolver_clashOther X hw lk_Resolver_58 d_Resolver_note_12 hF (fun σ H locs hF hw => ?_)
  exact hend _ _ _ _ _ d_Resolver_note_15 hF hw
section
variable {p : Program} {l : Launch} {e : Env} {R : Room} {s : State} {m : MethodId} {args : Array Value} {below : List Frame} {meth : Method} {c : Code} {H : Heap} {locs : List Loc} {cells slots : Nat} {Q : State → Prop}
variable {cc : ByteArray} {pc nL ix : Nat} {ls : Array Slot} {rest : List Value} {own : String} {D : va_G} {A : Nat → Prop} {h : Nat → Nat} {cA : Nat → ClassId} {σ : fx_S} {β : Type} {res : β × fx_S}
theorem k_Resolver_note {v1 : Int32} {v2 : Int32} {v3 : Int32} (X : fx_X p m c cc nL s args own D fx_cl (fx_tys cA) fx_g fx_G A) (hw : fx_B D fx_cl (fx_ws h cA) A s.heap σ H locs) (lk : Cond.methodLink own ix y_Resolver_note ∈ fx_g) (hdg : decode cc pc = .ok (.invokevirtual ix, 3)) (hsize : ls.size = nL) (hW : 2 * (F0 m pc ls (.int v3 :: .int v2 :: .int v1 :: .ref (h 13) :: rest)).monitorRoom + (rest.map fun v => v.category).sum ≤ 8) (hR : 0 + 1 ≤ R.frames ∧ 8 + (4 + 11) + 0 ≤ R.locals) (hf : cells ≤ R.cells ∧ slots ≤ R.slots) {k : Unit → fx_M β} (hF : fx_bnd (F_Resolver_note v1 v2 v3) k σ = some res) (kk : ∀ (σ' : fx_S) (H' : Heap) (locs' : List Loc), k () σ' = some res → fx_B D fx_cl (fx_ws h cA) A s.heap σ' H' locs' → W p l e R s m args below meth c H' locs' cells slots Q (F0 m (pc + 3) ls rest)) : W p l e R s m args below meth c H locs cells slots Q (F0 m pc ls (.int v3 :: .int v2 :: .int v1 :: .ref (h 13) :: rest)) :=
  fx_call_v X hw (c_Resolver_note l D h cA v1 v2 v3) (fx_cwV X lk hg_Resolver_note fx_gok (rm := { frames := 0, cells := 0, slots := 0, locals := 0 }) rfl rfl (by decide +kernel) hR) (va_recv X.2.1 hw.1 (ci := 4) (q0 := 13) rfl rfl) (n := 3) rfl hdg hsize rfl hW hf hF kk
end
set_option maxHeartbeats 4000000 in
set_option maxRecDepth 100000 in
theorem c_Resolver_meetOperator (l : Launch) (D : va_G) (h : Nat → Nat) (cA : Nat → ClassId) (v1 : Int32) : fx_Mv l y_Resolver_meetOperator b_Resolver_meetOperator 5 none { frames := 4, cells := 0, slots := 0, locals := 89 } D fx_cl (fx_tys cA) fx_g fx_G (fx_ws h cA) [.ref (h 13), .int v1] (F_Resolver_meetOperator v1) := by
  refine fx_start_v fx_G_ok (by decide) (Nat.le_of_ble_eq_true rfl) ?_
  intro p e s m args below meth c A ls σ res Q hF X hw hl hend
  have hx := X.1.1
  have hb := X.1.2.1
  have hl : lv_has ls 5 [(0, .ref (h 13)), (1, .int v1)] := hl
  unfold F_Resolver_meetOperator at hF
  have h72 : ∀ (v1 : Int32) (σ : fx_S) (H : Heap) (locs : List Loc) (ls : Array Slot), F_Resolver_meetOperator_J72 v1 σ = some res → fx_B D fx_cl (fx_ws h cA) A s.heap σ H locs → lv_has ls 5 [(0, .ref (h 13)), (1, .int v1)] → W p l e { frames := 4, cells := 0, slots := 0, locals := 89 } s m args below meth c H locs 0 0 Q (F0 m 72 ls []) := by
    intro v1 σ H locs ls hF hw hl
    unfold F_Resolver_meetOperator_J72 at hF
    refine lv_aload_n hx hb d_Resolver_meetOperator_72 rfl (lv_at hl 0 rfl) ?_
    refine lv_iload_n hx hb d_Resolver_meetOperator_73 rfl (lv_at hl 1 rfl) ?_
    refine k_Resolver_letWait X hw lk_Resolver_147 d_Resolver_meetOperator_74 hl.1 (lv_room (Nat.le_of_ble_eq_true rfl)) ⟨Nat.le_of_ble_eq_true rfl, Nat.le_of_ble_eq_true rfl⟩ ⟨Nat.zero_le _, Nat.zero_le _⟩ hF (fun σ H locs hF hw => ?_)
    exact hend _ _ _ _ _ d_Resolver_meetOperator_77 hF hw
  have h2 : ∀ (n2 : Nat) (v1 : Int32) (v2 : Int32) (σ : fx_S) (H : Heap) (locs : List Loc) (ls : Array Slot), fx_loop2 (F_Resolver_meetOperator_B2) n2 v1 v2 σ = some res → fx_B D fx_cl (fx_ws h cA) A s.heap σ H locs → lv_has ls 5 [(0, .ref (h 13)), (1, .int v1), (2, .int v2)] → W p l e { frames := 4, cells := 0, slots := 0, locals := 89 } s m args below meth c H locs 0 0 Q (F0 m 2 ls []) := by
    intro n2
    induction n2 with
    | zero => intro v1 v2 σ H locs ls hF; cases hF
    | succ n2 ih2 =>
      obtain ⟨K2, eK2⟩ : ∃ K, K = fx_loop2 (F_Resolver_meetOperator_B2) n2 := ⟨_, rfl⟩
      rw [← eK2] at ih2
      intro v1 v2 σ H locs ls hF hw hl
      replace hF : F_Resolver_meetOperator_B2 (fx_loop2 (F_Resolver_meetOperator_B2) n2) v1 v2 σ = some res := hF
      rw [← eK2] at hF
      unfold F_Resolver_meetOperator_B2 at hF
      refine lv_iload_n hx hb d_Resolver_meetOperator_2 rfl (lv_at hl 2 rfl) ?_
      refine lv_sipush (v := 200) hx hb d_Resolver_meetOperator_3 (by decide) ?_
      refine lv_icmp_ge (tgt := 72) hx hb d_Resolver_meetOperator_6 (by decide) (fun hc => ?_) (fun hc => ?_)
      · have hF := fx_it hc hF
        exact h72 v1 _ _ _ _ hF hw (lv_sub hl [0, 1] rfl)
      · have hF := fx_if hc hF
        refine lv_aload_n hx hb d_Resolver_meetOperator_9 rfl (lv_at hl 0 rfl) ?_
        refine k_Resolver_oneWaits X hw lk_Resolver_137 d_Resolver_meetOperator_10 hl.1 (lv_room (Nat.le_of_ble_eq_true rfl)) ⟨Nat.le_of_ble_eq_true rfl, Nat.le_of_ble_eq_true rfl⟩ ⟨Nat.zero_le _, Nat.zero_le _⟩ hF (fun x1 σ H locs hF hw => ?_)
        refine lv_if_eq (tgt := 72) hx hb d_Resolver_meetOperator_13 (by decide) (fun hc => ?_) (fun hc => ?_)
        · have hF := fx_it hc hF
          exact h72 v1 _ _ _ _ hF hw (lv_sub hl [0, 1] rfl)
        · have hF := fx_if hc hF
          refine lv_aload_n hx hb d_Resolver_meetOperator_16 rfl (lv_at hl 0 rfl) ?_
          refine gR_Resolver_waiting X hw lk_Resolver_12 d_Resolver_meetOperator_17 ?_
          refine k_IntStack0_top X hw lk_Resolver_97 d_Resolver_meetOperator_20 hl.1 (lv_room (Nat.le_of_ble_eq_true rfl)) ⟨Nat.le_of_ble_eq_true rfl, Nat.le_of_ble_eq_true rfl⟩ ⟨Nat.zero_le _, Nat.zero_le _⟩ hF (fun x2 σ H locs hF hw => ?_)
          refine lv_istore_n (lv' := [(3, .int x2), (0, .ref (h 13)), (1, .int v1), (2, .int v2)]) hx hb d_Resolver_meetOperator_23 rfl hl (by decide) rfl (fun ls hl => ?_)
          refine lv_aload_n hx hb d_Resolver_meetOperator_24 rfl (lv_at hl 1 rfl) ?_
          refine lv_iload_n hx hb d_Resolver_meetOperator_25 rfl (lv_at hl 0 rfl) ?_
          refine lv_iload_n hx hb d_Resolver_meetOperator_26 rfl (lv_at hl 2 rfl) ?_
          refine k_Resolver_fateOf X hw lk_Resolver_150 d_Resolver_meetOperator_27 hl.1 (lv_room (Nat.le_of_ble_eq_true rfl)) ⟨Nat.le_of_ble_eq_true rfl, Nat.le_of_ble_eq_true rfl⟩ ⟨Nat.zero_le _, Nat.zero_le _⟩ hF (fun x3 σ H locs hF hw => ?_)
          refine lv_istore (lv' := [(4, .int x3), (3, .int x2), (0, .ref (h 13)), (1, .int v1), (2, .int v2)]) hx hb d_Resolver_meetOperator_30 hl (by decide) rfl (fun ls hl => ?_)
          refine lv_iload hx hb d_Resolver_meetOperator_32 (lv_at hl 0 rfl) ?_
          refine lv_iconst (v := (-1)) hx hb d_Resolver_meetOperator_34 (by decide) ?_
          refine lv_icmp_ne (tgt := 41) hx hb d_Resolver_meetOperator_35 (by decide) (fun hc => ?_) (fun hc => ?_)
          · have hF := fx_if hc hF
            refine lv_iload hx hb d_Resolver_meetOperator_41 (lv_at hl 0 rfl) ?_
            refine lv_if_eq (tgt := 55) hx hb d_Resolver_meetOperator_43 (by decide) (fun hc => ?_) (fun hc => ?_)
            · have hF := fx_it hc hF
              refine lv_aload_n hx hb d_Resolver_meetOperator_55 rfl (lv_at hl 2 rfl) ?_
              refine lv_aload_n hx hb d_Resolver_meetOperator_56 rfl (lv_at hl 2 rfl) ?_
              refine gR_Resolver_waiting X hw lk_Resolver_12 d_Resolver_meetOperator_57 ?_
              refine k_IntStack0_pop X hw lk_Resolver_107 d_Resolver_meetOperator_60 hl.1 (lv_room (Nat.le_of_ble_eq_true rfl)) ⟨Nat.le_of_ble_eq_true rfl, Nat.le_of_ble_eq_true rfl⟩ ⟨Nat.zero_le _, Nat.zero_le _⟩ hF (fun x4 σ H locs hF hw => ?_)
              refine k_Resolver_finish X hw lk_Resolver_74 d_Resolver_meetOperator_63 hl.1 (lv_room (Nat.le_of_ble_eq_true rfl)) ⟨Nat.le_of_ble_eq_true rfl, Nat.le_of_ble_eq_true rfl⟩ ⟨Nat.zero_le _, Nat.zero_le _⟩ hF (fun σ H locs hF hw => ?_)
              refine fx_iinc (lv' := fun x5 => [(2, .int x5), (4, .int x3), (3, .int x2), (0, .ref (h 13)), (1, .int v1)]) hx hb d_Resolver_meetOperator_66 hl (k := 4) rfl rfl (by decide) (fun _ => rfl) hF (fun x5 ls hF hl => ?_)
              refine lv_goto (tgt := 2) hx hb d_Resolver_meetOperator_69 (by decide) ?_
              exact ih2 v1 x5 _ _ _ _ hF hw (lv_sub hl [3, 4, 0] rfl)
            · have hF := fx_if hc hF
              refine lv_aload_n hx hb d_Resolver_meetOperator_46 rfl (lv_at hl 2 rfl) ?_
              refine lv_iload hx hb d_Resolver_meetOperator_47 (lv_at hl 0 rfl) ?_
              refine lv_iload_n hx hb d_Resolver_meetOperator_49 rfl (lv_at hl 1 rfl) ?_
              refine lv_iload_n hx hb d_Resolver_meetOperator_50 rfl (lv_at hl 3 rfl) ?_
              refine k_Resolver_note X hw lk_Resolver_144 d_Resolver_meetOperator_51 hl.1 (lv_room (Nat.le_of_ble_eq_true rfl)) ⟨Nat.le_of_ble_eq_true rfl, Nat.le_of_ble_eq_true rfl⟩ ⟨Nat.zero_le _, Nat.zero_le _⟩ hF (fun σ H locs hF hw => ?_)
              exact hend _ _ _ _ _ d_Resolver_meetOperator_54 hF hw
          · have hF := fx_it hc hF
            refine lv_goto (tgt := 72) hx hb d_Resolver_meetOperator_38 (by decide) ?_
            exact h72 v1 _ _ _ _ hF hw (lv_sub hl [2, 3] rfl)
  refine lv_iconst (v := 0) hx hb d_Resolver_meetOperator_0 (by decide) ?_
  refine lv_istore_n (lv' := [(2, .int 0), (0, .ref (h 13)), (1, .int v1)]) hx hb d_Resolver_meetOperator_1 rfl hl (by decide) rfl (fun ls hl => ?_)
  exact h2 fx_fuel v1 0 _ _ _ _ hF hw (lv_sub hl [1, 2, 0] rfl)
section
variable {p : Program} {l : Launch} {e : Env} {R : Room} {s : State} {m : MethodId} {args : Array Value} {below : List Frame} {meth : Method} {c : Code} {H : Heap} {locs : List Loc} {cells slots : Nat} {Q : State → Prop}
variable {cc : ByteArray} {pc nL ix : Nat} {ls : Array Slot} {rest : List Value} {own : String} {D : va_G} {A : Nat → Prop} {h : Nat → Nat} {cA : Nat → ClassId} {σ : fx_S} {β : Type} {res : β × fx_S}
theorem k_Resolver_meetOperator {v1 : Int32} (X : fx_X p m c cc nL s args own D fx_cl (fx_tys cA) fx_g fx_G A) (hw : fx_B D fx_cl (fx_ws h cA) A s.heap σ H locs) (lk : Cond.methodLink own ix y_Resolver_meetOperator ∈ fx_g) (hdg : decode cc pc = .ok (.invokevirtual ix, 3)) (hsize : ls.size = nL) (hW : 2 * (F0 m pc ls (.int v1 :: .ref (h 13) :: rest)).monitorRoom + (rest.map fun v => v.category).sum ≤ 8) (hR : 4 + 1 ≤ R.frames ∧ 8 + (5 + 11) + 89 ≤ R.locals) (hf : cells ≤ R.cells ∧ slots ≤ R.slots) {k : Unit → fx_M β} (hF : fx_bnd (F_Resolver_meetOperator v1) k σ = some res) (kk : ∀ (σ' : fx_S) (H' : Heap) (locs' : List Loc), k () σ' = some res → fx_B D fx_cl (fx_ws h cA) A s.heap σ' H' locs' → W p l e R s m args below meth c H' locs' cells slots Q (F0 m (pc + 3) ls rest)) : W p l e R s m args below meth c H locs cells slots Q (F0 m pc ls (.int v1 :: .ref (h 13) :: rest)) :=
  fx_call_v X hw (c_Resolver_meetOperator l D h cA v1) (fx_cwV X lk hg_Resolver_meetOperator fx_gok (rm := { frames := 4, cells := 0, slots := 0, locals := 89 }) rfl rfl (by decide +kernel) hR) (va_recv X.2.1 hw.1 (ci := 4) (q0 := 13) rfl rfl) (n := 1) rfl hdg hsize rfl hW hf hF kk
end
set_option maxHeartbeats 4000000 in
set_option maxRecDepth 100000 in
theorem c_Resolver_meetNegation (l : Launch) (D : va_G) (h : Nat → Nat) (cA : Nat → ClassId) (v1 : Int32) : fx_Mv l y_Resolver_meetNegation b_Resolver_meetNegation 2 none { frames := 3, cells := 0, slots := 0, locals := 63 } D fx_cl (fx_tys cA) fx_g fx_G (fx_ws h cA) [.ref (h 13), .int v1] (F_Resolver_meetNegation v1) := by
  refine fx_start_v fx_G_ok (by decide) (Nat.le_of_ble_eq_true rfl) ?_
  intro p e s m args below meth c A ls σ res Q hF X hw hl hend
  have hx := X.1.1
  have hb := X.1.2.1
  have hl : lv_has ls 2 [(0, .ref (h 13)), (1, .int v1)] := hl
  unfold F_Resolver_meetNegation at hF
  have h39 : ∀ (v1 : Int32) (σ : fx_S) (H : Heap) (locs : List Loc) (ls : Array Slot), F_Resolver_meetNegation_J39 v1 σ = some res → fx_B D fx_cl (fx_ws h cA) A s.heap σ H locs → lv_has ls 2 [(0, .ref (h 13)), (1, .int v1)] → W p l e { frames := 3, cells := 0, slots := 0, locals := 63 } s m args below meth c H locs 0 0 Q (F0 m 39 ls []) := by
    intro v1 σ H locs ls hF hw hl
    unfold F_Resolver_meetNegation_J39 at hF
    refine lv_aload_n hx hb d_Resolver_meetNegation_39 rfl (lv_at hl 0 rfl) ?_
    refine lv_iload_n hx hb d_Resolver_meetNegation_40 rfl (lv_at hl 1 rfl) ?_
    refine k_Resolver_letWait X hw lk_Resolver_147 d_Resolver_meetNegation_41 hl.1 (lv_room (Nat.le_of_ble_eq_true rfl)) ⟨Nat.le_of_ble_eq_true rfl, Nat.le_of_ble_eq_true rfl⟩ ⟨Nat.zero_le _, Nat.zero_le _⟩ hF (fun σ H locs hF hw => ?_)
    exact hend _ _ _ _ _ d_Resolver_meetNegation_44 hF hw
  refine lv_aload_n hx hb d_Resolver_meetNegation_0 rfl (lv_at hl 0 rfl) ?_
  refine k_Resolver_oneWaits X hw lk_Resolver_137 d_Resolver_meetNegation_1 hl.1 (lv_room (Nat.le_of_ble_eq_true rfl)) ⟨Nat.le_of_ble_eq_true rfl, Nat.le_of_ble_eq_true rfl⟩ ⟨Nat.zero_le _, Nat.zero_le _⟩ hF (fun x1 σ H locs hF hw => ?_)
  refine lv_if_eq (tgt := 39) hx hb d_Resolver_meetNegation_4 (by decide) (fun hc => ?_) (fun hc => ?_)
  · have hF := fx_it hc hF
    exact h39 v1 _ _ _ _ hF hw (lv_sub hl [0, 1] rfl)
  · have hF := fx_if hc hF
    refine lv_aload_n hx hb d_Resolver_meetNegation_7 rfl (lv_at hl 0 rfl) ?_
    refine lv_aload_n hx hb d_Resolver_meetNegation_8 rfl (lv_at hl 0 rfl) ?_
    refine gR_Resolver_waiting X hw lk_Resolver_12 d_Resolver_meetNegation_9 ?_
    refine k_IntStack0_top X hw lk_Resolver_97 d_Resolver_meetNegation_12 hl.1 (lv_room (Nat.le_of_ble_eq_true rfl)) ⟨Nat.le_of_ble_eq_true rfl, Nat.le_of_ble_eq_true rfl⟩ ⟨Nat.zero_le _, Nat.zero_le _⟩ hF (fun x2 σ H locs hF hw => ?_)
    refine k_Resolver_rankAt X hw lk_Resolver_141 d_Resolver_meetNegation_15 hl.1 (lv_room (Nat.le_of_ble_eq_true rfl)) ⟨Nat.le_of_ble_eq_true rfl, Nat.le_of_ble_eq_true rfl⟩ ⟨Nat.zero_le _, Nat.zero_le _⟩ hF (fun x3 σ H locs hF hw => ?_)
    refine lv_bipush (v := 6) hx hb d_Resolver_meetNegation_18 (by decide) ?_
    refine lv_icmp_lt (tgt := 39) hx hb d_Resolver_meetNegation_20 (by decide) (fun hc => ?_) (fun hc => ?_)
    · have hF := fx_it hc hF
      exact h39 v1 _ _ _ _ hF hw (lv_sub hl [0, 1] rfl)
    · have hF := fx_if hc hF
      refine lv_aload_n hx hb d_Resolver_meetNegation_23 rfl (lv_at hl 0 rfl) ?_
      refine lv_iconst (v := 2) hx hb d_Resolver_meetNegation_24 (by decide) ?_
      refine lv_aload_n hx hb d_Resolver_meetNegation_25 rfl (lv_at hl 0 rfl) ?_
      refine gR_Resolver_waiting X hw lk_Resolver_12 d_Resolver_meetNegation_26 ?_
      refine k_IntStack0_top X hw lk_Resolver_97 d_Resolver_meetNegation_29 hl.1 (lv_room (Nat.le_of_ble_eq_true rfl)) ⟨Nat.le_of_ble_eq_true rfl, Nat.le_of_ble_eq_true rfl⟩ ⟨Nat.zero_le _, Nat.zero_le _⟩ hF (fun x4 σ H locs hF hw => ?_)
      refine lv_iload_n hx hb d_Resolver_meetNegation_32 rfl (lv_at hl 1 rfl) ?_
      refine k_Resolver_note X hw lk_Resolver_144 d_Resolver_meetNegation_33 hl.1 (lv_room (Nat.le_of_ble_eq_true rfl)) ⟨Nat.le_of_ble_eq_true rfl, Nat.le_of_ble_eq_true rfl⟩ ⟨Nat.zero_le _, Nat.zero_le _⟩ hF (fun σ H locs hF hw => ?_)
      refine lv_goto (tgt := 44) hx hb d_Resolver_meetNegation_36 (by decide) ?_
      exact hend _ _ _ _ _ d_Resolver_meetNegation_44 hF hw
section
variable {p : Program} {l : Launch} {e : Env} {R : Room} {s : State} {m : MethodId} {args : Array Value} {below : List Frame} {meth : Method} {c : Code} {H : Heap} {locs : List Loc} {cells slots : Nat} {Q : State → Prop}
variable {cc : ByteArray} {pc nL ix : Nat} {ls : Array Slot} {rest : List Value} {own : String} {D : va_G} {A : Nat → Prop} {h : Nat → Nat} {cA : Nat → ClassId} {σ : fx_S} {β : Type} {res : β × fx_S}
theorem k_Resolver_meetNegation {v1 : Int32} (X : fx_X p m c cc nL s args own D fx_cl (fx_tys cA) fx_g fx_G A) (hw : fx_B D fx_cl (fx_ws h cA) A s.heap σ H locs) (lk : Cond.methodLink own ix y_Resolver_meetNegation ∈ fx_g) (hdg : decode cc pc = .ok (.invokevirtual ix, 3)) (hsize : ls.size = nL) (hW : 2 * (F0 m pc ls (.int v1 :: .ref (h 13) :: rest)).monitorRoom + (rest.map fun v => v.category).sum ≤ 8) (hR : 3 + 1 ≤ R.frames ∧ 8 + (2 + 11) + 63 ≤ R.locals) (hf : cells ≤ R.cells ∧ slots ≤ R.slots) {k : Unit → fx_M β} (hF : fx_bnd (F_Resolver_meetNegation v1) k σ = some res) (kk : ∀ (σ' : fx_S) (H' : Heap) (locs' : List Loc), k () σ' = some res → fx_B D fx_cl (fx_ws h cA) A s.heap σ' H' locs' → W p l e R s m args below meth c H' locs' cells slots Q (F0 m (pc + 3) ls rest)) : W p l e R s m args below meth c H locs cells slots Q (F0 m pc ls (.int v1 :: .ref (h 13) :: rest)) :=
  fx_call_v X hw (c_Resolver_meetNegation l D h cA v1) (fx_cwV X lk hg_Resolver_meetNegation fx_gok (rm := { frames := 3, cells := 0, slots := 0, locals := 63 }) rfl rfl (by decide +kernel) hR) (va_recv X.2.1 hw.1 (ci := 4) (q0 := 13) rfl rfl) (n := 1) rfl hdg hsize rfl hW hf hF kk
end
set_option maxHeartbeats 4000000 in
set_option maxRecDepth 100000 in
theorem c_Resolver_meetClose (l : Launch) (D : va_G) (h : Nat → Nat) (cA : Nat → ClassId) (v1 : Int32) : fx_Mv l y_Resolver_meetClose b_Resolver_meetClose 3 none { frames := 4, cells := 0, slots := 0, locals := 87 } D fx_cl (fx_tys cA) fx_g fx_G (fx_ws h cA) [.ref (h 13), .int v1] (F_Resolver_meetClose v1) := by
  refine fx_start_v fx_G_ok (by decide) (Nat.le_of_ble_eq_true rfl) ?_
  intro p e s m args below meth c A ls σ res Q hF X hw hl hend
  have hx := X.1.1
  have hb := X.1.2.1
  have hl : lv_has ls 3 [(0, .ref (h 13)), (1, .int v1)] := hl
  unfold F_Resolver_meetClose at hF
  have h51 : ∀ (σ : fx_S) (H : Heap) (locs : List Loc) (ls : Array Slot), F_Resolver_meetClose_J51 σ = some res → fx_B D fx_cl (fx_ws h cA) A s.heap σ H locs → lv_has ls 3 [(0, .ref (h 13))] → W p l e { frames := 4, cells := 0, slots := 0, locals := 87 } s m args below meth c H locs 0 0 Q (F0 m 51 ls []) := by
    intro σ H locs ls hF hw hl
    unfold F_Resolver_meetClose_J51 at hF
    refine lv_aload_n hx hb d_Resolver_meetClose_51 rfl (lv_at hl 0 rfl) ?_
    refine k_Resolver_finishGroup X hw lk_Resolver_91 d_Resolver_meetClose_52 hl.1 (lv_room (Nat.le_of_ble_eq_true rfl)) ⟨Nat.le_of_ble_eq_true rfl, Nat.le_of_ble_eq_true rfl⟩ ⟨Nat.zero_le _, Nat.zero_le _⟩ hF (fun σ H locs hF hw => ?_)
    exact hend _ _ _ _ _ d_Resolver_meetClose_55 hF hw
  refine lv_aload_n hx hb d_Resolver_meetClose_0 rfl (lv_at hl 0 rfl) ?_
  refine gR_Resolver_row X hw lk_Resolver_40 d_Resolver_meetClose_1 ?_
  refine lv_iload_n hx hb d_Resolver_meetClose_4 rfl (lv_at hl 1 rfl) ?_
  refine lv_iconst (v := 1) hx hb d_Resolver_meetClose_5 (by decide) ?_
  refine lv_isub hx hb d_Resolver_meetClose_6 ?_
  refine k_Row_nodeKindAt X hw lk_Resolver_116 d_Resolver_meetClose_7 hl.1 (lv_room (Nat.le_of_ble_eq_true rfl)) ⟨Nat.le_of_ble_eq_true rfl, Nat.le_of_ble_eq_true rfl⟩ ⟨Nat.zero_le _, Nat.zero_le _⟩ hF (fun x1 σ H locs hF hw => ?_)
  refine lv_iconst (v := 3) hx hb d_Resolver_meetClose_10 (by decide) ?_
  refine lv_icmp_ne (tgt := 51) hx hb d_Resolver_meetClose_11 (by decide) (fun hc => ?_) (fun hc => ?_)
  · have hF := fx_if hc hF
    exact h51 _ _ _ _ hF hw (lv_sub hl [0] rfl)
  · have hF := fx_it hc hF
    refine lv_aload_n hx hb d_Resolver_meetClose_14 rfl (lv_at hl 0 rfl) ?_
    refine gR_Resolver_waiting X hw lk_Resolver_12 d_Resolver_meetClose_15 ?_
    refine k_IntStack0_pop X hw lk_Resolver_107 d_Resolver_meetClose_18 hl.1 (lv_room (Nat.le_of_ble_eq_true rfl)) ⟨Nat.le_of_ble_eq_true rfl, Nat.le_of_ble_eq_true rfl⟩ ⟨Nat.zero_le _, Nat.zero_le _⟩ hF (fun x2 σ H locs hF hw => ?_)
    refine lv_istore_n (lv' := [(2, .int x2), (0, .ref (h 13)), (1, .int v1)]) hx hb d_Resolver_meetClose_21 rfl hl (by decide) rfl (fun ls hl => ?_)
    refine lv_aload_n hx hb d_Resolver_meetClose_22 rfl (lv_at hl 1 rfl) ?_
    refine k_Resolver_oneWaits X hw lk_Resolver_137 d_Resolver_meetClose_23 hl.1 (lv_room (Nat.le_of_ble_eq_true rfl)) ⟨Nat.le_of_ble_eq_true rfl, Nat.le_of_ble_eq_true rfl⟩ ⟨Nat.zero_le _, Nat.zero_le _⟩ hF (fun x3 σ H locs hF hw => ?_)
    refine lv_if_eq (tgt := 43) hx hb d_Resolver_meetClose_26 (by decide) (fun hc => ?_) (fun hc => ?_)
    · have hF := fx_it hc hF
      refine lv_aload_n hx hb d_Resolver_meetClose_43 rfl (lv_at hl 1 rfl) ?_
      refine gR_Resolver_waiting X hw lk_Resolver_12 d_Resolver_meetClose_44 ?_
      refine lv_iload_n hx hb d_Resolver_meetClose_47 rfl (lv_at hl 0 rfl) ?_
      refine k_IntStack0_push X hw lk_Resolver_85 d_Resolver_meetClose_48 hl.1 (lv_room (Nat.le_of_ble_eq_true rfl)) ⟨Nat.le_of_ble_eq_true rfl, Nat.le_of_ble_eq_true rfl⟩ ⟨Nat.zero_le _, Nat.zero_le _⟩ hF (fun σ H locs hF hw => ?_)
      exact h51 _ _ _ _ hF hw (lv_sub hl [1] rfl)
    · have hF := fx_if hc hF
      refine lv_aload_n hx hb d_Resolver_meetClose_29 rfl (lv_at hl 1 rfl) ?_
      refine lv_iconst (v := 3) hx hb d_Resolver_meetClose_30 (by decide) ?_
      refine lv_aload_n hx hb d_Resolver_meetClose_31 rfl (lv_at hl 1 rfl) ?_
      refine gR_Resolver_waiting X hw lk_Resolver_12 d_Resolver_meetClose_32 ?_
      refine k_IntStack0_top X hw lk_Resolver_97 d_Resolver_meetClose_35 hl.1 (lv_room (Nat.le_of_ble_eq_true rfl)) ⟨Nat.le_of_ble_eq_true rfl, Nat.le_of_ble_eq_true rfl⟩ ⟨Nat.zero_le _, Nat.zero_le _⟩ hF (fun x4 σ H locs hF hw => ?_)
      refine lv_iload_n hx hb d_Resolver_meetClose_38 rfl (lv_at hl 0 rfl) ?_
      refine k_Resolver_note X hw lk_Resolver_144 d_Resolver_meetClose_39 hl.1 (lv_room (Nat.le_of_ble_eq_true rfl)) ⟨Nat.le_of_ble_eq_true rfl, Nat.le_of_ble_eq_true rfl⟩ ⟨Nat.zero_le _, Nat.zero_le _⟩ hF (fun σ H locs hF hw => ?_)
      exact hend _ _ _ _ _ d_Resolver_meetClose_42 hF hw
section
variable {p : Program} {l : Launch} {e : Env} {R : Room} {s : State} {m : MethodId} {args : Array Value} {below : List Frame} {meth : Method} {c : Code} {H : Heap} {locs : List Loc} {cells slots : Nat} {Q : State → Prop}
variable {cc : ByteArray} {pc nL ix : Nat} {ls : Array Slot} {rest : List Value} {own : String} {D : va_G} {A : Nat → Prop} {h : Nat → Nat} {cA : Nat → ClassId} {σ : fx_S} {β : Type} {res : β × fx_S}
theorem k_Resolver_meetClose {v1 : Int32} (X : fx_X p m c cc nL s args own D fx_cl (fx_tys cA) fx_g fx_G A) (hw : fx_B D fx_cl (fx_ws h cA) A s.heap σ H locs) (lk : Cond.methodLink own ix y_Resolver_meetClose ∈ fx_g) (hdg : decode cc pc = .ok (.invokevirtual ix, 3)) (hsize : ls.size = nL) (hW : 2 * (F0 m pc ls (.int v1 :: .ref (h 13) :: rest)).monitorRoom + (rest.map fun v => v.category).sum ≤ 8) (hR : 4 + 1 ≤ R.frames ∧ 8 + (3 + 11) + 87 ≤ R.locals) (hf : cells ≤ R.cells ∧ slots ≤ R.slots) {k : Unit → fx_M β} (hF : fx_bnd (F_Resolver_meetClose v1) k σ = some res) (kk : ∀ (σ' : fx_S) (H' : Heap) (locs' : List Loc), k () σ' = some res → fx_B D fx_cl (fx_ws h cA) A s.heap σ' H' locs' → W p l e R s m args below meth c H' locs' cells slots Q (F0 m (pc + 3) ls rest)) : W p l e R s m args below meth c H locs cells slots Q (F0 m pc ls (.int v1 :: .ref (h 13) :: rest)) :=
  fx_call_v X hw (c_Resolver_meetClose l D h cA v1) (fx_cwV X lk hg_Resolver_meetClose fx_gok (rm := { frames := 4, cells := 0, slots := 0, locals := 87 }) rfl rfl (by decide +kernel) hR) (va_recv X.2.1 hw.1 (ci := 4) (q0 := 13) rfl rfl) (n := 1) rfl hdg hsize rfl hW hf hF kk
end
set_option maxHeartbeats 4000000 in
set_option maxRecDepth 100000 in
theorem c_Resolver_run (l : Launch) (D : va_G) (h : Nat → Nat) (cA : Nat → ClassId) : fx_Mv l y_Resolver_run b_Resolver_run 2 none { frames := 5, cells := 0, slots := 0, locals := 113 } D fx_cl (fx_tys cA) fx_g fx_G (fx_ws h cA) [.ref (h 13)] (F_Resolver_run) := by
  refine fx_start_v fx_G_ok (by decide) (Nat.le_of_ble_eq_true rfl) ?_
  intro p e s m args below meth c A ls σ res Q hF X hw hl hend
  have hx := X.1.1
  have hb := X.1.2.1
  have hl : lv_has ls 2 [(0, .ref (h 13))] := hl
  unfold F_Resolver_run at hF
  have h123 : ∀ (σ : fx_S) (H : Heap) (locs : List Loc) (ls : Array Slot), F_Resolver_run_J123 σ = some res → fx_B D fx_cl (fx_ws h cA) A s.heap σ H locs → lv_has ls 2 [(0, .ref (h 13))] → W p l e { frames := 5, cells := 0, slots := 0, locals := 113 } s m args below meth c H locs 0 0 Q (F0 m 123 ls []) := by
    intro σ H locs ls hF hw hl
    unfold F_Resolver_run_J123 at hF
    refine lv_aload_n hx hb d_Resolver_run_123 rfl (lv_at hl 0 rfl) ?_
    refine gI_Resolver_clashKind X hw lk_Resolver_52 d_Resolver_run_124 hF (fun x2 hF => ?_)
    refine lv_iconst (v := (-1)) hx hb d_Resolver_run_127 (by decide) ?_
    refine lv_icmp_ne (tgt := 135) hx hb d_Resolver_run_128 (by decide) (fun hc => ?_) (fun hc => ?_)
    · have hF := fx_if hc hF
      exact hend _ _ _ _ _ d_Resolver_run_135 hF hw
    · have hF := fx_it hc hF
      refine lv_aload_n hx hb d_Resolver_run_131 rfl (lv_at hl 0 rfl) ?_
      refine k_Resolver_finishGroup X hw lk_Resolver_91 d_Resolver_run_132 hl.1 (lv_room (Nat.le_of_ble_eq_true rfl)) ⟨Nat.le_of_ble_eq_true rfl, Nat.le_of_ble_eq_true rfl⟩ ⟨Nat.zero_le _, Nat.zero_le _⟩ hF (fun σ H locs hF hw => ?_)
      exact hend _ _ _ _ _ d_Resolver_run_135 hF hw
  have h6 : ∀ (n6 : Nat) (v1 : Int32) (σ : fx_S) (H : Heap) (locs : List Loc) (ls : Array Slot), fx_loop1 (F_Resolver_run_B6) n6 v1 σ = some res → fx_B D fx_cl (fx_ws h cA) A s.heap σ H locs → lv_has ls 2 [(0, .ref (h 13)), (1, .int v1)] → W p l e { frames := 5, cells := 0, slots := 0, locals := 113 } s m args below meth c H locs 0 0 Q (F0 m 6 ls []) := by
    intro n6
    induction n6 with
    | zero => intro v1 σ H locs ls hF; cases hF
    | succ n6 ih6 =>
      obtain ⟨K6, eK6⟩ : ∃ K, K = fx_loop1 (F_Resolver_run_B6) n6 := ⟨_, rfl⟩
      rw [← eK6] at ih6
      have h117 : ∀ (v1 : Int32) (σ : fx_S) (H : Heap) (locs : List Loc) (ls : Array Slot), F_Resolver_run_J117 K6 v1 σ = some res → fx_B D fx_cl (fx_ws h cA) A s.heap σ H locs → lv_has ls 2 [(0, .ref (h 13)), (1, .int v1)] → W p l e { frames := 5, cells := 0, slots := 0, locals := 113 } s m args below meth c H locs 0 0 Q (F0 m 117 ls []) := by
        intro v1 σ H locs ls hF hw hl
        unfold F_Resolver_run_J117 at hF
        refine fx_iinc (lv' := fun x5 => [(1, .int x5), (0, .ref (h 13))]) hx hb d_Resolver_run_117 hl (k := 1) rfl rfl (by decide) (fun _ => rfl) hF (fun x5 ls hF hl => ?_)
        refine lv_goto (tgt := 6) hx hb d_Resolver_run_120 (by decide) ?_
        exact ih6 x5 _ _ _ _ hF hw (lv_sub hl [1, 0] rfl)
      intro v1 σ H locs ls hF hw hl
      replace hF : F_Resolver_run_B6 (fx_loop1 (F_Resolver_run_B6) n6) v1 σ = some res := hF
      rw [← eK6] at hF
      unfold F_Resolver_run_B6 at hF
      refine lv_iload_n hx hb d_Resolver_run_6 rfl (lv_at hl 1 rfl) ?_
      refine lv_aload_n hx hb d_Resolver_run_7 rfl (lv_at hl 0 rfl) ?_
      refine gR_Resolver_row X hw lk_Resolver_40 d_Resolver_run_8 ?_
      refine k_Row_size X hw lk_Resolver_64 d_Resolver_run_11 hl.1 (lv_room (Nat.le_of_ble_eq_true rfl)) ⟨Nat.le_of_ble_eq_true rfl, Nat.le_of_ble_eq_true rfl⟩ ⟨Nat.zero_le _, Nat.zero_le _⟩ hF (fun x1 σ H locs hF hw => ?_)
      refine lv_icmp_ge (tgt := 123) hx hb d_Resolver_run_14 (by decide) (fun hc => ?_) (fun hc => ?_)
      · have hF := fx_it hc hF
        exact h123 _ _ _ _ hF hw (lv_sub hl [0] rfl)
      · have hF := fx_if hc hF
        refine lv_aload_n hx hb d_Resolver_run_17 rfl (lv_at hl 0 rfl) ?_
        refine gI_Resolver_clashKind X hw lk_Resolver_52 d_Resolver_run_18 hF (fun x3 hF => ?_)
        refine lv_iconst (v := (-1)) hx hb d_Resolver_run_21 (by decide) ?_
        refine lv_icmp_ne (tgt := 123) hx hb d_Resolver_run_22 (by decide) (fun hc => ?_) (fun hc => ?_)
        · have hF := fx_if hc hF
          exact h123 _ _ _ _ hF hw (lv_sub hl [0] rfl)
        · have hF := fx_it hc hF
          refine lv_aload_n hx hb d_Resolver_run_25 rfl (lv_at hl 0 rfl) ?_
          refine gR_Resolver_row X hw lk_Resolver_40 d_Resolver_run_26 ?_
          refine lv_iload_n hx hb d_Resolver_run_29 rfl (lv_at hl 1 rfl) ?_
          refine k_Row_kindAt X hw lk_Resolver_70 d_Resolver_run_30 hl.1 (lv_room (Nat.le_of_ble_eq_true rfl)) ⟨Nat.le_of_ble_eq_true rfl, Nat.le_of_ble_eq_true rfl⟩ ⟨Nat.zero_le _, Nat.zero_le _⟩ hF (fun x4 σ H locs hF hw => ?_)
          by_cases hc0 : x4 = 0
          · have hF := fx_it hc0 hF
            refine lv_tableIn (off := 35) (tgt := 68) hx hb d_Resolver_run_33 (by rw [hc0]; decide) (by rw [hc0]; decide) (by rw [hc0]; rfl) (by decide) ?_
            refine lv_aload_n hx hb d_Resolver_run_68 rfl (lv_at hl 0 rfl) ?_
            refine lv_iload_n hx hb d_Resolver_run_69 rfl (lv_at hl 1 rfl) ?_
            refine k_Resolver_finish X hw lk_Resolver_74 d_Resolver_run_70 hl.1 (lv_room (Nat.le_of_ble_eq_true rfl)) ⟨Nat.le_of_ble_eq_true rfl, Nat.le_of_ble_eq_true rfl⟩ ⟨Nat.zero_le _, Nat.zero_le _⟩ hF (fun σ H locs hF hw => ?_)
            refine lv_goto (tgt := 117) hx hb d_Resolver_run_73 (by decide) ?_
            exact h117 v1 _ _ _ _ hF hw (lv_sub hl [0, 1] rfl)
          have hF := fx_if hc0 hF
          by_cases hc1 : x4 = 1
          · have hF := fx_it hc1 hF
            refine lv_tableIn (off := 43) (tgt := 76) hx hb d_Resolver_run_33 (by rw [hc1]; decide) (by rw [hc1]; decide) (by rw [hc1]; rfl) (by decide) ?_
            refine lv_aload_n hx hb d_Resolver_run_76 rfl (lv_at hl 0 rfl) ?_
            refine lv_iload_n hx hb d_Resolver_run_77 rfl (lv_at hl 1 rfl) ?_
            refine k_Resolver_meetOperator X hw lk_Resolver_78 d_Resolver_run_78 hl.1 (lv_room (Nat.le_of_ble_eq_true rfl)) ⟨Nat.le_of_ble_eq_true rfl, Nat.le_of_ble_eq_true rfl⟩ ⟨Nat.zero_le _, Nat.zero_le _⟩ hF (fun σ H locs hF hw => ?_)
            refine lv_goto (tgt := 117) hx hb d_Resolver_run_81 (by decide) ?_
            exact h117 v1 _ _ _ _ hF hw (lv_sub hl [0, 1] rfl)
          have hF := fx_if hc1 hF
          by_cases hc2 : x4 = 2
          · have hF := fx_it hc2 hF
            refine lv_tableIn (off := 51) (tgt := 84) hx hb d_Resolver_run_33 (by rw [hc2]; decide) (by rw [hc2]; decide) (by rw [hc2]; rfl) (by decide) ?_
            refine lv_aload_n hx hb d_Resolver_run_84 rfl (lv_at hl 0 rfl) ?_
            refine lv_iload_n hx hb d_Resolver_run_85 rfl (lv_at hl 1 rfl) ?_
            refine k_Resolver_meetNegation X hw lk_Resolver_81 d_Resolver_run_86 hl.1 (lv_room (Nat.le_of_ble_eq_true rfl)) ⟨Nat.le_of_ble_eq_true rfl, Nat.le_of_ble_eq_true rfl⟩ ⟨Nat.zero_le _, Nat.zero_le _⟩ hF (fun σ H locs hF hw => ?_)
            refine lv_goto (tgt := 117) hx hb d_Resolver_run_89 (by decide) ?_
            exact h117 v1 _ _ _ _ hF hw (lv_sub hl [0, 1] rfl)
          have hF := fx_if hc2 hF
          by_cases hc3 : x4 = 3
          · have hF := fx_it hc3 hF
            refine lv_tableIn (off := 59) (tgt := 92) hx hb d_Resolver_run_33 (by rw [hc3]; decide) (by rw [hc3]; decide) (by rw [hc3]; rfl) (by decide) ?_
            refine lv_aload_n hx hb d_Resolver_run_92 rfl (lv_at hl 0 rfl) ?_
            refine gR_Resolver_waitingBefore X hw lk_Resolver_18 d_Resolver_run_93 ?_
            refine lv_aload_n hx hb d_Resolver_run_96 rfl (lv_at hl 0 rfl) ?_
            refine gR_Resolver_waiting X hw lk_Resolver_12 d_Resolver_run_97 ?_
            refine k_IntStack0_size X hw lk_Resolver_84 d_Resolver_run_100 hl.1 (lv_room (Nat.le_of_ble_eq_true rfl)) ⟨Nat.le_of_ble_eq_true rfl, Nat.le_of_ble_eq_true rfl⟩ ⟨Nat.zero_le _, Nat.zero_le _⟩ hF (fun x6 σ H locs hF hw => ?_)
            refine k_IntStack1_push X hw lk_Resolver_85 d_Resolver_run_103 hl.1 (lv_room (Nat.le_of_ble_eq_true rfl)) ⟨Nat.le_of_ble_eq_true rfl, Nat.le_of_ble_eq_true rfl⟩ ⟨Nat.zero_le _, Nat.zero_le _⟩ hF (fun σ H locs hF hw => ?_)
            refine lv_goto (tgt := 117) hx hb d_Resolver_run_106 (by decide) ?_
            exact h117 v1 _ _ _ _ hF hw (lv_sub hl [0, 1] rfl)
          have hF := fx_if hc3 hF
          by_cases hc4 : x4 = 4
          · have hF := fx_it hc4 hF
            refine lv_tableIn (off := 76) (tgt := 109) hx hb d_Resolver_run_33 (by rw [hc4]; decide) (by rw [hc4]; decide) (by rw [hc4]; rfl) (by decide) ?_
            refine lv_aload_n hx hb d_Resolver_run_109 rfl (lv_at hl 0 rfl) ?_
            refine lv_iload_n hx hb d_Resolver_run_110 rfl (lv_at hl 1 rfl) ?_
            refine k_Resolver_meetClose X hw lk_Resolver_88 d_Resolver_run_111 hl.1 (lv_room (Nat.le_of_ble_eq_true rfl)) ⟨Nat.le_of_ble_eq_true rfl, Nat.le_of_ble_eq_true rfl⟩ ⟨Nat.zero_le _, Nat.zero_le _⟩ hF (fun σ H locs hF hw => ?_)
            refine lv_goto (tgt := 117) hx hb d_Resolver_run_114 (by decide) ?_
            exact h117 v1 _ _ _ _ hF hw (lv_sub hl [0, 1] rfl)
          have hF := fx_if hc4 hF
          refine lv_tableOut (tgt := 117) hx hb d_Resolver_run_33 (fx_sw0_4 hc0 hc1 hc2 hc3 hc4) (by decide) ?_
          exact h117 v1 _ _ _ _ hF hw (lv_sub hl [0, 1] rfl)
  refine lv_aload_n hx hb d_Resolver_run_0 rfl (lv_at hl 0 rfl) ?_
  refine k_Resolver_clear X hw lk_Resolver_61 d_Resolver_run_1 hl.1 (lv_room (Nat.le_of_ble_eq_true rfl)) ⟨Nat.le_of_ble_eq_true rfl, Nat.le_of_ble_eq_true rfl⟩ ⟨Nat.zero_le _, Nat.zero_le _⟩ hF (fun σ H locs hF hw => ?_)
  refine lv_iconst (v := 0) hx hb d_Resolver_run_4 (by decide) ?_
  refine lv_istore_n (lv' := [(1, .int 0), (0, .ref (h 13))]) hx hb d_Resolver_run_5 rfl hl (by decide) rfl (fun ls hl => ?_)
  exact h6 fx_fuel 0 _ _ _ _ hF hw (lv_sub hl [1, 0] rfl)
section
variable {p : Program} {l : Launch} {e : Env} {R : Room} {s : State} {m : MethodId} {args : Array Value} {below : List Frame} {meth : Method} {c : Code} {H : Heap} {locs : List Loc} {cells slots : Nat} {Q : State → Prop}
variable {cc : ByteArray} {pc nL ix : Nat} {ls : Array Slot} {rest : List Value} {own : String} {D : va_G} {A : Nat → Prop} {h : Nat → Nat} {cA : Nat → ClassId} {σ : fx_S} {β : Type} {res : β × fx_S}
theorem k_Resolver_run (X : fx_X p m c cc nL s args own D fx_cl (fx_tys cA) fx_g fx_G A) (hw : fx_B D fx_cl (fx_ws h cA) A s.heap σ H locs) (lk : Cond.methodLink own ix y_Resolver_run ∈ fx_g) (hdg : decode cc pc = .ok (.invokevirtual ix, 3)) (hsize : ls.size = nL) (hW : 2 * (F0 m pc ls (.ref (h 13) :: rest)).monitorRoom + (rest.map fun v => v.category).sum ≤ 8) (hR : 5 + 1 ≤ R.frames ∧ 8 + (2 + 11) + 113 ≤ R.locals) (hf : cells ≤ R.cells ∧ slots ≤ R.slots) {k : Unit → fx_M β} (hF : fx_bnd (F_Resolver_run) k σ = some res) (kk : ∀ (σ' : fx_S) (H' : Heap) (locs' : List Loc), k () σ' = some res → fx_B D fx_cl (fx_ws h cA) A s.heap σ' H' locs' → W p l e R s m args below meth c H' locs' cells slots Q (F0 m (pc + 3) ls rest)) : W p l e R s m args below meth c H locs cells slots Q (F0 m pc ls (.ref (h 13) :: rest)) :=
  fx_call_v X hw (c_Resolver_run l D h cA) (fx_cwV X lk hg_Resolver_run fx_gok (rm := { frames := 5, cells := 0, slots := 0, locals := 113 }) rfl rfl (by decide +kernel) hR) (va_recv X.2.1 hw.1 (ci := 4) (q0 := 13) rfl rfl) (n := 0) rfl hdg hsize rfl hW hf hF kk
end
set_option maxHeartbeats 4000000 in
set_option maxRecDepth 100000 in
theorem c_Resolver_clashKind (l : Launch) (D : va_G) (h : Nat → Nat) (cA : Nat → ClassId) : fx_Mi l y_Resolver_clashKind b_Resolver_clashKind 1 (some .int) { frames := 0, cells := 0, slots := 0, locals := 0 } D fx_cl (fx_tys cA) fx_g fx_G (fx_ws h cA) [.ref (h 13)] (F_Resolver_clashKind) := by
  refine fx_start_i fx_G_ok (by decide) (Nat.le_of_ble_eq_true rfl) ?_
  intro p e s m args below meth c A ls σ res Q hF X hw hl hend
  have hx := X.1.1
  have hb := X.1.2.1
  have hl : lv_has ls 1 [(0, .ref (h 13))] := hl
  unfold F_Resolver_clashKind at hF
  refine lv_aload_n hx hb d_Resolver_clashKind_0 rfl (lv_at hl 0 rfl) ?_
  refine gI_Resolver_clashKind X hw lk_Resolver_52 d_Resolver_clashKind_1 hF (fun x1 hF => ?_)
  exact hend _ _ _ _ _ _ d_Resolver_clashKind_4 hF hw
section
variable {p : Program} {l : Launch} {e : Env} {R : Room} {s : State} {m : MethodId} {args : Array Value} {below : List Frame} {meth : Method} {c : Code} {H : Heap} {locs : List Loc} {cells slots : Nat} {Q : State → Prop}
variable {cc : ByteArray} {pc nL ix : Nat} {ls : Array Slot} {rest : List Value} {own : String} {D : va_G} {A : Nat → Prop} {h : Nat → Nat} {cA : Nat → ClassId} {σ : fx_S} {β : Type} {res : β × fx_S}
theorem k_Resolver_clashKind (X : fx_X p m c cc nL s args own D fx_cl (fx_tys cA) fx_g fx_G A) (hw : fx_B D fx_cl (fx_ws h cA) A s.heap σ H locs) (lk : Cond.methodLink own ix y_Resolver_clashKind ∈ fx_g) (hdg : decode cc pc = .ok (.invokevirtual ix, 3)) (hsize : ls.size = nL) (hW : 2 * (F0 m pc ls (.ref (h 13) :: rest)).monitorRoom + (rest.map fun v => v.category).sum ≤ 8) (hR : 0 + 1 ≤ R.frames ∧ 8 + (1 + 11) + 0 ≤ R.locals) (hf : cells ≤ R.cells ∧ slots ≤ R.slots) {k : Int32 → fx_M β} (hF : fx_bnd (F_Resolver_clashKind) k σ = some res) (kk : ∀ (r : Int32) (σ' : fx_S) (H' : Heap) (locs' : List Loc), k r σ' = some res → fx_B D fx_cl (fx_ws h cA) A s.heap σ' H' locs' → W p l e R s m args below meth c H' locs' cells slots Q (F0 m (pc + 3) ls (.int r :: rest))) : W p l e R s m args below meth c H locs cells slots Q (F0 m pc ls (.ref (h 13) :: rest)) :=
  fx_call_i X hw (c_Resolver_clashKind l D h cA) (fx_cwV X lk hg_Resolver_clashKind fx_gok (rm := { frames := 0, cells := 0, slots := 0, locals := 0 }) rfl rfl (by decide +kernel) hR) (va_recv X.2.1 hw.1 (ci := 4) (q0 := 13) rfl rfl) (n := 0) rfl hdg hsize rfl hW hf hF kk
end
set_option maxHeartbeats 4000000 in
set_option maxRecDepth 100000 in
theorem c_Resolver_clashWaiting (l : Launch) (D : va_G) (h : Nat → Nat) (cA : Nat → ClassId) : fx_Mi l y_Resolver_clashWaiting b_Resolver_clashWaiting 1 (some .int) { frames := 0, cells := 0, slots := 0, locals := 0 } D fx_cl (fx_tys cA) fx_g fx_G (fx_ws h cA) [.ref (h 13)] (F_Resolver_clashWaiting) := by
  refine fx_start_i fx_G_ok (by decide) (Nat.le_of_ble_eq_true rfl) ?_
  intro p e s m args below meth c A ls σ res Q hF X hw hl hend
  have hx := X.1.1
  have hb := X.1.2.1
  have hl : lv_has ls 1 [(0, .ref (h 13))] := hl
  unfold F_Resolver_clashWaiting at hF
  refine lv_aload_n hx hb d_Resolver_clashWaiting_0 rfl (lv_at hl 0 rfl) ?_
  refine gI_Resolver_clashWaiting X hw lk_Resolver_55 d_Resolver_clashWaiting_1 hF (fun x1 hF => ?_)
  exact hend _ _ _ _ _ _ d_Resolver_clashWaiting_4 hF hw
section
variable {p : Program} {l : Launch} {e : Env} {R : Room} {s : State} {m : MethodId} {args : Array Value} {below : List Frame} {meth : Method} {c : Code} {H : Heap} {locs : List Loc} {cells slots : Nat} {Q : State → Prop}
variable {cc : ByteArray} {pc nL ix : Nat} {ls : Array Slot} {rest : List Value} {own : String} {D : va_G} {A : Nat → Prop} {h : Nat → Nat} {cA : Nat → ClassId} {σ : fx_S} {β : Type} {res : β × fx_S}
theorem k_Resolver_clashWaiting (X : fx_X p m c cc nL s args own D fx_cl (fx_tys cA) fx_g fx_G A) (hw : fx_B D fx_cl (fx_ws h cA) A s.heap σ H locs) (lk : Cond.methodLink own ix y_Resolver_clashWaiting ∈ fx_g) (hdg : decode cc pc = .ok (.invokevirtual ix, 3)) (hsize : ls.size = nL) (hW : 2 * (F0 m pc ls (.ref (h 13) :: rest)).monitorRoom + (rest.map fun v => v.category).sum ≤ 8) (hR : 0 + 1 ≤ R.frames ∧ 8 + (1 + 11) + 0 ≤ R.locals) (hf : cells ≤ R.cells ∧ slots ≤ R.slots) {k : Int32 → fx_M β} (hF : fx_bnd (F_Resolver_clashWaiting) k σ = some res) (kk : ∀ (r : Int32) (σ' : fx_S) (H' : Heap) (locs' : List Loc), k r σ' = some res → fx_B D fx_cl (fx_ws h cA) A s.heap σ' H' locs' → W p l e R s m args below meth c H' locs' cells slots Q (F0 m (pc + 3) ls (.int r :: rest))) : W p l e R s m args below meth c H locs cells slots Q (F0 m pc ls (.ref (h 13) :: rest)) :=
  fx_call_i X hw (c_Resolver_clashWaiting l D h cA) (fx_cwV X lk hg_Resolver_clashWaiting fx_gok (rm := { frames := 0, cells := 0, slots := 0, locals := 0 }) rfl rfl (by decide +kernel) hR) (va_recv X.2.1 hw.1 (ci := 4) (q0 := 13) rfl rfl) (n := 0) rfl hdg hsize rfl hW hf hF kk
end
set_option maxHeartbeats 4000000 in
set_option maxRecDepth 100000 in
theorem c_Resolver_clashOther (l : Launch) (D : va_G) (h : Nat → Nat) (cA : Nat → ClassId) : fx_Mi l y_Resolver_clashOther b_Resolver_clashOther 1 (some .int) { frames := 0, cells := 0, slots := 0, locals := 0 } D fx_cl (fx_tys cA) fx_g fx_G (fx_ws h cA) [.ref (h 13)] (F_Resolver_clashOther) := by
  refine fx_start_i fx_G_ok (by decide) (Nat.le_of_ble_eq_true rfl) ?_
  intro p e s m args below meth c A ls σ res Q hF X hw hl hend
  have hx := X.1.1
  have hb := X.1.2.1
  have hl : lv_has ls 1 [(0, .ref (h 13))] := hl
  unfold F_Resolver_clashOther at hF
  refine lv_aload_n hx hb d_Resolver_clashOther_0 rfl (lv_at hl 0 rfl) ?_
  refine gI_Resolver_clashOther X hw lk_Resolver_58 d_Resolver_clashOther_1 hF (fun x1 hF => ?_)
  exact hend _ _ _ _ _ _ d_Resolver_clashOther_4 hF hw
section
variable {p : Program} {l : Launch} {e : Env} {R : Room} {s : State} {m : MethodId} {args : Array Value} {below : List Frame} {meth : Method} {c : Code} {H : Heap} {locs : List Loc} {cells slots : Nat} {Q : State → Prop}
variable {cc : ByteArray} {pc nL ix : Nat} {ls : Array Slot} {rest : List Value} {own : String} {D : va_G} {A : Nat → Prop} {h : Nat → Nat} {cA : Nat → ClassId} {σ : fx_S} {β : Type} {res : β × fx_S}
theorem k_Resolver_clashOther (X : fx_X p m c cc nL s args own D fx_cl (fx_tys cA) fx_g fx_G A) (hw : fx_B D fx_cl (fx_ws h cA) A s.heap σ H locs) (lk : Cond.methodLink own ix y_Resolver_clashOther ∈ fx_g) (hdg : decode cc pc = .ok (.invokevirtual ix, 3)) (hsize : ls.size = nL) (hW : 2 * (F0 m pc ls (.ref (h 13) :: rest)).monitorRoom + (rest.map fun v => v.category).sum ≤ 8) (hR : 0 + 1 ≤ R.frames ∧ 8 + (1 + 11) + 0 ≤ R.locals) (hf : cells ≤ R.cells ∧ slots ≤ R.slots) {k : Int32 → fx_M β} (hF : fx_bnd (F_Resolver_clashOther) k σ = some res) (kk : ∀ (r : Int32) (σ' : fx_S) (H' : Heap) (locs' : List Loc), k r σ' = some res → fx_B D fx_cl (fx_ws h cA) A s.heap σ' H' locs' → W p l e R s m args below meth c H' locs' cells slots Q (F0 m (pc + 3) ls (.int r :: rest))) : W p l e R s m args below meth c H locs cells slots Q (F0 m pc ls (.ref (h 13) :: rest)) :=
  fx_call_i X hw (c_Resolver_clashOther l D h cA) (fx_cwV X lk hg_Resolver_clashOther fx_gok (rm := { frames := 0, cells := 0, slots := 0, locals := 0 }) rfl rfl (by decide +kernel) hR) (va_recv X.2.1 hw.1 (ci := 4) (q0 := 13) rfl rfl) (n := 0) rfl hdg hsize rfl hW hf hF kk
end
set_option maxHeartbeats 4000000 in
set_option maxRecDepth 100000 in
theorem c_Tree0_clear (l : Launch) (D : va_G) (h : Nat → Nat) (cA : Nat → ClassId) : fx_Mv l y_Tree_clear b_Tree_clear 1 none { frames := 0, cells := 0, slots := 0, locals := 0 } D fx_cl (fx_tys cA) fx_g fx_G (fx_ws h cA) [.ref (h 26)] (F_Tree0_clear) := by
  refine fx_start_v fx_G_ok (by decide) (Nat.le_of_ble_eq_true rfl) ?_
  intro p e s m args below meth c A ls σ res Q hF X hw hl hend
  have hx := X.1.1
  have hb := X.1.2.1
  have hl : lv_has ls 1 [(0, .ref (h 26))] := hl
  unfold F_Tree0_clear at hF
  refine lv_aload_n hx hb d_Tree_clear_0 rfl (lv_at hl 0 rfl) ?_
  refine lv_iconst (v := 0) hx hb d_Tree_clear_1 (by decide) ?_
  refine pI_Tree0_size X hw lk_Tree_31 d_Tree_clear_2 hF (fun σ H locs hF hw => ?_)
  refine lv_aload_n hx hb d_Tree_clear_5 rfl (lv_at hl 0 rfl) ?_
  refine lv_iconst (v := 0) hx hb d_Tree_clear_6 (by decide) ?_
  refine pI_Tree0_height X hw lk_Tree_35 d_Tree_clear_7 hF (fun σ H locs hF hw => ?_)
  exact hend _ _ _ _ _ d_Tree_clear_10 hF hw
section
variable {p : Program} {l : Launch} {e : Env} {R : Room} {s : State} {m : MethodId} {args : Array Value} {below : List Frame} {meth : Method} {c : Code} {H : Heap} {locs : List Loc} {cells slots : Nat} {Q : State → Prop}
variable {cc : ByteArray} {pc nL ix : Nat} {ls : Array Slot} {rest : List Value} {own : String} {D : va_G} {A : Nat → Prop} {h : Nat → Nat} {cA : Nat → ClassId} {σ : fx_S} {β : Type} {res : β × fx_S}
theorem k_Tree0_clear (X : fx_X p m c cc nL s args own D fx_cl (fx_tys cA) fx_g fx_G A) (hw : fx_B D fx_cl (fx_ws h cA) A s.heap σ H locs) (lk : Cond.methodLink own ix y_Tree_clear ∈ fx_g) (hdg : decode cc pc = .ok (.invokevirtual ix, 3)) (hsize : ls.size = nL) (hW : 2 * (F0 m pc ls (.ref (h 26) :: rest)).monitorRoom + (rest.map fun v => v.category).sum ≤ 8) (hR : 0 + 1 ≤ R.frames ∧ 8 + (1 + 11) + 0 ≤ R.locals) (hf : cells ≤ R.cells ∧ slots ≤ R.slots) {k : Unit → fx_M β} (hF : fx_bnd (F_Tree0_clear) k σ = some res) (kk : ∀ (σ' : fx_S) (H' : Heap) (locs' : List Loc), k () σ' = some res → fx_B D fx_cl (fx_ws h cA) A s.heap σ' H' locs' → W p l e R s m args below meth c H' locs' cells slots Q (F0 m (pc + 3) ls rest)) : W p l e R s m args below meth c H locs cells slots Q (F0 m pc ls (.ref (h 26) :: rest)) :=
  fx_call_v X hw (c_Tree0_clear l D h cA) (fx_cwV X lk hg_Tree_clear fx_gok (rm := { frames := 0, cells := 0, slots := 0, locals := 0 }) rfl rfl (by decide +kernel) hR) (va_recv X.2.1 hw.1 (ci := 6) (q0 := 26) rfl rfl) (n := 0) rfl hdg hsize rfl hW hf hF kk
end
set_option maxHeartbeats 4000000 in
set_option maxRecDepth 100000 in
theorem c_IntStack2_top (l : Launch) (D : va_G) (h : Nat → Nat) (cA : Nat → ClassId) : fx_Mi l y_IntStack_top b_IntStack_top 1 (some .int) { frames := 0, cells := 0, slots := 0, locals := 0 } D fx_cl (fx_tys cA) fx_g fx_G (fx_ws h cA) [.ref (h 18)] (F_IntStack2_top) := by
  refine fx_start_i fx_G_ok (by decide) (Nat.le_of_ble_eq_true rfl) ?_
  intro p e s m args below meth c A ls σ res Q hF X hw hl hend
  have hx := X.1.1
  have hb := X.1.2.1
  have hl : lv_has ls 1 [(0, .ref (h 18))] := hl
  unfold F_IntStack2_top at hF
  refine lv_aload_n hx hb d_IntStack_top_0 rfl (lv_at hl 0 rfl) ?_
  refine gI_IntStack2_size X hw lk_IntStack_15 d_IntStack_top_1 hF (fun x1 hF => ?_)
  refine lv_if_le (tgt := 21) hx hb d_IntStack_top_4 (by decide) (fun hc => ?_) (fun hc => ?_)
  · have hF := fx_it hc hF
    refine lv_iconst (v := (-1)) hx hb d_IntStack_top_21 (by decide) ?_
    exact hend _ _ _ _ _ _ d_IntStack_top_22 hF hw
  · have hF := fx_if hc hF
    refine lv_aload_n hx hb d_IntStack_top_7 rfl (lv_at hl 0 rfl) ?_
    refine gR_IntStack2_values X hw lk_IntStack_9 d_IntStack_top_8 ?_
    refine lv_aload_n hx hb d_IntStack_top_11 rfl (lv_at hl 0 rfl) ?_
    refine gI_IntStack2_size X hw lk_IntStack_15 d_IntStack_top_12 hF (fun x2 hF => ?_)
    refine lv_iconst (v := 1) hx hb d_IntStack_top_15 (by decide) ?_
    refine lv_isub hx hb d_IntStack_top_16 ?_
    refine lA_IntStack2_values X hw d_IntStack_top_17 hF (fun x3 hF => ?_)
    refine lv_goto (tgt := 22) hx hb d_IntStack_top_18 (by decide) ?_
    exact hend _ _ _ _ _ _ d_IntStack_top_22 hF hw
section
variable {p : Program} {l : Launch} {e : Env} {R : Room} {s : State} {m : MethodId} {args : Array Value} {below : List Frame} {meth : Method} {c : Code} {H : Heap} {locs : List Loc} {cells slots : Nat} {Q : State → Prop}
variable {cc : ByteArray} {pc nL ix : Nat} {ls : Array Slot} {rest : List Value} {own : String} {D : va_G} {A : Nat → Prop} {h : Nat → Nat} {cA : Nat → ClassId} {σ : fx_S} {β : Type} {res : β × fx_S}
theorem k_IntStack2_top (X : fx_X p m c cc nL s args own D fx_cl (fx_tys cA) fx_g fx_G A) (hw : fx_B D fx_cl (fx_ws h cA) A s.heap σ H locs) (lk : Cond.methodLink own ix y_IntStack_top ∈ fx_g) (hdg : decode cc pc = .ok (.invokevirtual ix, 3)) (hsize : ls.size = nL) (hW : 2 * (F0 m pc ls (.ref (h 18) :: rest)).monitorRoom + (rest.map fun v => v.category).sum ≤ 8) (hR : 0 + 1 ≤ R.frames ∧ 8 + (1 + 11) + 0 ≤ R.locals) (hf : cells ≤ R.cells ∧ slots ≤ R.slots) {k : Int32 → fx_M β} (hF : fx_bnd (F_IntStack2_top) k σ = some res) (kk : ∀ (r : Int32) (σ' : fx_S) (H' : Heap) (locs' : List Loc), k r σ' = some res → fx_B D fx_cl (fx_ws h cA) A s.heap σ' H' locs' → W p l e R s m args below meth c H' locs' cells slots Q (F0 m (pc + 3) ls (.int r :: rest))) : W p l e R s m args below meth c H locs cells slots Q (F0 m pc ls (.ref (h 18) :: rest)) :=
  fx_call_i X hw (c_IntStack2_top l D h cA) (fx_cwV X lk hg_IntStack_top fx_gok (rm := { frames := 0, cells := 0, slots := 0, locals := 0 }) rfl rfl (by decide +kernel) hR) (va_recv X.2.1 hw.1 (ci := 5) (q0 := 18) rfl rfl) (n := 0) rfl hdg hsize rfl hW hf hF kk
end
set_option maxHeartbeats 4000000 in
set_option maxRecDepth 100000 in
theorem c_Tree0_setHeight (l : Launch) (D : va_G) (h : Nat → Nat) (cA : Nat → ClassId) (v1 : Int32) : fx_Mv l y_Tree_setHeight b_Tree_setHeight 2 none { frames := 0, cells := 0, slots := 0, locals := 0 } D fx_cl (fx_tys cA) fx_g fx_G (fx_ws h cA) [.ref (h 26), .int v1] (F_Tree0_setHeight v1) := by
  refine fx_start_v fx_G_ok (by decide) (Nat.le_of_ble_eq_true rfl) ?_
  intro p e s m args below meth c A ls σ res Q hF X hw hl hend
  have hx := X.1.1
  have hb := X.1.2.1
  have hl : lv_has ls 2 [(0, .ref (h 26)), (1, .int v1)] := hl
  unfold F_Tree0_setHeight at hF
  refine lv_aload_n hx hb d_Tree_setHeight_0 rfl (lv_at hl 0 rfl) ?_
  refine lv_iload_n hx hb d_Tree_setHeight_1 rfl (lv_at hl 1 rfl) ?_
  refine pI_Tree0_height X hw lk_Tree_35 d_Tree_setHeight_2 hF (fun σ H locs hF hw => ?_)
  exact hend _ _ _ _ _ d_Tree_setHeight_5 hF hw
section
variable {p : Program} {l : Launch} {e : Env} {R : Room} {s : State} {m : MethodId} {args : Array Value} {below : List Frame} {meth : Method} {c : Code} {H : Heap} {locs : List Loc} {cells slots : Nat} {Q : State → Prop}
variable {cc : ByteArray} {pc nL ix : Nat} {ls : Array Slot} {rest : List Value} {own : String} {D : va_G} {A : Nat → Prop} {h : Nat → Nat} {cA : Nat → ClassId} {σ : fx_S} {β : Type} {res : β × fx_S}
theorem k_Tree0_setHeight {v1 : Int32} (X : fx_X p m c cc nL s args own D fx_cl (fx_tys cA) fx_g fx_G A) (hw : fx_B D fx_cl (fx_ws h cA) A s.heap σ H locs) (lk : Cond.methodLink own ix y_Tree_setHeight ∈ fx_g) (hdg : decode cc pc = .ok (.invokevirtual ix, 3)) (hsize : ls.size = nL) (hW : 2 * (F0 m pc ls (.int v1 :: .ref (h 26) :: rest)).monitorRoom + (rest.map fun v => v.category).sum ≤ 8) (hR : 0 + 1 ≤ R.frames ∧ 8 + (2 + 11) + 0 ≤ R.locals) (hf : cells ≤ R.cells ∧ slots ≤ R.slots) {k : Unit → fx_M β} (hF : fx_bnd (F_Tree0_setHeight v1) k σ = some res) (kk : ∀ (σ' : fx_S) (H' : Heap) (locs' : List Loc), k () σ' = some res → fx_B D fx_cl (fx_ws h cA) A s.heap σ' H' locs' → W p l e R s m args below meth c H' locs' cells slots Q (F0 m (pc + 3) ls rest)) : W p l e R s m args below meth c H locs cells slots Q (F0 m pc ls (.int v1 :: .ref (h 26) :: rest)) :=
  fx_call_v X hw (c_Tree0_setHeight l D h cA v1) (fx_cwV X lk hg_Tree_setHeight fx_gok (rm := { frames := 0, cells := 0, slots := 0, locals := 0 }) rfl rfl (by decide +kernel) hR) (va_recv X.2.1 hw.1 (ci := 6) (q0 := 26) rfl rfl) (n := 1) rfl hdg hsize rfl hW hf hF kk
end
set_option maxHeartbeats 4000000 in
set_option maxRecDepth 100000 in
theorem c_IntStack3_clear (l : Launch) (D : va_G) (h : Nat → Nat) (cA : Nat → ClassId) : fx_Mv l y_IntStack_clear b_IntStack_clear 1 none { frames := 0, cells := 0, slots := 0, locals := 0 } D fx_cl (fx_tys cA) fx_g fx_G (fx_ws h cA) [.ref (h 20)] (F_IntStack3_clear) := by
  refine fx_start_v fx_G_ok (by decide) (Nat.le_of_ble_eq_true rfl) ?_
  intro p e s m args below meth c A ls σ res Q hF X hw hl hend
  have hx := X.1.1
  have hb := X.1.2.1
  have hl : lv_has ls 1 [(0, .ref (h 20))] := hl
  unfold F_IntStack3_clear at hF
  refine lv_aload_n hx hb d_IntStack_clear_0 rfl (lv_at hl 0 rfl) ?_
  refine lv_iconst (v := 0) hx hb d_IntStack_clear_1 (by decide) ?_
  refine pI_IntStack3_size X hw lk_IntStack_15 d_IntStack_clear_2 hF (fun σ H locs hF hw => ?_)
  exact hend _ _ _ _ _ d_IntStack_clear_5 hF hw
section
variable {p : Program} {l : Launch} {e : Env} {R : Room} {s : State} {m : MethodId} {args : Array Value} {below : List Frame} {meth : Method} {c : Code} {H : Heap} {locs : List Loc} {cells slots : Nat} {Q : State → Prop}
variable {cc : ByteArray} {pc nL ix : Nat} {ls : Array Slot} {rest : List Value} {own : String} {D : va_G} {A : Nat → Prop} {h : Nat → Nat} {cA : Nat → ClassId} {σ : fx_S} {β : Type} {res : β × fx_S}
theorem k_IntStack3_clear (X : fx_X p m c cc nL s args own D fx_cl (fx_tys cA) fx_g fx_G A) (hw : fx_B D fx_cl (fx_ws h cA) A s.heap σ H locs) (lk : Cond.methodLink own ix y_IntStack_clear ∈ fx_g) (hdg : decode cc pc = .ok (.invokevirtual ix, 3)) (hsize : ls.size = nL) (hW : 2 * (F0 m pc ls (.ref (h 20) :: rest)).monitorRoom + (rest.map fun v => v.category).sum ≤ 8) (hR : 0 + 1 ≤ R.frames ∧ 8 + (1 + 11) + 0 ≤ R.locals) (hf : cells ≤ R.cells ∧ slots ≤ R.slots) {k : Unit → fx_M β} (hF : fx_bnd (F_IntStack3_clear) k σ = some res) (kk : ∀ (σ' : fx_S) (H' : Heap) (locs' : List Loc), k () σ' = some res → fx_B D fx_cl (fx_ws h cA) A s.heap σ' H' locs' → W p l e R s m args below meth c H' locs' cells slots Q (F0 m (pc + 3) ls rest)) : W p l e R s m args below meth c H locs cells slots Q (F0 m pc ls (.ref (h 20) :: rest)) :=
  fx_call_v X hw (c_IntStack3_clear l D h cA) (fx_cwV X lk hg_IntStack_clear fx_gok (rm := { frames := 0, cells := 0, slots := 0, locals := 0 }) rfl rfl (by decide +kernel) hR) (va_recv X.2.1 hw.1 (ci := 5) (q0 := 20) rfl rfl) (n := 0) rfl hdg hsize rfl hW hf hF kk
end
