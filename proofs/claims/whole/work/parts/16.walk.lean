set_option maxHeartbeats 4000000 in
set_option maxRecDepth 100000 in
theorem c_Written_measure (l : Launch) (D : va_G) (h : Nat → Nat) (cA : Nat → ClassId) (v1 : Int32) : fx_Mv l y_Written_measure b_Written_measure 3 none { frames := 2, cells := 0, slots := 0, locals := 42 } D fx_cl (fx_tys cA) fx_g fx_G (fx_ws h cA) [.ref (h 40), .int v1] (F_Written_measure v1) := by
  refine fx_start_v fx_G_ok (by decide) (Nat.le_of_ble_eq_true rfl) ?_
  intro p e s m args below meth c A ls σ res Q hF X hw hl hend
  have hx := X.1.1
  have hb := X.1.2.1
  have hl : lv_has ls 3 [(0, .ref (h 40)), (1, .int v1)] := hl
  unfold F_Written_measure at hF
  have h21 : ∀ (v1 : Int32) (t0 : Int32) (σ : fx_S) (H : Heap) (locs : List Loc) (ls : Array Slot), F_Written_measure_J21 v1 t0 σ = some res → fx_B D fx_cl (fx_ws h cA) A s.heap σ H locs → lv_has ls 3 [(0, .ref (h 40)), (1, .int v1)] → W p l e { frames := 2, cells := 0, slots := 0, locals := 42 } s m args below meth c H locs 0 0 Q (F0 m 21 ls [.int t0]) := by
    intro v1 t0 σ H locs ls hF hw hl
    unfold F_Written_measure_J21 at hF
    refine lv_istore_n (lv' := [(2, .int t0), (0, .ref (h 40)), (1, .int v1)]) hx hb d_Written_measure_21 rfl hl (by decide) rfl (fun ls hl => ?_)
    refine lv_aload_n hx hb d_Written_measure_22 rfl (lv_at hl 1 rfl) ?_
    refine gR_Written_widths X hw lk_Written_29 d_Written_measure_23 ?_
    refine lv_iload_n hx hb d_Written_measure_26 rfl (lv_at hl 2 rfl) ?_
    refine lv_iload_n hx hb d_Written_measure_27 rfl (lv_at hl 0 rfl) ?_
    refine lv_aload_n hx hb d_Written_measure_28 rfl (lv_at hl 1 rfl) ?_
    refine lv_aload_n hx hb d_Written_measure_29 rfl (lv_at hl 1 rfl) ?_
    refine gR_Written_tree X hw lk_Written_35 d_Written_measure_30 ?_
    refine lv_iload_n hx hb d_Written_measure_33 rfl (lv_at hl 2 rfl) ?_
    refine k_Tree0_firstAt X hw lk_Written_66 d_Written_measure_34 hl.1 (lv_room (Nat.le_of_ble_eq_true rfl)) ⟨Nat.le_of_ble_eq_true rfl, Nat.le_of_ble_eq_true rfl⟩ ⟨Nat.zero_le _, Nat.zero_le _⟩ hF (fun x3 σ H locs hF hw => ?_)
    refine k_Written_widthOf X hw lk_Written_84 d_Written_measure_37 hl.1 (lv_room (Nat.le_of_ble_eq_true rfl)) ⟨Nat.le_of_ble_eq_true rfl, Nat.le_of_ble_eq_true rfl⟩ ⟨Nat.zero_le _, Nat.zero_le _⟩ hF (fun x4 σ H locs hF hw => ?_)
    refine lv_iadd hx hb d_Written_measure_40 ?_
    refine lv_aload_n hx hb d_Written_measure_41 rfl (lv_at hl 1 rfl) ?_
    refine lv_aload_n hx hb d_Written_measure_42 rfl (lv_at hl 1 rfl) ?_
    refine gR_Written_tree X hw lk_Written_35 d_Written_measure_43 ?_
    refine lv_iload_n hx hb d_Written_measure_46 rfl (lv_at hl 2 rfl) ?_
    refine k_Tree0_secondAt X hw lk_Written_77 d_Written_measure_47 hl.1 (lv_room (Nat.le_of_ble_eq_true rfl)) ⟨Nat.le_of_ble_eq_true rfl, Nat.le_of_ble_eq_true rfl⟩ ⟨Nat.zero_le _, Nat.zero_le _⟩ hF (fun x5 σ H locs hF hw => ?_)
    refine k_Written_widthOf X hw lk_Written_84 d_Written_measure_50 hl.1 (lv_room (Nat.le_of_ble_eq_true rfl)) ⟨Nat.le_of_ble_eq_true rfl, Nat.le_of_ble_eq_true rfl⟩ ⟨Nat.zero_le _, Nat.zero_le _⟩ hF (fun x6 σ H locs hF hw => ?_)
    refine lv_iadd hx hb d_Written_measure_53 ?_
    refine sA_Written_widths X hw d_Written_measure_54 hF (fun σ H locs hF hw => ?_)
    exact hend _ _ _ _ _ d_Written_measure_55 hF hw
  refine lv_iload_n hx hb d_Written_measure_0 rfl (lv_at hl 1 rfl) ?_
  refine k_Written_isNode X hw lk_Written_115 d_Written_measure_1 hl.1 (lv_room (Nat.le_of_ble_eq_true rfl)) ⟨Nat.le_of_ble_eq_true rfl, Nat.le_of_ble_eq_true rfl⟩ ⟨Nat.zero_le _, Nat.zero_le _⟩ hF (fun x1 σ H locs hF hw => ?_)
  refine lv_if_eq (tgt := 55) hx hb d_Written_measure_4 (by decide) (fun hc => ?_) (fun hc => ?_)
  · have hF := fx_it hc hF
    exact hend _ _ _ _ _ d_Written_measure_55 hF hw
  · have hF := fx_if hc hF
    refine lv_aload_n hx hb d_Written_measure_7 rfl (lv_at hl 0 rfl) ?_
    refine gR_Written_bracketed X hw lk_Written_25 d_Written_measure_8 ?_
    refine lv_iload_n hx hb d_Written_measure_11 rfl (lv_at hl 1 rfl) ?_
    refine lA_Written_bracketed X hw d_Written_measure_12 hF (fun x2 hF => ?_)
    refine lv_if_eq (tgt := 20) hx hb d_Written_measure_13 (by decide) (fun hc => ?_) (fun hc => ?_)
    · have hF := fx_it hc hF
      refine lv_iconst (v := 1) hx hb d_Written_measure_20 (by decide) ?_
      exact h21 v1 1 _ _ _ _ hF hw (lv_sub hl [0, 1] rfl)
    · have hF := fx_if hc hF
      refine lv_iconst (v := 3) hx hb d_Written_measure_16 (by decide) ?_
      refine lv_goto (tgt := 21) hx hb d_Written_measure_17 (by decide) ?_
      exact h21 v1 3 _ _ _ _ hF hw (lv_sub hl [0, 1] rfl)
section
variable {p : Program} {l : Launch} {e : Env} {R : Room} {s : State} {m : MethodId} {args : Array Value} {below : List Frame} {meth : Method} {c : Code} {H : Heap} {locs : List Loc} {cells slots : Nat} {Q : State → Prop}
variable {cc : ByteArray} {pc nL ix : Nat} {ls : Array Slot} {rest : List Value} {own : String} {D : va_G} {A : Nat → Prop} {h : Nat → Nat} {cA : Nat → ClassId} {σ : fx_S} {β : Type} {res : β × fx_S}
theorem k_Written_measure {v1 : Int32} (X : fx_X p m c cc nL s args own D fx_cl (fx_tys cA) fx_g fx_G A) (hw : fx_B D fx_cl (fx_ws h cA) A s.heap σ H locs) (lk : Cond.methodLink own ix y_Written_measure ∈ fx_g) (hdg : decode cc pc = .ok (.invokevirtual ix, 3)) (hsize : ls.size = nL) (hW : 2 * (F0 m pc ls (.int v1 :: .ref (h 40) :: rest)).monitorRoom + (rest.map fun v => v.category).sum ≤ 8) (hR : 2 + 1 ≤ R.frames ∧ 8 + (3 + 11) + 42 ≤ R.locals) (hf : cells ≤ R.cells ∧ slots ≤ R.slots) {k : Unit → fx_M β} (hF : fx_bnd (F_Written_measure v1) k σ = some res) (kk : ∀ (σ' : fx_S) (H' : Heap) (locs' : List Loc), k () σ' = some res → fx_B D fx_cl (fx_ws h cA) A s.heap σ' H' locs' → W p l e R s m args below meth c H' locs' cells slots Q (F0 m (pc + 3) ls rest)) : W p l e R s m args below meth c H locs cells slots Q (F0 m pc ls (.int v1 :: .ref (h 40) :: rest)) :=
  fx_call_v X hw (c_Written_measure l D h cA v1) (fx_cwV X lk hg_Written_measure fx_gok (rm := { frames := 2, cells := 0, slots := 0, locals := 42 }) rfl rfl (by decide +kernel) hR) (va_recv X.2.1 hw.1 (ci := 7) (q0 := 40) rfl rfl) (n := 1) rfl hdg hsize rfl hW hf hF kk
end
set_option maxHeartbeats 4000000 in
set_option maxRecDepth 100000 in
theorem c_Written_fits (l : Launch) (D : va_G) (h : Nat → Nat) (cA : Nat → ClassId) (v1 : Int32) (v2 : Int32) (v3 : Int32) : fx_Mi l y_Written_fits b_Written_fits 6 (some .boolean) { frames := 2, cells := 0, slots := 0, locals := 41 } D fx_cl (fx_tys cA) fx_g fx_G (fx_ws h cA) [.ref (h 40), .int v1, .int v2, .int v3] (F_Written_fits v1 v2 v3) := by
  refine fx_start_z fx_G_ok (by decide) (Nat.le_of_ble_eq_true rfl) ?_
  intro p e s m args below meth c A ls σ res Q hF X hw hl hend
  have hx := X.1.1
  have hb := X.1.2.1
  have hl : lv_has ls 6 [(0, .ref (h 40)), (1, .int v1), (2, .int v2), (3, .int v3)] := hl
  unfold F_Written_fits at hF
  refine lv_aload_n hx hb d_Written_fits_0 rfl (lv_at hl 0 rfl) ?_
  refine gR_Written_fixities X hw lk_Written_39 d_Written_fits_1 ?_
  refine lv_iload_n hx hb d_Written_fits_4 rfl (lv_at hl 1 rfl) ?_
  refine k_Fixities_rankOf X hw lk_Written_107 d_Written_fits_5 hl.1 (lv_room (Nat.le_of_ble_eq_true rfl)) ⟨Nat.le_of_ble_eq_true rfl, Nat.le_of_ble_eq_true rfl⟩ ⟨Nat.zero_le _, Nat.zero_le _⟩ hF (fun x1 σ H locs hF hw => ?_)
  refine lv_istore (lv' := [(4, .int x1), (0, .ref (h 40)), (1, .int v1), (2, .int v2), (3, .int v3)]) hx hb d_Written_fits_8 hl (by decide) rfl (fun ls hl => ?_)
  refine lv_aload_n hx hb d_Written_fits_10 rfl (lv_at hl 1 rfl) ?_
  refine gR_Written_fixities X hw lk_Written_39 d_Written_fits_11 ?_
  refine lv_iload_n hx hb d_Written_fits_14 rfl (lv_at hl 3 rfl) ?_
  refine k_Fixities_rankOf X hw lk_Written_107 d_Written_fits_15 hl.1 (lv_room (Nat.le_of_ble_eq_true rfl)) ⟨Nat.le_of_ble_eq_true rfl, Nat.le_of_ble_eq_true rfl⟩ ⟨Nat.zero_le _, Nat.zero_le _⟩ hF (fun x2 σ H locs hF hw => ?_)
  refine lv_istore (lv' := [(5, .int x2), (4, .int x1), (0, .ref (h 40)), (1, .int v1), (2, .int v2), (3, .int v3)]) hx hb d_Written_fits_18 hl (by decide) rfl (fun ls hl => ?_)
  refine lv_iload hx hb d_Written_fits_20 (lv_at hl 1 rfl) ?_
  refine lv_iload hx hb d_Written_fits_22 (lv_at hl 0 rfl) ?_
  refine lv_icmp_eq (tgt := 40) hx hb d_Written_fits_24 (by decide) (fun hc => ?_) (fun hc => ?_)
  · have hF := fx_it hc hF
    refine lv_aload_n hx hb d_Written_fits_40 rfl (lv_at hl 2 rfl) ?_
    refine gR_Written_fixities X hw lk_Written_39 d_Written_fits_41 ?_
    refine lv_iload_n hx hb d_Written_fits_44 rfl (lv_at hl 3 rfl) ?_
    refine k_Fixities_sideOf X hw lk_Written_112 d_Written_fits_45 hl.1 (lv_room (Nat.le_of_ble_eq_true rfl)) ⟨Nat.le_of_ble_eq_true rfl, Nat.le_of_ble_eq_true rfl⟩ ⟨Nat.zero_le _, Nat.zero_le _⟩ hF (fun x3 σ H locs hF hw => ?_)
    refine lv_iload_n hx hb d_Written_fits_48 rfl (lv_at hl 5 rfl) ?_
    refine lv_icmp_ne (tgt := 68) hx hb d_Written_fits_49 (by decide) (fun hc => ?_) (fun hc => ?_)
    · have hF := fx_if hc hF
      refine lv_iconst (v := 0) hx hb d_Written_fits_68 (by decide) ?_
      exact hend _ _ _ _ _ _ d_Written_fits_69 hF hw
    · have hF := fx_it hc hF
      refine lv_aload_n hx hb d_Written_fits_52 rfl (lv_at hl 2 rfl) ?_
      refine gR_Written_fixities X hw lk_Written_39 d_Written_fits_53 ?_
      refine lv_iload_n hx hb d_Written_fits_56 rfl (lv_at hl 4 rfl) ?_
      refine k_Fixities_sideOf X hw lk_Written_112 d_Written_fits_57 hl.1 (lv_room (Nat.le_of_ble_eq_true rfl)) ⟨Nat.le_of_ble_eq_true rfl, Nat.le_of_ble_eq_true rfl⟩ ⟨Nat.zero_le _, Nat.zero_le _⟩ hF (fun x4 σ H locs hF hw => ?_)
      refine lv_iload_n hx hb d_Written_fits_60 rfl (lv_at hl 5 rfl) ?_
      refine lv_icmp_ne (tgt := 68) hx hb d_Written_fits_61 (by decide) (fun hc => ?_) (fun hc => ?_)
      · have hF := fx_if hc hF
        refine lv_iconst (v := 0) hx hb d_Written_fits_68 (by decide) ?_
        exact hend _ _ _ _ _ _ d_Written_fits_69 hF hw
      · have hF := fx_it hc hF
        refine lv_iconst (v := 1) hx hb d_Written_fits_64 (by decide) ?_
        refine lv_goto (tgt := 69) hx hb d_Written_fits_65 (by decide) ?_
        exact hend _ _ _ _ _ _ d_Written_fits_69 hF hw
  · have hF := fx_if hc hF
    refine lv_iload hx hb d_Written_fits_27 (lv_at hl 1 rfl) ?_
    refine lv_iload hx hb d_Written_fits_29 (lv_at hl 0 rfl) ?_
    refine lv_icmp_le (tgt := 38) hx hb d_Written_fits_31 (by decide) (fun hc => ?_) (fun hc => ?_)
    · have hF := fx_it hc hF
      refine lv_iconst (v := 0) hx hb d_Written_fits_38 (by decide) ?_
      exact hend _ _ _ _ _ _ d_Written_fits_39 hF hw
    · have hF := fx_if hc hF
      refine lv_iconst (v := 1) hx hb d_Written_fits_34 (by decide) ?_
      refine lv_goto (tgt := 39) hx hb d_Written_fits_35 (by decide) ?_
      exact hend _ _ _ _ _ _ d_Written_fits_39 hF hw
section
variable {p : Program} {l : Launch} {e : Env} {R : Room} {s : State} {m : MethodId} {args : Array Value} {below : List Frame} {meth : Method} {c : Code} {H : Heap} {locs : List Loc} {cells slots : Nat} {Q : State → Prop}
variable {cc : ByteArray} {pc nL ix : Nat} {ls : Array Slot} {rest : List Value} {own : String} {D : va_G} {A : Nat → Prop} {h : Nat → Nat} {cA : Nat → ClassId} {σ : fx_S} {β : Type} {res : β × fx_S}
theorem k_Written_fits {v1 : Int32} {v2 : Int32} {v3 : Int32} (X : fx_X p m c cc nL s args own D fx_cl (fx_tys cA) fx_g fx_G A) (hw : fx_B D fx_cl (fx_ws h cA) A s.heap σ H locs) (lk : Cond.methodLink own ix y_Written_fits ∈ fx_g) (hdg : decode cc pc = .ok (.invokevirtual ix, 3)) (hsize : ls.size = nL) (hW : 2 * (F0 m pc ls (.int v3 :: .int v2 :: .int v1 :: .ref (h 40) :: rest)).monitorRoom + (rest.map fun v => v.category).sum ≤ 8) (hR : 2 + 1 ≤ R.frames ∧ 8 + (6 + 11) + 41 ≤ R.locals) (hf : cells ≤ R.cells ∧ slots ≤ R.slots) {k : Int32 → fx_M β} (hF : fx_bnd (F_Written_fits v1 v2 v3) k σ = some res) (kk : ∀ (r : Int32) (σ' : fx_S) (H' : Heap) (locs' : List Loc), k r σ' = some res → fx_B D fx_cl (fx_ws h cA) A s.heap σ' H' locs' → W p l e R s m args below meth c H' locs' cells slots Q (F0 m (pc + 3) ls (.int r :: rest))) : W p l e R s m args below meth c H locs cells slots Q (F0 m pc ls (.int v3 :: .int v2 :: .int v1 :: .ref (h 40) :: rest)) :=
  fx_call_i X hw (c_Written_fits l D h cA v1 v2 v3) (fx_cwV X lk hg_Written_fits fx_gok (rm := { frames := 2, cells := 0, slots := 0, locals := 41 }) rfl rfl (by decide +kernel) hR) (va_recv X.2.1 hw.1 (ci := 7) (q0 := 40) rfl rfl) (n := 3) rfl hdg hsize rfl hW hf hF kk
end
set_option maxHeartbeats 4000000 in
set_option maxRecDepth 100000 in
theorem c_Written_setBrackets (l : Launch) (D : va_G) (h : Nat → Nat) (cA : Nat → ClassId) (v1 : Int32) (v2 : Int32) : fx_Mv l y_Written_setBrackets b_Written_setBrackets 3 none { frames := 1, cells := 0, slots := 0, locals := 20 } D fx_cl (fx_tys cA) fx_g fx_G (fx_ws h cA) [.ref (h 40), .int v1, .int v2] (F_Written_setBrackets v1 v2) := by
  refine fx_start_v fx_G_ok (by decide) (Nat.le_of_ble_eq_true rfl) ?_
  intro p e s m args below meth c A ls σ res Q hF X hw hl hend
  have hx := X.1.1
  have hb := X.1.2.1
  have hl : lv_has ls 3 [(0, .ref (h 40)), (1, .int v1), (2, .int v2)] := hl
  unfold F_Written_setBrackets at hF
  refine lv_iload_n hx hb d_Written_setBrackets_0 rfl (lv_at hl 1 rfl) ?_
  refine k_Written_isNode X hw lk_Written_115 d_Written_setBrackets_1 hl.1 (lv_room (Nat.le_of_ble_eq_true rfl)) ⟨Nat.le_of_ble_eq_true rfl, Nat.le_of_ble_eq_true rfl⟩ ⟨Nat.zero_le _, Nat.zero_le _⟩ hF (fun x1 σ H locs hF hw => ?_)
  refine lv_if_eq (tgt := 14) hx hb d_Written_setBrackets_4 (by decide) (fun hc => ?_) (fun hc => ?_)
  · have hF := fx_it hc hF
    exact hend _ _ _ _ _ d_Written_setBrackets_14 hF hw
  · have hF := fx_if hc hF
    refine lv_aload_n hx hb d_Written_setBrackets_7 rfl (lv_at hl 0 rfl) ?_
    refine gR_Written_bracketed X hw lk_Written_25 d_Written_setBrackets_8 ?_
    refine lv_iload_n hx hb d_Written_setBrackets_11 rfl (lv_at hl 1 rfl) ?_
    refine lv_iload_n hx hb d_Written_setBrackets_12 rfl (lv_at hl 2 rfl) ?_
    refine sA_Written_bracketed X hw d_Written_setBrackets_13 hF (fun σ H locs hF hw => ?_)
    exact hend _ _ _ _ _ d_Written_setBrackets_14 hF hw
section
variable {p : Program} {l : Launch} {e : Env} {R : Room} {s : State} {m : MethodId} {args : Array Value} {below : List Frame} {meth : Method} {c : Code} {H : Heap} {locs : List Loc} {cells slots : Nat} {Q : State → Prop}
variable {cc : ByteArray} {pc nL ix : Nat} {ls : Array Slot} {rest : List Value} {own : String} {D : va_G} {A : Nat → Prop} {h : Nat → Nat} {cA : Nat → ClassId} {σ : fx_S} {β : Type} {res : β × fx_S}
theorem k_Written_setBrackets {v1 : Int32} {v2 : Int32} (X : fx_X p m c cc nL s args own D fx_cl (fx_tys cA) fx_g fx_G A) (hw : fx_B D fx_cl (fx_ws h cA) A s.heap σ H locs) (lk : Cond.methodLink own ix y_Written_setBrackets ∈ fx_g) (hdg : decode cc pc = .ok (.invokevirtual ix, 3)) (hsize : ls.size = nL) (hW : 2 * (F0 m pc ls (.int v2 :: .int v1 :: .ref (h 40) :: rest)).monitorRoom + (rest.map fun v => v.category).sum ≤ 8) (hR : 1 + 1 ≤ R.frames ∧ 8 + (3 + 11) + 20 ≤ R.locals) (hf : cells ≤ R.cells ∧ slots ≤ R.slots) {k : Unit → fx_M β} (hF : fx_bnd (F_Written_setBrackets v1 v2) k σ = some res) (kk : ∀ (σ' : fx_S) (H' : Heap) (locs' : List Loc), k () σ' = some res → fx_B D fx_cl (fx_ws h cA) A s.heap σ' H' locs' → W p l e R s m args below meth c H' locs' cells slots Q (F0 m (pc + 3) ls rest)) : W p l e R s m args below meth c H locs cells slots Q (F0 m pc ls (.int v2 :: .int v1 :: .ref (h 40) :: rest)) :=
  fx_call_v X hw (c_Written_setBrackets l D h cA v1 v2) (fx_cwV X lk hg_Written_setBrackets fx_gok (rm := { frames := 1, cells := 0, slots := 0, locals := 20 }) rfl rfl (by decide +kernel) hR) (va_recv X.2.1 hw.1 (ci := 7) (q0 := 40) rfl rfl) (n := 2) rfl hdg hsize rfl hW hf hF kk
end
set_option maxHeartbeats 4000000 in
set_option maxRecDepth 100000 in
theorem c_Written_bracketUnlessFit (l : Launch) (D : va_G) (h : Nat → Nat) (cA : Nat → ClassId) (v1 : Int32) (v2 : Int32) (v3 : Int32) : fx_Mv l y_Written_bracketUnlessFit b_Written_bracketUnlessFit 5 none { frames := 3, cells := 0, slots := 0, locals := 66 } D fx_cl (fx_tys cA) fx_g fx_G (fx_ws h cA) [.ref (h 40), .int v1, .int v2, .int v3] (F_Written_bracketUnlessFit v1 v2 v3) := by
  refine fx_start_v fx_G_ok (by decide) (Nat.le_of_ble_eq_true rfl) ?_
  intro p e s m args below meth c A ls σ res Q hF X hw hl hend
  have hx := X.1.1
  have hb := X.1.2.1
  have hl : lv_has ls 5 [(0, .ref (h 40)), (1, .int v1), (2, .int v2), (3, .int v3)] := hl
  unfold F_Written_bracketUnlessFit at hF
  have h53 : ∀ (t0 : Int32) (t1 : Int32) (σ : fx_S) (H : Heap) (locs : List Loc) (ls : Array Slot), F_Written_bracketUnlessFit_J53 t0 t1 σ = some res → fx_B D fx_cl (fx_ws h cA) A s.heap σ H locs → lv_has ls 5 [] → W p l e { frames := 3, cells := 0, slots := 0, locals := 66 } s m args below meth c H locs 0 0 Q (F0 m 53 ls [.int t0, .int t1, .ref (h 40)]) := by
    intro t0 t1 σ H locs ls hF hw hl
    unfold F_Written_bracketUnlessFit_J53 at hF
    refine k_Written_setBrackets X hw lk_Written_62 d_Written_bracketUnlessFit_53 hl.1 (lv_room (Nat.le_of_ble_eq_true rfl)) ⟨Nat.le_of_ble_eq_true rfl, Nat.le_of_ble_eq_true rfl⟩ ⟨Nat.zero_le _, Nat.zero_le _⟩ hF (fun σ H locs hF hw => ?_)
    exact hend _ _ _ _ _ d_Written_bracketUnlessFit_56 hF hw
  have h22 : ∀ (v1 : Int32) (v2 : Int32) (v3 : Int32) (σ : fx_S) (H : Heap) (locs : List Loc) (ls : Array Slot), F_Written_bracketUnlessFit_J22 v1 v2 v3 σ = some res → fx_B D fx_cl (fx_ws h cA) A s.heap σ H locs → lv_has ls 5 [(0, .ref (h 40)), (1, .int v1), (2, .int v2), (3, .int v3)] → W p l e { frames := 3, cells := 0, slots := 0, locals := 66 } s m args below meth c H locs 0 0 Q (F0 m 22 ls []) := by
    intro v1 v2 v3 σ H locs ls hF hw hl
    unfold F_Written_bracketUnlessFit_J22 at hF
    refine lv_aload_n hx hb d_Written_bracketUnlessFit_22 rfl (lv_at hl 0 rfl) ?_
    refine lv_iload_n hx hb d_Written_bracketUnlessFit_23 rfl (lv_at hl 2 rfl) ?_
    refine lv_aload_n hx hb d_Written_bracketUnlessFit_24 rfl (lv_at hl 0 rfl) ?_
    refine lv_aload_n hx hb d_Written_bracketUnlessFit_25 rfl (lv_at hl 0 rfl) ?_
    refine gR_Written_tree X hw lk_Written_35 d_Written_bracketUnlessFit_26 ?_
    refine lv_iload_n hx hb d_Written_bracketUnlessFit_29 rfl (lv_at hl 2 rfl) ?_
    refine k_Tree0_operatorAt X hw lk_Written_100 d_Written_bracketUnlessFit_30 hl.1 (lv_room (Nat.le_of_ble_eq_true rfl)) ⟨Nat.le_of_ble_eq_true rfl, Nat.le_of_ble_eq_true rfl⟩ ⟨Nat.zero_le _, Nat.zero_le _⟩ hF (fun x2 σ H locs hF hw => ?_)
    refine lv_aload_n hx hb d_Written_bracketUnlessFit_33 rfl (lv_at hl 0 rfl) ?_
    refine gR_Written_tree X hw lk_Written_35 d_Written_bracketUnlessFit_34 ?_
    refine lv_iload_n hx hb d_Written_bracketUnlessFit_37 rfl (lv_at hl 1 rfl) ?_
    refine k_Tree0_operatorAt X hw lk_Written_100 d_Written_bracketUnlessFit_38 hl.1 (lv_room (Nat.le_of_ble_eq_true rfl)) ⟨Nat.le_of_ble_eq_true rfl, Nat.le_of_ble_eq_true rfl⟩ ⟨Nat.zero_le _, Nat.zero_le _⟩ hF (fun x3 σ H locs hF hw => ?_)
    refine lv_iload_n hx hb d_Written_bracketUnlessFit_41 rfl (lv_at hl 3 rfl) ?_
    refine k_Written_fits X hw lk_Written_103 d_Written_bracketUnlessFit_42 hl.1 (lv_room (Nat.le_of_ble_eq_true rfl)) ⟨Nat.le_of_ble_eq_true rfl, Nat.le_of_ble_eq_true rfl⟩ ⟨Nat.zero_le _, Nat.zero_le _⟩ hF (fun x4 σ H locs hF hw => ?_)
    refine lv_if_ne (tgt := 52) hx hb d_Written_bracketUnlessFit_45 (by decide) (fun hc => ?_) (fun hc => ?_)
    · have hF := fx_if hc hF
      refine lv_iconst (v := 0) hx hb d_Written_bracketUnlessFit_52 (by decide) ?_
      exact h53 0 v2 _ _ _ _ hF hw (lv_sub hl [] rfl)
    · have hF := fx_it hc hF
      refine lv_iconst (v := 1) hx hb d_Written_bracketUnlessFit_48 (by decide) ?_
      refine lv_goto (tgt := 53) hx hb d_Written_bracketUnlessFit_49 (by decide) ?_
      exact h53 1 v2 _ _ _ _ hF hw (lv_sub hl [] rfl)
  refine lv_aload_n hx hb d_Written_bracketUnlessFit_0 rfl (lv_at hl 0 rfl) ?_
  refine gR_Written_tree X hw lk_Written_35 d_Written_bracketUnlessFit_1 ?_
  refine lv_iload_n hx hb d_Written_bracketUnlessFit_4 rfl (lv_at hl 2 rfl) ?_
  refine k_Tree0_kindAt X hw lk_Written_97 d_Written_bracketUnlessFit_5 hl.1 (lv_room (Nat.le_of_ble_eq_true rfl)) ⟨Nat.le_of_ble_eq_true rfl, Nat.le_of_ble_eq_true rfl⟩ ⟨Nat.zero_le _, Nat.zero_le _⟩ hF (fun x1 σ H locs hF hw => ?_)
  refine lv_istore (lv' := [(4, .int x1), (0, .ref (h 40)), (1, .int v1), (2, .int v2), (3, .int v3)]) hx hb d_Written_bracketUnlessFit_8 hl (by decide) rfl (fun ls hl => ?_)
  refine lv_iload hx hb d_Written_bracketUnlessFit_10 (lv_at hl 0 rfl) ?_
  refine lv_iconst (v := 1) hx hb d_Written_bracketUnlessFit_12 (by decide) ?_
  refine lv_icmp_eq (tgt := 22) hx hb d_Written_bracketUnlessFit_13 (by decide) (fun hc => ?_) (fun hc => ?_)
  · have hF := fx_it hc hF
    exact h22 v1 v2 v3 _ _ _ _ hF hw (lv_sub hl [1, 2, 3, 4] rfl)
  · have hF := fx_if hc hF
    refine lv_iload hx hb d_Written_bracketUnlessFit_16 (lv_at hl 0 rfl) ?_
    refine lv_iconst (v := 2) hx hb d_Written_bracketUnlessFit_18 (by decide) ?_
    refine lv_icmp_ne (tgt := 56) hx hb d_Written_bracketUnlessFit_19 (by decide) (fun hc => ?_) (fun hc => ?_)
    · have hF := fx_if hc hF
      exact hend _ _ _ _ _ d_Written_bracketUnlessFit_56 hF hw
    · have hF := fx_it hc hF
      exact h22 v1 v2 v3 _ _ _ _ hF hw (lv_sub hl [1, 2, 3, 4] rfl)
section
variable {p : Program} {l : Launch} {e : Env} {R : Room} {s : State} {m : MethodId} {args : Array Value} {below : List Frame} {meth : Method} {c : Code} {H : Heap} {locs : List Loc} {cells slots : Nat} {Q : State → Prop}
variable {cc : ByteArray} {pc nL ix : Nat} {ls : Array Slot} {rest : List Value} {own : String} {D : va_G} {A : Nat → Prop} {h : Nat → Nat} {cA : Nat → ClassId} {σ : fx_S} {β : Type} {res : β × fx_S}
theorem k_Written_bracketUnlessFit {v1 : Int32} {v2 : Int32} {v3 : Int32} (X : fx_X p m c cc nL s args own D fx_cl (fx_tys cA) fx_g fx_G A) (hw : fx_B D fx_cl (fx_ws h cA) A s.heap σ H locs) (lk : Cond.methodLink own ix y_Written_bracketUnlessFit ∈ fx_g) (hdg : decode cc pc = .ok (.invokevirtual ix, 3)) (hsize : ls.size = nL) (hW : 2 * (F0 m pc ls (.int v3 :: .int v2 :: .int v1 :: .ref (h 40) :: rest)).monitorRoom + (rest.map fun v => v.category).sum ≤ 8) (hR : 3 + 1 ≤ R.frames ∧ 8 + (5 + 11) + 66 ≤ R.locals) (hf : cells ≤ R.cells ∧ slots ≤ R.slots) {k : Unit → fx_M β} (hF : fx_bnd (F_Written_bracketUnlessFit v1 v2 v3) k σ = some res) (kk : ∀ (σ' : fx_S) (H' : Heap) (locs' : List Loc), k () σ' = some res → fx_B D fx_cl (fx_ws h cA) A s.heap σ' H' locs' → W p l e R s m args below meth c H' locs' cells slots Q (F0 m (pc + 3) ls rest)) : W p l e R s m args below meth c H locs cells slots Q (F0 m pc ls (.int v3 :: .int v2 :: .int v1 :: .ref (h 40) :: rest)) :=
  fx_call_v X hw (c_Written_bracketUnlessFit l D h cA v1 v2 v3) (fx_cwV X lk hg_Written_bracketUnlessFit fx_gok (rm := { frames := 3, cells := 0, slots := 0, locals := 66 }) rfl rfl (by decide +kernel) hR) (va_recv X.2.1 hw.1 (ci := 7) (q0 := 40) rfl rfl) (n := 3) rfl hdg hsize rfl hW hf hF kk
end
set_option maxHeartbeats 4000000 in
set_option maxRecDepth 100000 in
theorem c_Written_fill (l : Launch) (D : va_G) (h : Nat → Nat) (cA : Nat → ClassId) : fx_Mv l y_Written_fill b_Written_fill 2 none { frames := 4, cells := 0, slots := 0, locals := 90 } D fx_cl (fx_tys cA) fx_g fx_G (fx_ws h cA) [.ref (h 40)] (F_Written_fill) := by
  refine fx_start_v fx_G_ok (by decide) (Nat.le_of_ble_eq_true rfl) ?_
  intro p e s m args below meth c A ls σ res Q hF X hw hl hend
  have hx := X.1.1
  have hb := X.1.2.1
  have hl : lv_has ls 2 [(0, .ref (h 40))] := hl
  unfold F_Written_fill at hF
  have h130 : ∀ (n130 : Nat) (v1 : Int32) (σ : fx_S) (H : Heap) (locs : List Loc) (ls : Array Slot), fx_loop1 (F_Written_fill_B130) n130 v1 σ = some res → fx_B D fx_cl (fx_ws h cA) A s.heap σ H locs → lv_has ls 2 [(0, .ref (h 40)), (1, .int v1)] → W p l e { frames := 4, cells := 0, slots := 0, locals := 90 } s m args below meth c H locs 0 0 Q (F0 m 130 ls []) := by
    intro n130
    induction n130 with
    | zero => intro v1 σ H locs ls hF; cases hF
    | succ n130 ih130 =>
      obtain ⟨K130, eK130⟩ : ∃ K, K = fx_loop1 (F_Written_fill_B130) n130 := ⟨_, rfl⟩
      rw [← eK130] at ih130
      intro v1 σ H locs ls hF hw hl
      replace hF : F_Written_fill_B130 (fx_loop1 (F_Written_fill_B130) n130) v1 σ = some res := hF
      rw [← eK130] at hF
      unfold F_Written_fill_B130 at hF
      refine lv_iload_n hx hb d_Written_fill_130 rfl (lv_at hl 1 rfl) ?_
      refine lv_aload_n hx hb d_Written_fill_131 rfl (lv_at hl 0 rfl) ?_
      refine gR_Written_tree X hw lk_Written_35 d_Written_fill_132 ?_
      refine k_Tree0_size X hw lk_Written_54 d_Written_fill_135 hl.1 (lv_room (Nat.le_of_ble_eq_true rfl)) ⟨Nat.le_of_ble_eq_true rfl, Nat.le_of_ble_eq_true rfl⟩ ⟨Nat.zero_le _, Nat.zero_le _⟩ hF (fun x6 σ H locs hF hw => ?_)
      refine lv_icmp_ge (tgt := 152) hx hb d_Written_fill_138 (by decide) (fun hc => ?_) (fun hc => ?_)
      · have hF := fx_it hc hF
        refine lv_aload_n hx hb d_Written_fill_152 rfl (lv_at hl 0 rfl) ?_
        refine k_Written_countOpen X hw lk_Written_94 d_Written_fill_153 hl.1 (lv_room (Nat.le_of_ble_eq_true rfl)) ⟨Nat.le_of_ble_eq_true rfl, Nat.le_of_ble_eq_true rfl⟩ ⟨Nat.zero_le _, Nat.zero_le _⟩ hF (fun σ H locs hF hw => ?_)
        exact hend _ _ _ _ _ d_Written_fill_156 hF hw
      · have hF := fx_if hc hF
        refine lv_aload_n hx hb d_Written_fill_141 rfl (lv_at hl 0 rfl) ?_
        refine lv_iload_n hx hb d_Written_fill_142 rfl (lv_at hl 1 rfl) ?_
        refine k_Written_lay X hw lk_Written_91 d_Written_fill_143 hl.1 (lv_room (Nat.le_of_ble_eq_true rfl)) ⟨Nat.le_of_ble_eq_true rfl, Nat.le_of_ble_eq_true rfl⟩ ⟨Nat.zero_le _, Nat.zero_le _⟩ hF (fun σ H locs hF hw => ?_)
        refine fx_iinc (lv' := fun x7 => [(1, .int x7), (0, .ref (h 40))]) hx hb d_Written_fill_146 hl (k := 1) rfl rfl (by decide) (fun _ => rfl) hF (fun x7 ls hF hl => ?_)
        refine lv_goto (tgt := 130) hx hb d_Written_fill_149 (by decide) ?_
        exact ih130 x7 _ _ _ _ hF hw (lv_sub hl [1, 0] rfl)
  have h98 : ∀ (n98 : Nat) (v1 : Int32) (σ : fx_S) (H : Heap) (locs : List Loc) (ls : Array Slot), fx_loop1 (F_Written_fill_B98) n98 v1 σ = some res → fx_B D fx_cl (fx_ws h cA) A s.heap σ H locs → lv_has ls 2 [(0, .ref (h 40)), (1, .int v1)] → W p l e { frames := 4, cells := 0, slots := 0, locals := 90 } s m args below meth c H locs 0 0 Q (F0 m 98 ls []) := by
    intro n98
    induction n98 with
    | zero => intro v1 σ H locs ls hF; cases hF
    | succ n98 ih98 =>
      obtain ⟨K98, eK98⟩ : ∃ K, K = fx_loop1 (F_Written_fill_B98) n98 := ⟨_, rfl⟩
      rw [← eK98] at ih98
      intro v1 σ H locs ls hF hw hl
      replace hF : F_Written_fill_B98 (fx_loop1 (F_Written_fill_B98) n98) v1 σ = some res := hF
      rw [← eK98] at hF
      unfold F_Written_fill_B98 at hF
      refine lv_iload_n hx hb d_Written_fill_98 rfl (lv_at hl 1 rfl) ?_
      refine lv_if_lt (tgt := 113) hx hb d_Written_fill_99 (by decide) (fun hc => ?_) (fun hc => ?_)
      · have hF := fx_it hc hF
        refine lv_aload_n hx hb d_Written_fill_113 rfl (lv_at hl 0 rfl) ?_
        refine lv_aload_n hx hb d_Written_fill_114 rfl (lv_at hl 0 rfl) ?_
        refine lv_iconst (v := 0) hx hb d_Written_fill_115 (by decide) ?_
        refine k_Written_widthOf X hw lk_Written_84 d_Written_fill_116 hl.1 (lv_room (Nat.le_of_ble_eq_true rfl)) ⟨Nat.le_of_ble_eq_true rfl, Nat.le_of_ble_eq_true rfl⟩ ⟨Nat.zero_le _, Nat.zero_le _⟩ hF (fun x5 σ H locs hF hw => ?_)
        refine pI_Written_size X hw lk_Written_43 d_Written_fill_119 hF (fun σ H locs hF hw => ?_)
        refine lv_aload_n hx hb d_Written_fill_122 rfl (lv_at hl 0 rfl) ?_
        refine lv_iconst (v := 0) hx hb d_Written_fill_123 (by decide) ?_
        refine lv_iconst (v := 0) hx hb d_Written_fill_124 (by decide) ?_
        refine k_Written_setStart X hw lk_Written_87 d_Written_fill_125 hl.1 (lv_room (Nat.le_of_ble_eq_true rfl)) ⟨Nat.le_of_ble_eq_true rfl, Nat.le_of_ble_eq_true rfl⟩ ⟨Nat.zero_le _, Nat.zero_le _⟩ hF (fun σ H locs hF hw => ?_)
        refine lv_iconst (v := 0) hx hb d_Written_fill_128 (by decide) ?_
        refine lv_istore_n (lv' := [(1, .int 0), (0, .ref (h 40))]) hx hb d_Written_fill_129 rfl hl (by decide) rfl (fun ls hl => ?_)
        exact h130 fx_fuel 0 _ _ _ _ hF hw (lv_sub hl [1, 0] rfl)
      · have hF := fx_if hc hF
        refine lv_aload_n hx hb d_Written_fill_102 rfl (lv_at hl 0 rfl) ?_
        refine lv_iload_n hx hb d_Written_fill_103 rfl (lv_at hl 1 rfl) ?_
        refine k_Written_measure X hw lk_Written_80 d_Written_fill_104 hl.1 (lv_room (Nat.le_of_ble_eq_true rfl)) ⟨Nat.le_of_ble_eq_true rfl, Nat.le_of_ble_eq_true rfl⟩ ⟨Nat.zero_le _, Nat.zero_le _⟩ hF (fun σ H locs hF hw => ?_)
        refine fx_iinc (lv' := fun x8 => [(1, .int x8), (0, .ref (h 40))]) hx hb d_Written_fill_107 hl (k := 1) rfl rfl (by decide) (fun _ => rfl) hF (fun x8 ls hF hl => ?_)
        refine lv_goto (tgt := 98) hx hb d_Written_fill_110 (by decide) ?_
        exact ih98 x8 _ _ _ _ hF hw (lv_sub hl [1, 0] rfl)
  have h31 : ∀ (n31 : Nat) (v1 : Int32) (σ : fx_S) (H : Heap) (locs : List Loc) (ls : Array Slot), fx_loop1 (F_Written_fill_B31) n31 v1 σ = some res → fx_B D fx_cl (fx_ws h cA) A s.heap σ H locs → lv_has ls 2 [(0, .ref (h 40)), (1, .int v1)] → W p l e { frames := 4, cells := 0, slots := 0, locals := 90 } s m args below meth c H locs 0 0 Q (F0 m 31 ls []) := by
    intro n31
    induction n31 with
    | zero => intro v1 σ H locs ls hF; cases hF
    | succ n31 ih31 =>
      obtain ⟨K31, eK31⟩ : ∃ K, K = fx_loop1 (F_Written_fill_B31) n31 := ⟨_, rfl⟩
      rw [← eK31] at ih31
      have h65 : ∀ (v1 : Int32) (t0 : Int32) (t1 : Int32) (t2 : Int32) (σ : fx_S) (H : Heap) (locs : List Loc) (ls : Array Slot), F_Written_fill_J65 K31 v1 t0 t1 t2 σ = some res → fx_B D fx_cl (fx_ws h cA) A s.heap σ H locs → lv_has ls 2 [(0, .ref (h 40)), (1, .int v1)] → W p l e { frames := 4, cells := 0, slots := 0, locals := 90 } s m args below meth c H locs 0 0 Q (F0 m 65 ls [.int t0, .int t1, .int t2, .ref (h 40)]) := by
        intro v1 t0 t1 t2 σ H locs ls hF hw hl
        unfold F_Written_fill_J65 at hF
        refine k_Written_bracketUnlessFit X hw lk_Written_73 d_Written_fill_65 hl.1 (lv_room (Nat.le_of_ble_eq_true rfl)) ⟨Nat.le_of_ble_eq_true rfl, Nat.le_of_ble_eq_true rfl⟩ ⟨Nat.zero_le _, Nat.zero_le _⟩ hF (fun σ H locs hF hw => ?_)
        refine lv_aload_n hx hb d_Written_fill_68 rfl (lv_at hl 0 rfl) ?_
        refine lv_iload_n hx hb d_Written_fill_69 rfl (lv_at hl 1 rfl) ?_
        refine lv_aload_n hx hb d_Written_fill_70 rfl (lv_at hl 0 rfl) ?_
        refine gR_Written_tree X hw lk_Written_35 d_Written_fill_71 ?_
        refine lv_iload_n hx hb d_Written_fill_74 rfl (lv_at hl 1 rfl) ?_
        refine k_Tree0_secondAt X hw lk_Written_77 d_Written_fill_75 hl.1 (lv_room (Nat.le_of_ble_eq_true rfl)) ⟨Nat.le_of_ble_eq_true rfl, Nat.le_of_ble_eq_true rfl⟩ ⟨Nat.zero_le _, Nat.zero_le _⟩ hF (fun x11 σ H locs hF hw => ?_)
        refine lv_iconst (v := 1) hx hb d_Written_fill_78 (by decide) ?_
        refine k_Written_bracketUnlessFit X hw lk_Written_73 d_Written_fill_79 hl.1 (lv_room (Nat.le_of_ble_eq_true rfl)) ⟨Nat.le_of_ble_eq_true rfl, Nat.le_of_ble_eq_true rfl⟩ ⟨Nat.zero_le _, Nat.zero_le _⟩ hF (fun σ H locs hF hw => ?_)
        refine fx_iinc (lv' := fun x12 => [(1, .int x12), (0, .ref (h 40))]) hx hb d_Written_fill_82 hl (k := 1) rfl rfl (by decide) (fun _ => rfl) hF (fun x12 ls hF hl => ?_)
        refine lv_goto (tgt := 31) hx hb d_Written_fill_85 (by decide) ?_
        exact ih31 x12 _ _ _ _ hF hw (lv_sub hl [1, 0] rfl)
      intro v1 σ H locs ls hF hw hl
      replace hF : F_Written_fill_B31 (fx_loop1 (F_Written_fill_B31) n31) v1 σ = some res := hF
      rw [← eK31] at hF
      unfold F_Written_fill_B31 at hF
      refine lv_iload_n hx hb d_Written_fill_31 rfl (lv_at hl 1 rfl) ?_
      refine lv_aload_n hx hb d_Written_fill_32 rfl (lv_at hl 0 rfl) ?_
      refine gR_Written_tree X hw lk_Written_35 d_Written_fill_33 ?_
      refine k_Tree0_size X hw lk_Written_54 d_Written_fill_36 hl.1 (lv_room (Nat.le_of_ble_eq_true rfl)) ⟨Nat.le_of_ble_eq_true rfl, Nat.le_of_ble_eq_true rfl⟩ ⟨Nat.zero_le _, Nat.zero_le _⟩ hF (fun x2 σ H locs hF hw => ?_)
      refine lv_icmp_ge (tgt := 88) hx hb d_Written_fill_39 (by decide) (fun hc => ?_) (fun hc => ?_)
      · have hF := fx_it hc hF
        refine lv_aload_n hx hb d_Written_fill_88 rfl (lv_at hl 0 rfl) ?_
        refine gR_Written_tree X hw lk_Written_35 d_Written_fill_89 ?_
        refine k_Tree0_size X hw lk_Written_54 d_Written_fill_92 hl.1 (lv_room (Nat.le_of_ble_eq_true rfl)) ⟨Nat.le_of_ble_eq_true rfl, Nat.le_of_ble_eq_true rfl⟩ ⟨Nat.zero_le _, Nat.zero_le _⟩ hF (fun x3 σ H locs hF hw => ?_)
        refine lv_iconst (v := 1) hx hb d_Written_fill_95 (by decide) ?_
        refine lv_isub hx hb d_Written_fill_96 ?_
        refine fx_topi hF (fun x4 hF => ?_)
        refine lv_istore_n (lv' := [(1, .int x4), (0, .ref (h 40))]) hx hb d_Written_fill_97 rfl hl (by decide) rfl (fun ls hl => ?_)
        exact h98 fx_fuel x4 _ _ _ _ hF hw (lv_sub hl [1, 0] rfl)
      · have hF := fx_if hc hF
        refine lv_aload_n hx hb d_Written_fill_42 rfl (lv_at hl 0 rfl) ?_
        refine lv_iload_n hx hb d_Written_fill_43 rfl (lv_at hl 1 rfl) ?_
        refine lv_aload_n hx hb d_Written_fill_44 rfl (lv_at hl 0 rfl) ?_
        refine gR_Written_tree X hw lk_Written_35 d_Written_fill_45 ?_
        refine lv_iload_n hx hb d_Written_fill_48 rfl (lv_at hl 1 rfl) ?_
        refine k_Tree0_firstAt X hw lk_Written_66 d_Written_fill_49 hl.1 (lv_room (Nat.le_of_ble_eq_true rfl)) ⟨Nat.le_of_ble_eq_true rfl, Nat.le_of_ble_eq_true rfl⟩ ⟨Nat.zero_le _, Nat.zero_le _⟩ hF (fun x9 σ H locs hF hw => ?_)
        refine lv_aload_n hx hb d_Written_fill_52 rfl (lv_at hl 0 rfl) ?_
        refine lv_iload_n hx hb d_Written_fill_53 rfl (lv_at hl 1 rfl) ?_
        refine k_Written_firstStandsLeft X hw lk_Written_70 d_Written_fill_54 hl.1 (lv_room (Nat.le_of_ble_eq_true rfl)) ⟨Nat.le_of_ble_eq_true rfl, Nat.le_of_ble_eq_true rfl⟩ ⟨Nat.zero_le _, Nat.zero_le _⟩ hF (fun x10 σ H locs hF hw => ?_)
        refine lv_if_eq (tgt := 64) hx hb d_Written_fill_57 (by decide) (fun hc => ?_) (fun hc => ?_)
        · have hF := fx_it hc hF
          refine lv_iconst (v := 1) hx hb d_Written_fill_64 (by decide) ?_
          exact h65 v1 1 x9 v1 _ _ _ _ hF hw (lv_sub hl [0, 1] rfl)
        · have hF := fx_if hc hF
          refine lv_iconst (v := 0) hx hb d_Written_fill_60 (by decide) ?_
          refine lv_goto (tgt := 65) hx hb d_Written_fill_61 (by decide) ?_
          exact h65 v1 0 x9 v1 _ _ _ _ hF hw (lv_sub hl [0, 1] rfl)
  have h2 : ∀ (n2 : Nat) (v1 : Int32) (σ : fx_S) (H : Heap) (locs : List Loc) (ls : Array Slot), fx_loop1 (F_Written_fill_B2) n2 v1 σ = some res → fx_B D fx_cl (fx_ws h cA) A s.heap σ H locs → lv_has ls 2 [(0, .ref (h 40)), (1, .int v1)] → W p l e { frames := 4, cells := 0, slots := 0, locals := 90 } s m args below meth c H locs 0 0 Q (F0 m 2 ls []) := by
    intro n2
    induction n2 with
    | zero => intro v1 σ H locs ls hF; cases hF
    | succ n2 ih2 =>
      obtain ⟨K2, eK2⟩ : ∃ K, K = fx_loop1 (F_Written_fill_B2) n2 := ⟨_, rfl⟩
      rw [← eK2] at ih2
      intro v1 σ H locs ls hF hw hl
      replace hF : F_Written_fill_B2 (fx_loop1 (F_Written_fill_B2) n2) v1 σ = some res := hF
      rw [← eK2] at hF
      unfold F_Written_fill_B2 at hF
      refine lv_iload_n hx hb d_Written_fill_2 rfl (lv_at hl 1 rfl) ?_
      refine lv_aload_n hx hb d_Written_fill_3 rfl (lv_at hl 0 rfl) ?_
      refine gR_Written_tree X hw lk_Written_35 d_Written_fill_4 ?_
      refine k_Tree0_size X hw lk_Written_54 d_Written_fill_7 hl.1 (lv_room (Nat.le_of_ble_eq_true rfl)) ⟨Nat.le_of_ble_eq_true rfl, Nat.le_of_ble_eq_true rfl⟩ ⟨Nat.zero_le _, Nat.zero_le _⟩ hF (fun x1 σ H locs hF hw => ?_)
      refine lv_icmp_ge (tgt := 29) hx hb d_Written_fill_10 (by decide) (fun hc => ?_) (fun hc => ?_)
      · have hF := fx_it hc hF
        refine lv_iconst (v := 0) hx hb d_Written_fill_29 (by decide) ?_
        refine lv_istore_n (lv' := [(1, .int 0), (0, .ref (h 40))]) hx hb d_Written_fill_30 rfl hl (by decide) rfl (fun ls hl => ?_)
        exact h31 fx_fuel 0 _ _ _ _ hF hw (lv_sub hl [1, 0] rfl)
      · have hF := fx_if hc hF
        refine lv_aload_n hx hb d_Written_fill_13 rfl (lv_at hl 0 rfl) ?_
        refine lv_iload_n hx hb d_Written_fill_14 rfl (lv_at hl 1 rfl) ?_
        refine lv_aload_n hx hb d_Written_fill_15 rfl (lv_at hl 0 rfl) ?_
        refine lv_iload_n hx hb d_Written_fill_16 rfl (lv_at hl 1 rfl) ?_
        refine k_Written_isSection X hw lk_Written_59 d_Written_fill_17 hl.1 (lv_room (Nat.le_of_ble_eq_true rfl)) ⟨Nat.le_of_ble_eq_true rfl, Nat.le_of_ble_eq_true rfl⟩ ⟨Nat.zero_le _, Nat.zero_le _⟩ hF (fun x13 σ H locs hF hw => ?_)
        refine k_Written_setBrackets X hw lk_Written_62 d_Written_fill_20 hl.1 (lv_room (Nat.le_of_ble_eq_true rfl)) ⟨Nat.le_of_ble_eq_true rfl, Nat.le_of_ble_eq_true rfl⟩ ⟨Nat.zero_le _, Nat.zero_le _⟩ hF (fun σ H locs hF hw => ?_)
        refine fx_iinc (lv' := fun x14 => [(1, .int x14), (0, .ref (h 40))]) hx hb d_Written_fill_23 hl (k := 1) rfl rfl (by decide) (fun _ => rfl) hF (fun x14 ls hF hl => ?_)
        refine lv_goto (tgt := 2) hx hb d_Written_fill_26 (by decide) ?_
        exact ih2 x14 _ _ _ _ hF hw (lv_sub hl [1, 0] rfl)
  refine lv_iconst (v := 0) hx hb d_Written_fill_0 (by decide) ?_
  refine lv_istore_n (lv' := [(1, .int 0), (0, .ref (h 40))]) hx hb d_Written_fill_1 rfl hl (by decide) rfl (fun ls hl => ?_)
  exact h2 fx_fuel 0 _ _ _ _ hF hw (lv_sub hl [1, 0] rfl)
section
variable {p : Program} {l : Launch} {e : Env} {R : Room} {s : State} {m : MethodId} {args : Array Value} {below : List Frame} {meth : Method} {c : Code} {H : Heap} {locs : List Loc} {cells slots : Nat} {Q : State → Prop}
variable {cc : ByteArray} {pc nL ix : Nat} {ls : Array Slot} {rest : List Value} {own : String} {D : va_G} {A : Nat → Prop} {h : Nat → Nat} {cA : Nat → ClassId} {σ : fx_S} {β : Type} {res : β × fx_S}
theorem k_Written_fill (X : fx_X p m c cc nL s args own D fx_cl (fx_tys cA) fx_g fx_G A) (hw : fx_B D fx_cl (fx_ws h cA) A s.heap σ H locs) (lk : Cond.methodLink own ix y_Written_fill ∈ fx_g) (hdg : decode cc pc = .ok (.invokevirtual ix, 3)) (hsize : ls.size = nL) (hW : 2 * (F0 m pc ls (.ref (h 40) :: rest)).monitorRoom + (rest.map fun v => v.category).sum ≤ 8) (hR : 4 + 1 ≤ R.frames ∧ 8 + (2 + 11) + 90 ≤ R.locals) (hf : cells ≤ R.cells ∧ slots ≤ R.slots) {k : Unit → fx_M β} (hF : fx_bnd (F_Written_fill) k σ = some res) (kk : ∀ (σ' : fx_S) (H' : Heap) (locs' : List Loc), k () σ' = some res → fx_B D fx_cl (fx_ws h cA) A s.heap σ' H' locs' → W p l e R s m args below meth c H' locs' cells slots Q (F0 m (pc + 3) ls rest)) : W p l e R s m args below meth c H locs cells slots Q (F0 m pc ls (.ref (h 40) :: rest)) :=
  fx_call_v X hw (c_Written_fill l D h cA) (fx_cwV X lk hg_Written_fill fx_gok (rm := { frames := 4, cells := 0, slots := 0, locals := 90 }) rfl rfl (by decide +kernel) hR) (va_recv X.2.1 hw.1 (ci := 7) (q0 := 40) rfl rfl) (n := 0) rfl hdg hsize rfl hW hf hF kk
end
set_option maxHeartbeats 4000000 in
set_option maxRecDepth 100000 in
theorem c_Written_size (l : Launch) (D : va_G) (h : Nat → Nat) (cA : Nat → ClassId) : fx_Mi l y_Written_size b_Written_size 1 (some .int) { frames := 0, cells := 0, slots := 0, locals := 0 } D fx_cl (fx_tys cA) fx_g fx_G (fx_ws h cA) [.ref (h 40)] (F_Written_size) := by
  refine fx_start_i fx_G_ok (by decide) (Nat.le_of_ble_eq_true rfl) ?_
  intro p e s m args below meth c A ls σ res Q hF X hw hl hend
  have hx := X.1.1
  have hb := X.1.2.1
  have hl : lv_has ls 1 [(0, .ref (h 40))] := hl
  unfold F_Written_size at hF
  refine lv_aload_n hx hb d_Written_size_0 rfl (lv_at hl 0 rfl) ?_
  refine gI_Written_size X hw lk_Written_43 d_Written_size_1 hF (fun x1 hF => ?_)
  exact hend _ _ _ _ _ _ d_Written_size_4 hF hw
section
variable {p : Program} {l : Launch} {e : Env} {R : Room} {s : State} {m : MethodId} {args : Array Value} {below : List Frame} {meth : Method} {c : Code} {H : Heap} {locs : List Loc} {cells slots : Nat} {Q : State → Prop}
variable {cc : ByteArray} {pc nL ix : Nat} {ls : Array Slot} {rest : List Value} {own : String} {D : va_G} {A : Nat → Prop} {h : Nat → Nat} {cA : Nat → ClassId} {σ : fx_S} {β : Type} {res : β × fx_S}
theorem k_Written_size (X : fx_X p m c cc nL s args own D fx_cl (fx_tys cA) fx_g fx_G A) (hw : fx_B D fx_cl (fx_ws h cA) A s.heap σ H locs) (lk : Cond.methodLink own ix y_Written_size ∈ fx_g) (hdg : decode cc pc = .ok (.invokevirtual ix, 3)) (hsize : ls.size = nL) (hW : 2 * (F0 m pc ls (.ref (h 40) :: rest)).monitorRoom + (rest.map fun v => v.category).sum ≤ 8) (hR : 0 + 1 ≤ R.frames ∧ 8 + (1 + 11) + 0 ≤ R.locals) (hf : cells ≤ R.cells ∧ slots ≤ R.slots) {k : Int32 → fx_M β} (hF : fx_bnd (F_Written_size) k σ = some res) (kk : ∀ (r : Int32) (σ' : fx_S) (H' : Heap) (locs' : List Loc), k r σ' = some res → fx_B D fx_cl (fx_ws h cA) A s.heap σ' H' locs' → W p l e R s m args below meth c H' locs' cells slots Q (F0 m (pc + 3) ls (.int r :: rest))) : W p l e R s m args below meth c H locs cells slots Q (F0 m pc ls (.ref (h 40) :: rest)) :=
  fx_call_i X hw (c_Written_size l D h cA) (fx_cwV X lk hg_Written_size fx_gok (rm := { frames := 0, cells := 0, slots := 0, locals := 0 }) rfl rfl (by decide +kernel) hR) (va_recv X.2.1 hw.1 (ci := 7) (q0 := 40) rfl rfl) (n := 0) rfl hdg hsize rfl hW hf hF kk
end
set_option maxHeartbeats 4000000 in
set_option maxRecDepth 100000 in
theorem c_Written_operatorAt (l : Launch) (D : va_G) (h : Nat → Nat) (cA : Nat → ClassId) (v1 : Int32) : fx_Mi l y_Written_operatorAt b_Written_operatorAt 2 (some .int) { frames := 1, cells := 0, slots := 0, locals := 21 } D fx_cl (fx_tys cA) fx_g fx_G (fx_ws h cA) [.ref (h 40), .int v1] (F_Written_operatorAt v1) := by
  refine fx_start_i fx_G_ok (by decide) (Nat.le_of_ble_eq_true rfl) ?_
  intro p e s m args below meth c A ls σ res Q hF X hw hl hend
  have hx := X.1.1
  have hb := X.1.2.1
  have hl : lv_has ls 2 [(0, .ref (h 40)), (1, .int v1)] := hl
  unfold F_Written_operatorAt at hF
  refine lv_aload_n hx hb d_Written_operatorAt_0 rfl (lv_at hl 0 rfl) ?_
  refine lv_iload_n hx hb d_Written_operatorAt_1 rfl (lv_at hl 1 rfl) ?_
  refine k_Written_has X hw lk_Written_50 d_Written_operatorAt_2 hl.1 (lv_room (Nat.le_of_ble_eq_true rfl)) ⟨Nat.le_of_ble_eq_true rfl, Nat.le_of_ble_eq_true rfl⟩ ⟨Nat.zero_le _, Nat.zero_le _⟩ hF (fun x1 σ H locs hF hw => ?_)
  refine lv_if_eq (tgt := 17) hx hb d_Written_operatorAt_5 (by decide) (fun hc => ?_) (fun hc => ?_)
  · have hF := fx_it hc hF
    refine lv_iconst (v := (-1)) hx hb d_Written_operatorAt_17 (by decide) ?_
    exact hend _ _ _ _ _ _ d_Written_operatorAt_18 hF hw
  · have hF := fx_if hc hF
    refine lv_aload_n hx hb d_Written_operatorAt_8 rfl (lv_at hl 0 rfl) ?_
    refine gR_Written_operators X hw lk_Written_15 d_Written_operatorAt_9 ?_
    refine lv_iload_n hx hb d_Written_operatorAt_12 rfl (lv_at hl 1 rfl) ?_
    refine lA_Written_operators X hw d_Written_operatorAt_13 hF (fun x2 hF => ?_)
    refine lv_goto (tgt := 18) hx hb d_Written_operatorAt_14 (by decide) ?_
    exact hend _ _ _ _ _ _ d_Written_operatorAt_18 hF hw
section
variable {p : Program} {l : Launch} {e : Env} {R : Room} {s : State} {m : MethodId} {args : Array Value} {below : List Frame} {meth : Method} {c : Code} {H : Heap} {locs : List Loc} {cells slots : Nat} {Q : State → Prop}
variable {cc : ByteArray} {pc nL ix : Nat} {ls : Array Slot} {rest : List Value} {own : String} {D : va_G} {A : Nat → Prop} {h : Nat → Nat} {cA : Nat → ClassId} {σ : fx_S} {β : Type} {res : β × fx_S}
theorem k_Written_operatorAt {v1 : Int32} (X : fx_X p m c cc nL s args own D fx_cl (fx_tys cA) fx_g fx_G A) (hw : fx_B D fx_cl (fx_ws h cA) A s.heap σ H locs) (lk : Cond.methodLink own ix y_Written_operatorAt ∈ fx_g) (hdg : decode cc pc = .ok (.invokevirtual ix, 3)) (hsize : ls.size = nL) (hW : 2 * (F0 m pc ls (.int v1 :: .ref (h 40) :: rest)).monitorRoom + (rest.map fun v => v.category).sum ≤ 8) (hR : 1 + 1 ≤ R.frames ∧ 8 + (2 + 11) + 21 ≤ R.locals) (hf : cells ≤ R.cells ∧ slots ≤ R.slots) {k : Int32 → fx_M β} (hF : fx_bnd (F_Written_operatorAt v1) k σ = some res) (kk : ∀ (r : Int32) (σ' : fx_S) (H' : Heap) (locs' : List Loc), k r σ' = some res → fx_B D fx_cl (fx_ws h cA) A s.heap σ' H' locs' → W p l e R s m args below meth c H' locs' cells slots Q (F0 m (pc + 3) ls (.int r :: rest))) : W p l e R s m args below meth c H locs cells slots Q (F0 m pc ls (.int v1 :: .ref (h 40) :: rest)) :=
  fx_call_i X hw (c_Written_operatorAt l D h cA v1) (fx_cwV X lk hg_Written_operatorAt fx_gok (rm := { frames := 1, cells := 0, slots := 0, locals := 21 }) rfl rfl (by decide +kernel) hR) (va_recv X.2.1 hw.1 (ci := 7) (q0 := 40) rfl rfl) (n := 1) rfl hdg hsize rfl hW hf hF kk
end
set_option maxHeartbeats 4000000 in
set_option maxRecDepth 100000 in
theorem c_Written_nodeAt (l : Launch) (D : va_G) (h : Nat → Nat) (cA : Nat → ClassId) (v1 : Int32) : fx_Mi l y_Written_nodeAt b_Written_nodeAt 2 (some .int) { frames := 1, cells := 0, slots := 0, locals := 21 } D fx_cl (fx_tys cA) fx_g fx_G (fx_ws h cA) [.ref (h 40), .int v1] (F_Written_nodeAt v1) := by
  refine fx_start_i fx_G_ok (by decide) (Nat.le_of_ble_eq_true rfl) ?_
  intro p e s m args below meth c A ls σ res Q hF X hw hl hend
  have hx := X.1.1
  have hb := X.1.2.1
  have hl : lv_has ls 2 [(0, .ref (h 40)), (1, .int v1)] := hl
  unfold F_Written_nodeAt at hF
  refine lv_aload_n hx hb d_Written_nodeAt_0 rfl (lv_at hl 0 rfl) ?_
  refine lv_iload_n hx hb d_Written_nodeAt_1 rfl (lv_at hl 1 rfl) ?_
  refine k_Written_has X hw lk_Written_50 d_Written_nodeAt_2 hl.1 (lv_room (Nat.le_of_ble_eq_true rfl)) ⟨Nat.le_of_ble_eq_true rfl, Nat.le_of_ble_eq_true rfl⟩ ⟨Nat.zero_le _, Nat.zero_le _⟩ hF (fun x1 σ H locs hF hw => ?_)
  refine lv_if_eq (tgt := 17) hx hb d_Written_nodeAt_5 (by decide) (fun hc => ?_) (fun hc => ?_)
  · have hF := fx_it hc hF
    refine lv_iconst (v := (-1)) hx hb d_Written_nodeAt_17 (by decide) ?_
    exact hend _ _ _ _ _ _ d_Written_nodeAt_18 hF hw
  · have hF := fx_if hc hF
    refine lv_aload_n hx hb d_Written_nodeAt_8 rfl (lv_at hl 0 rfl) ?_
    refine gR_Written_nodes X hw lk_Written_18 d_Written_nodeAt_9 ?_
    refine lv_iload_n hx hb d_Written_nodeAt_12 rfl (lv_at hl 1 rfl) ?_
    refine lA_Written_nodes X hw d_Written_nodeAt_13 hF (fun x2 hF => ?_)
    refine lv_goto (tgt := 18) hx hb d_Written_nodeAt_14 (by decide) ?_
    exact hend _ _ _ _ _ _ d_Written_nodeAt_18 hF hw
section
variable {p : Program} {l : Launch} {e : Env} {R : Room} {s : State} {m : MethodId} {args : Array Value} {below : List Frame} {meth : Method} {c : Code} {H : Heap} {locs : List Loc} {cells slots : Nat} {Q : State → Prop}
variable {cc : ByteArray} {pc nL ix : Nat} {ls : Array Slot} {rest : List Value} {own : String} {D : va_G} {A : Nat → Prop} {h : Nat → Nat} {cA : Nat → ClassId} {σ : fx_S} {β : Type} {res : β × fx_S}
theorem k_Written_nodeAt {v1 : Int32} (X : fx_X p m c cc nL s args own D fx_cl (fx_tys cA) fx_g fx_G A) (hw : fx_B D fx_cl (fx_ws h cA) A s.heap σ H locs) (lk : Cond.methodLink own ix y_Written_nodeAt ∈ fx_g) (hdg : decode cc pc = .ok (.invokevirtual ix, 3)) (hsize : ls.size = nL) (hW : 2 * (F0 m pc ls (.int v1 :: .ref (h 40) :: rest)).monitorRoom + (rest.map fun v => v.category).sum ≤ 8) (hR : 1 + 1 ≤ R.frames ∧ 8 + (2 + 11) + 21 ≤ R.locals) (hf : cells ≤ R.cells ∧ slots ≤ R.slots) {k : Int32 → fx_M β} (hF : fx_bnd (F_Written_nodeAt v1) k σ = some res) (kk : ∀ (r : Int32) (σ' : fx_S) (H' : Heap) (locs' : List Loc), k r σ' = some res → fx_B D fx_cl (fx_ws h cA) A s.heap σ' H' locs' → W p l e R s m args below meth c H' locs' cells slots Q (F0 m (pc + 3) ls (.int r :: rest))) : W p l e R s m args below meth c H locs cells slots Q (F0 m pc ls (.int v1 :: .ref (h 40) :: rest)) :=
  fx_call_i X hw (c_Written_nodeAt l D h cA v1) (fx_cwV X lk hg_Written_nodeAt fx_gok (rm := { frames := 1, cells := 0, slots := 0, locals := 21 }) rfl rfl (by decide +kernel) hR) (va_recv X.2.1 hw.1 (ci := 7) (q0 := 40) rfl rfl) (n := 1) rfl hdg hsize rfl hW hf hF kk
end
set_option maxHeartbeats 4000000 in
set_option maxRecDepth 100000 in
theorem c_Written_mostOpen (l : Launch) (D : va_G) (h : Nat → Nat) (cA : Nat → ClassId) : fx_Mi l y_Written_mostOpen b_Written_mostOpen 1 (some .int) { frames := 0, cells := 0, slots := 0, locals := 0 } D fx_cl (fx_tys cA) fx_g fx_G (fx_ws h cA) [.ref (h 40)] (F_Written_mostOpen) := by
  refine fx_start_i fx_G_ok (by decide) (Nat.le_of_ble_eq_true rfl) ?_
  intro p e s m args below meth c A ls σ res Q hF X hw hl hend
  have hx := X.1.1
  have hb := X.1.2.1
  have hl : lv_has ls 1 [(0, .ref (h 40))] := hl
  unfold F_Written_mostOpen at hF
  refine lv_aload_n hx hb d_Written_mostOpen_0 rfl (lv_at hl 0 rfl) ?_
  refine gI_Written_mostOpen X hw lk_Written_47 d_Written_mostOpen_1 hF (fun x1 hF => ?_)
  exact hend _ _ _ _ _ _ d_Written_mostOpen_4 hF hw
section
variable {p : Program} {l : Launch} {e : Env} {R : Room} {s : State} {m : MethodId} {args : Array Value} {below : List Frame} {meth : Method} {c : Code} {H : Heap} {locs : List Loc} {cells slots : Nat} {Q : State → Prop}
variable {cc : ByteArray} {pc nL ix : Nat} {ls : Array Slot} {rest : List Value} {own : String} {D : va_G} {A : Nat → Prop} {h : Nat → Nat} {cA : Nat → ClassId} {σ : fx_S} {β : Type} {res : β × fx_S}
theorem k_Written_mostOpen (X : fx_X p m c cc nL s args own D fx_cl (fx_tys cA) fx_g fx_G A) (hw : fx_B D fx_cl (fx_ws h cA) A s.heap σ H locs) (lk : Cond.methodLink own ix y_Written_mostOpen ∈ fx_g) (hdg : decode cc pc = .ok (.invokevirtual ix, 3)) (hsize : ls.size = nL) (hW : 2 * (F0 m pc ls (.ref (h 40) :: rest)).monitorRoom + (rest.map fun v => v.category).sum ≤ 8) (hR : 0 + 1 ≤ R.frames ∧ 8 + (1 + 11) + 0 ≤ R.locals) (hf : cells ≤ R.cells ∧ slots ≤ R.slots) {k : Int32 → fx_M β} (hF : fx_bnd (F_Written_mostOpen) k σ = some res) (kk : ∀ (r : Int32) (σ' : fx_S) (H' : Heap) (locs' : List Loc), k r σ' = some res → fx_B D fx_cl (fx_ws h cA) A s.heap σ' H' locs' → W p l e R s m args below meth c H' locs' cells slots Q (F0 m (pc + 3) ls (.int r :: rest))) : W p l e R s m args below meth c H locs cells slots Q (F0 m pc ls (.ref (h 40) :: rest)) :=
  fx_call_i X hw (c_Written_mostOpen l D h cA) (fx_cwV X lk hg_Written_mostOpen fx_gok (rm := { frames := 0, cells := 0, slots := 0, locals := 0 }) rfl rfl (by decide +kernel) hR) (va_recv X.2.1 hw.1 (ci := 7) (q0 := 40) rfl rfl) (n := 0) rfl hdg hsize rfl hW hf hF kk
end
set_option maxHeartbeats 4000000 in
set_option maxRecDepth 100000 in
theorem c_Written_numberAt (l : Launch) (D : va_G) (h : Nat → Nat) (cA : Nat → ClassId) (v1 : Int32) : fx_Ml l y_Written_numberAt b_Written_numberAt 2 (some .long) { frames := 1, cells := 0, slots := 0, locals := 21 } D fx_cl (fx_tys cA) fx_g fx_G (fx_ws h cA) [.ref (h 40), .int v1] (F_Written_numberAt v1) := by
  refine fx_start_l fx_G_ok (by decide) (Nat.le_of_ble_eq_true rfl) ?_
  intro p e s m args below meth c A ls σ res Q hF X hw hl hend
  have hx := X.1.1
  have hb := X.1.2.1
  have hl : lv_has ls 2 [(0, .ref (h 40)), (1, .int v1)] := hl
  unfold F_Written_numberAt at hF
  refine lv_aload_n hx hb d_Written_numberAt_0 rfl (lv_at hl 0 rfl) ?_
  refine lv_iload_n hx hb d_Written_numberAt_1 rfl (lv_at hl 1 rfl) ?_
  refine k_Written_has X hw lk_Written_50 d_Written_numberAt_2 hl.1 (lv_room (Nat.le_of_ble_eq_true rfl)) ⟨Nat.le_of_ble_eq_true rfl, Nat.le_of_ble_eq_true rfl⟩ ⟨Nat.zero_le _, Nat.zero_le _⟩ hF (fun x1 σ H locs hF hw => ?_)
  refine lv_if_eq (tgt := 17) hx hb d_Written_numberAt_5 (by decide) (fun hc => ?_) (fun hc => ?_)
  · have hF := fx_it hc hF
    refine lv_lconst (v := 0) hx hb d_Written_numberAt_17 (by decide) ?_
    exact hend _ _ _ _ _ _ d_Written_numberAt_18 hF hw
  · have hF := fx_if hc hF
    refine lv_aload_n hx hb d_Written_numberAt_8 rfl (lv_at hl 0 rfl) ?_
    refine gR_Written_numbers X hw lk_Written_21 d_Written_numberAt_9 ?_
    refine lv_iload_n hx hb d_Written_numberAt_12 rfl (lv_at hl 1 rfl) ?_
    refine lA_Written_numbers X hw d_Written_numberAt_13 hF (fun x2 hF => ?_)
    refine lv_goto (tgt := 18) hx hb d_Written_numberAt_14 (by decide) ?_
    exact hend _ _ _ _ _ _ d_Written_numberAt_18 hF hw
section
variable {p : Program} {l : Launch} {e : Env} {R : Room} {s : State} {m : MethodId} {args : Array Value} {below : List Frame} {meth : Method} {c : Code} {H : Heap} {locs : List Loc} {cells slots : Nat} {Q : State → Prop}
variable {cc : ByteArray} {pc nL ix : Nat} {ls : Array Slot} {rest : List Value} {own : String} {D : va_G} {A : Nat → Prop} {h : Nat → Nat} {cA : Nat → ClassId} {σ : fx_S} {β : Type} {res : β × fx_S}
theorem k_Written_numberAt {v1 : Int32} (X : fx_X p m c cc nL s args own D fx_cl (fx_tys cA) fx_g fx_G A) (hw : fx_B D fx_cl (fx_ws h cA) A s.heap σ H locs) (lk : Cond.methodLink own ix y_Written_numberAt ∈ fx_g) (hdg : decode cc pc = .ok (.invokevirtual ix, 3)) (hsize : ls.size = nL) (hW : 2 * (F0 m pc ls (.int v1 :: .ref (h 40) :: rest)).monitorRoom + (rest.map fun v => v.category).sum ≤ 8) (hR : 1 + 1 ≤ R.frames ∧ 8 + (2 + 11) + 21 ≤ R.locals) (hf : cells ≤ R.cells ∧ slots ≤ R.slots) {k : Int64 → fx_M β} (hF : fx_bnd (F_Written_numberAt v1) k σ = some res) (kk : ∀ (r : Int64) (σ' : fx_S) (H' : Heap) (locs' : List Loc), k r σ' = some res → fx_B D fx_cl (fx_ws h cA) A s.heap σ' H' locs' → W p l e R s m args below meth c H' locs' cells slots Q (F0 m (pc + 3) ls (.long r :: rest))) : W p l e R s m args below meth c H locs cells slots Q (F0 m pc ls (.int v1 :: .ref (h 40) :: rest)) :=
  fx_call_l X hw (c_Written_numberAt l D h cA v1) (fx_cwV X lk hg_Written_numberAt fx_gok (rm := { frames := 1, cells := 0, slots := 0, locals := 21 }) rfl rfl (by decide +kernel) hR) (va_recv X.2.1 hw.1 (ci := 7) (q0 := 40) rfl rfl) (n := 1) rfl hdg hsize rfl hW hf hF kk
end
set_option maxHeartbeats 4000000 in
set_option maxRecDepth 100000 in
theorem c_Tree1_clear (l : Launch) (D : va_G) (h : Nat → Nat) (cA : Nat → ClassId) : fx_Mv l y_Tree_clear b_Tree_clear 1 none { frames := 0, cells := 0, slots := 0, locals := 0 } D fx_cl (fx_tys cA) fx_g fx_G (fx_ws h cA) [.ref (h 33)] (F_Tree1_clear) := by
  refine fx_start_v fx_G_ok (by decide) (Nat.le_of_ble_eq_true rfl) ?_
  intro p e s m args below meth c A ls σ res Q hF X hw hl hend
  have hx := X.1.1
  have hb := X.1.2.1
  have hl : lv_has ls 1 [(0, .ref (h 33))] := hl
  unfold F_Tree1_clear at hF
  refine lv_aload_n hx hb d_Tree_clear_0 rfl (lv_at hl 0 rfl) ?_
  refine lv_iconst (v := 0) hx hb d_Tree_clear_1 (by decide) ?_
  refine pI_Tree1_size X hw lk_Tree_31 d_Tree_clear_2 hF (fun σ H locs hF hw => ?_)
  refine lv_aload_n hx hb d_Tree_clear_5 rfl (lv_at hl 0 rfl) ?_
  refine lv_iconst (v := 0) hx hb d_Tree_clear_6 (by decide) ?_
  refine pI_Tree1_height X hw lk_Tree_35 d_Tree_clear_7 hF (fun σ H locs hF hw => ?_)
  exact hend _ _ _ _ _ d_Tree_clear_10 hF hw
section
variable {p : Program} {l : Launch} {e : Env} {R : Room} {s : State} {m : MethodId} {args : Array Value} {below : List Frame} {meth : Method} {c : Code} {H : Heap} {locs : List Loc} {cells slots : Nat} {Q : State → Prop}
variable {cc : ByteArray} {pc nL ix : Nat} {ls : Array Slot} {rest : List Value} {own : String} {D : va_G} {A : Nat → Prop} {h : Nat → Nat} {cA : Nat → ClassId} {σ : fx_S} {β : Type} {res : β × fx_S}
theorem k_Tree1_clear (X : fx_X p m c cc nL s args own D fx_cl (fx_tys cA) fx_g fx_G A) (hw : fx_B D fx_cl (fx_ws h cA) A s.heap σ H locs) (lk : Cond.methodLink own ix y_Tree_clear ∈ fx_g) (hdg : decode cc pc = .ok (.invokevirtual ix, 3)) (hsize : ls.size = nL) (hW : 2 * (F0 m pc ls (.ref (h 33) :: rest)).monitorRoom + (rest.map fun v => v.category).sum ≤ 8) (hR : 0 + 1 ≤ R.frames ∧ 8 + (1 + 11) + 0 ≤ R.locals) (hf : cells ≤ R.cells ∧ slots ≤ R.slots) {k : Unit → fx_M β} (hF : fx_bnd (F_Tree1_clear) k σ = some res) (kk : ∀ (σ' : fx_S) (H' : Heap) (locs' : List Loc), k () σ' = some res → fx_B D fx_cl (fx_ws h cA) A s.heap σ' H' locs' → W p l e R s m args below meth c H' locs' cells slots Q (F0 m (pc + 3) ls rest)) : W p l e R s m args below meth c H locs cells slots Q (F0 m pc ls (.ref (h 33) :: rest)) :=
  fx_call_v X hw (c_Tree1_clear l D h cA) (fx_cwV X lk hg_Tree_clear fx_gok (rm := { frames := 0, cells := 0, slots := 0, locals := 0 }) rfl rfl (by decide +kernel) hR) (va_recv X.2.1 hw.1 (ci := 6) (q0 := 33) rfl rfl) (n := 0) rfl hdg hsize rfl hW hf hF kk
end
set_option maxHeartbeats 4000000 in
set_option maxRecDepth 100000 in
theorem c_Tree1_setHeight (l : Launch) (D : va_G) (h : Nat → Nat) (cA : Nat → ClassId) (v1 : Int32) : fx_Mv l y_Tree_setHeight b_Tree_setHeight 2 none { frames := 0, cells := 0, slots := 0, locals := 0 } D fx_cl (fx_tys cA) fx_g fx_G (fx_ws h cA) [.ref (h 33), .int v1] (F_Tree1_setHeight v1) := by
  refine fx_start_v fx_G_ok (by decide) (Nat.le_of_ble_eq_true rfl) ?_
  intro p e s m args below meth c A ls σ res Q hF X hw hl hend
  have hx := X.1.1
  have hb := X.1.2.1
  have hl : lv_has ls 2 [(0, .ref (h 33)), (1, .int v1)] := hl
  unfold F_Tree1_setHeight at hF
  refine lv_aload_n hx hb d_Tree_setHeight_0 rfl (lv_at hl 0 rfl) ?_
  refine lv_iload_n hx hb d_Tree_setHeight_1 rfl (lv_at hl 1 rfl) ?_
  refine pI_Tree1_height X hw lk_Tree_35 d_Tree_setHeight_2 hF (fun σ H locs hF hw => ?_)
  exact hend _ _ _ _ _ d_Tree_setHeight_5 hF hw
section
variable {p : Program} {l : Launch} {e : Env} {R : Room} {s : State} {m : MethodId} {args : Array Value} {below : List Frame} {meth : Method} {c : Code} {H : Heap} {locs : List Loc} {cells slots : Nat} {Q : State → Prop}
variable {cc : ByteArray} {pc nL ix : Nat} {ls : Array Slot} {rest : List Value} {own : String} {D : va_G} {A : Nat → Prop} {h : Nat → Nat} {cA : Nat → ClassId} {σ : fx_S} {β : Type} {res : β × fx_S}
theorem k_Tree1_setHeight {v1 : Int32} (X : fx_X p m c cc nL s args own D fx_cl (fx_tys cA) fx_g fx_G A) (hw : fx_B D fx_cl (fx_ws h cA) A s.heap σ H locs) (lk : Cond.methodLink own ix y_Tree_setHeight ∈ fx_g) (hdg : decode cc pc = .ok (.invokevirtual ix, 3)) (hsize : ls.size = nL) (hW : 2 * (F0 m pc ls (.int v1 :: .ref (h 33) :: rest)).monitorRoom + (rest.map fun v => v.category).sum ≤ 8) (hR : 0 + 1 ≤ R.frames ∧ 8 + (2 + 11) + 0 ≤ R.locals) (hf : cells ≤ R.cells ∧ slots ≤ R.slots) {k : Unit → fx_M β} (hF : fx_bnd (F_Tree1_setHeight v1) k σ = some res) (kk : ∀ (σ' : fx_S) (H' : Heap) (locs' : List Loc), k () σ' = some res → fx_B D fx_cl (fx_ws h cA) A s.heap σ' H' locs' → W p l e R s m args below meth c H' locs' cells slots Q (F0 m (pc + 3) ls rest)) : W p l e R s m args below meth c H locs cells slots Q (F0 m pc ls (.int v1 :: .ref (h 33) :: rest)) :=
  fx_call_v X hw (c_Tree1_setHeight l D h cA v1) (fx_cwV X lk hg_Tree_setHeight fx_gok (rm := { frames := 0, cells := 0, slots := 0, locals := 0 }) rfl rfl (by decide +kernel) hR) (va_recv X.2.1 hw.1 (ci := 6) (q0 := 33) rfl rfl) (n := 1) rfl hdg hsize rfl hW hf hF kk
end
set_option maxHeartbeats 4000000 in
set_option maxRecDepth 100000 in
theorem c_Tree1_add (l : Launch) (D : va_G) (h : Nat → Nat) (cA : Nat → ClassId) (v1 : Int32) (v2 : Int32) (v3 : Int64) (v5 : Int32) : fx_Mv l y_Tree_add b_Tree_add 6 none { frames := 0, cells := 0, slots := 0, locals := 0 } D fx_cl (fx_tys cA) fx_g fx_G (fx_ws h cA) [.ref (h 33), .int v1, .int v2, .long v3, .int v5] (F_Tree1_add v1 v2 v3 v5) := by
  refine fx_start_v fx_G_ok (by decide) (Nat.le_of_ble_eq_true rfl) ?_
  intro p e s m args below meth c A ls σ res Q hF X hw hl hend
  have hx := X.1.1
  have hb := X.1.2.1
  have hl : lv_has ls 6 [(0, .ref (h 33)), (1, .int v1), (2, .int v2), (3, .long v3), (5, .int v5)] := hl
  unfold F_Tree1_add at hF
  refine lv_aload_n hx hb d_Tree_add_0 rfl (lv_at hl 0 rfl) ?_
  refine gI_Tree1_size X hw lk_Tree_31 d_Tree_add_1 hF (fun x1 hF => ?_)
  refine lv_sipush (v := 200) hx hb d_Tree_add_4 (by decide) ?_
  refine lv_icmp_ge (tgt := 81) hx hb d_Tree_add_7 (by decide) (fun hc => ?_) (fun hc => ?_)
  · have hF := fx_it hc hF
    exact hend _ _ _ _ _ d_Tree_add_81 hF hw
  · have hF := fx_if hc hF
    refine lv_aload_n hx hb d_Tree_add_10 rfl (lv_at hl 0 rfl) ?_
    refine gR_Tree1_kinds X hw lk_Tree_9 d_Tree_add_11 ?_
    refine lv_aload_n hx hb d_Tree_add_14 rfl (lv_at hl 0 rfl) ?_
    refine gI_Tree1_size X hw lk_Tree_31 d_Tree_add_15 hF (fun x2 hF => ?_)
    refine lv_iload_n hx hb d_Tree_add_18 rfl (lv_at hl 1 rfl) ?_
    refine sA_Tree1_kinds X hw d_Tree_add_19 hF (fun σ H locs hF hw => ?_)
    refine lv_aload_n hx hb d_Tree_add_20 rfl (lv_at hl 0 rfl) ?_
    refine gR_Tree1_operators X hw lk_Tree_15 d_Tree_add_21 ?_
    refine lv_aload_n hx hb d_Tree_add_24 rfl (lv_at hl 0 rfl) ?_
    refine gI_Tree1_size X hw lk_Tree_31 d_Tree_add_25 hF (fun x3 hF => ?_)
    refine lv_iload_n hx hb d_Tree_add_28 rfl (lv_at hl 2 rfl) ?_
    refine sA_Tree1_operators X hw d_Tree_add_29 hF (fun σ H locs hF hw => ?_)
    refine lv_aload_n hx hb d_Tree_add_30 rfl (lv_at hl 0 rfl) ?_
    refine gR_Tree1_numbers X hw lk_Tree_27 d_Tree_add_31 ?_
    refine lv_aload_n hx hb d_Tree_add_34 rfl (lv_at hl 0 rfl) ?_
    refine gI_Tree1_size X hw lk_Tree_31 d_Tree_add_35 hF (fun x4 hF => ?_)
    refine lv_lload_n hx hb d_Tree_add_38 rfl (lv_at hl 3 rfl) ?_
    refine sA_Tree1_numbers X hw d_Tree_add_39 hF (fun σ H locs hF hw => ?_)
    refine lv_aload_n hx hb d_Tree_add_40 rfl (lv_at hl 0 rfl) ?_
    refine gR_Tree1_places X hw lk_Tree_24 d_Tree_add_41 ?_
    refine lv_aload_n hx hb d_Tree_add_44 rfl (lv_at hl 0 rfl) ?_
    refine gI_Tree1_size X hw lk_Tree_31 d_Tree_add_45 hF (fun x5 hF => ?_)
    refine lv_iload hx hb d_Tree_add_48 (lv_at hl 4 rfl) ?_
    refine sA_Tree1_places X hw d_Tree_add_50 hF (fun σ H locs hF hw => ?_)
    refine lv_aload_n hx hb d_Tree_add_51 rfl (lv_at hl 0 rfl) ?_
    refine gR_Tree1_firsts X hw lk_Tree_18 d_Tree_add_52 ?_
    refine lv_aload_n hx hb d_Tree_add_55 rfl (lv_at hl 0 rfl) ?_
    refine gI_Tree1_size X hw lk_Tree_31 d_Tree_add_56 hF (fun x6 hF => ?_)
    refine lv_iconst (v := (-1)) hx hb d_Tree_add_59 (by decide) ?_
    refine sA_Tree1_firsts X hw d_Tree_add_60 hF (fun σ H locs hF hw => ?_)
    refine lv_aload_n hx hb d_Tree_add_61 rfl (lv_at hl 0 rfl) ?_
    refine gR_Tree1_seconds X hw lk_Tree_21 d_Tree_add_62 ?_
    refine lv_aload_n hx hb d_Tree_add_65 rfl (lv_at hl 0 rfl) ?_
    refine gI_Tree1_size X hw lk_Tree_31 d_Tree_add_66 hF (fun x7 hF => ?_)
    refine lv_iconst (v := (-1)) hx hb d_Tree_add_69 (by decide) ?_
    refine sA_Tree1_seconds X hw d_Tree_add_70 hF (fun σ H locs hF hw => ?_)
    refine lv_aload_n hx hb d_Tree_add_71 rfl (lv_at hl 0 rfl) ?_
    refine lv_dup hx hb d_Tree_add_72 rfl ?_
    refine gI_Tree1_size X hw lk_Tree_31 d_Tree_add_73 hF (fun x8 hF => ?_)
    refine lv_iconst (v := 1) hx hb d_Tree_add_76 (by decide) ?_
    refine lv_iadd hx hb d_Tree_add_77 ?_
    refine pI_Tree1_size X hw lk_Tree_31 d_Tree_add_78 hF (fun σ H locs hF hw => ?_)
    exact hend _ _ _ _ _ d_Tree_add_81 hF hw
section
variable {p : Program} {l : Launch} {e : Env} {R : Room} {s : State} {m : MethodId} {args : Array Value} {below : List Frame} {meth : Method} {c : Code} {H : Heap} {locs : List Loc} {cells slots : Nat} {Q : State → Prop}
variable {cc : ByteArray} {pc nL ix : Nat} {ls : Array Slot} {rest : List Value} {own : String} {D : va_G} {A : Nat → Prop} {h : Nat → Nat} {cA : Nat → ClassId} {σ : fx_S} {β : Type} {res : β × fx_S}
theorem k_Tree1_add {v1 : Int32} {v2 : Int32} {v3 : Int64} {v5 : Int32} (X : fx_X p m c cc nL s args own D fx_cl (fx_tys cA) fx_g fx_G A) (hw : fx_B D fx_cl (fx_ws h cA) A s.heap σ H locs) (lk : Cond.methodLink own ix y_Tree_add ∈ fx_g) (hdg : decode cc pc = .ok (.invokevirtual ix, 3)) (hsize : ls.size = nL) (hW : 2 * (F0 m pc ls (.int v5 :: .long v3 :: .int v2 :: .int v1 :: .ref (h 33) :: rest)).monitorRoom + (rest.map fun v => v.category).sum ≤ 8) (hR : 0 + 1 ≤ R.frames ∧ 8 + (6 + 11) + 0 ≤ R.locals) (hf : cells ≤ R.cells ∧ slots ≤ R.slots) {k : Unit → fx_M β} (hF : fx_bnd (F_Tree1_add v1 v2 v3 v5) k σ = some res) (kk : ∀ (σ' : fx_S) (H' : Heap) (locs' : List Loc), k () σ' = some res → fx_B D fx_cl (fx_ws h cA) A s.heap σ' H' locs' → W p l e R s m args below meth c H' locs' cells slots Q (F0 m (pc + 3) ls rest)) : W p l e R s m args below meth c H locs cells slots Q (F0 m pc ls (.int v5 :: .long v3 :: .int v2 :: .int v1 :: .ref (h 33) :: rest)) :=
  fx_call_v X hw (c_Tree1_add l D h cA v1 v2 v3 v5) (fx_cwV X lk hg_Tree_add fx_gok (rm := { frames := 0, cells := 0, slots := 0, locals := 0 }) rfl rfl (by decide +kernel) hR) (va_recv X.2.1 hw.1 (ci := 6) (q0 := 33) rfl rfl) (n := 4) rfl hdg hsize rfl hW hf hF kk
end
set_option maxHeartbeats 4000000 in
set_option maxRecDepth 100000 in
theorem c_Tree1_has (l : Launch) (D : va_G) (h : Nat → Nat) (cA : Nat → ClassId) (v1 : Int32) : fx_Mi l y_Tree_has b_Tree_has 2 (some .boolean) { frames := 0, cells := 0, slots := 0, locals := 0 } D fx_cl (fx_tys cA) fx_g fx_G (fx_ws h cA) [.ref (h 33), .int v1] (F_Tree1_has v1) := by
  refine fx_start_z fx_G_ok (by decide) (Nat.le_of_ble_eq_true rfl) ?_
  intro p e s m args below meth c A ls σ res Q hF X hw hl hend
  have hx := X.1.1
  have hb := X.1.2.1
  have hl : lv_has ls 2 [(0, .ref (h 33)), (1, .int v1)] := hl
  unfold F_Tree1_has at hF
  refine lv_iload_n hx hb d_Tree_has_0 rfl (lv_at hl 1 rfl) ?_
  refine lv_if_lt (tgt := 23) hx hb d_Tree_has_1 (by decide) (fun hc => ?_) (fun hc => ?_)
  · have hF := fx_it hc hF
    refine lv_iconst (v := 0) hx hb d_Tree_has_23 (by decide) ?_
    exact hend _ _ _ _ _ _ d_Tree_has_24 hF hw
  · have hF := fx_if hc hF
    refine lv_iload_n hx hb d_Tree_has_4 rfl (lv_at hl 1 rfl) ?_
    refine lv_aload_n hx hb d_Tree_has_5 rfl (lv_at hl 0 rfl) ?_
    refine gI_Tree1_size X hw lk_Tree_31 d_Tree_has_6 hF (fun x1 hF => ?_)
    refine lv_icmp_ge (tgt := 23) hx hb d_Tree_has_9 (by decide) (fun hc => ?_) (fun hc => ?_)
    · have hF := fx_it hc hF
      refine lv_iconst (v := 0) hx hb d_Tree_has_23 (by decide) ?_
      exact hend _ _ _ _ _ _ d_Tree_has_24 hF hw
    · have hF := fx_if hc hF
      refine lv_iload_n hx hb d_Tree_has_12 rfl (lv_at hl 1 rfl) ?_
      refine lv_sipush (v := 200) hx hb d_Tree_has_13 (by decide) ?_
      refine lv_icmp_ge (tgt := 23) hx hb d_Tree_has_16 (by decide) (fun hc => ?_) (fun hc => ?_)
      · have hF := fx_it hc hF
        refine lv_iconst (v := 0) hx hb d_Tree_has_23 (by decide) ?_
        exact hend _ _ _ _ _ _ d_Tree_has_24 hF hw
      · have hF := fx_if hc hF
        refine lv_iconst (v := 1) hx hb d_Tree_has_19 (by decide) ?_
        refine lv_goto (tgt := 24) hx hb d_Tree_has_20 (by decide) ?_
        exact hend _ _ _ _ _ _ d_Tree_has_24 hF hw
section
variable {p : Program} {l : Launch} {e : Env} {R : Room} {s : State} {m : MethodId} {args : Array Value} {below : List Frame} {meth : Method} {c : Code} {H : Heap} {locs : List Loc} {cells slots : Nat} {Q : State → Prop}
variable {cc : ByteArray} {pc nL ix : Nat} {ls : Array Slot} {rest : List Value} {own : String} {D : va_G} {A : Nat → Prop} {h : Nat → Nat} {cA : Nat → ClassId} {σ : fx_S} {β : Type} {res : β × fx_S}
theorem k_Tree1_has {v1 : Int32} (X : fx_X p m c cc nL s args own D fx_cl (fx_tys cA) fx_g fx_G A) (hw : fx_B D fx_cl (fx_ws h cA) A s.heap σ H locs) (lk : Cond.methodLink own ix y_Tree_has ∈ fx_g) (hdg : decode cc pc = .ok (.invokevirtual ix, 3)) (hsize : ls.size = nL) (hW : 2 * (F0 m pc ls (.int v1 :: .ref (h 33) :: rest)).monitorRoom + (rest.map fun v => v.category).sum ≤ 8) (hR : 0 + 1 ≤ R.frames ∧ 8 + (2 + 11) + 0 ≤ R.locals) (hf : cells ≤ R.cells ∧ slots ≤ R.slots) {k : Int32 → fx_M β} (hF : fx_bnd (F_Tree1_has v1) k σ = some res) (kk : ∀ (r : Int32) (σ' : fx_S) (H' : Heap) (locs' : List Loc), k r σ' = some res → fx_B D fx_cl (fx_ws h cA) A s.heap σ' H' locs' → W p l e R s m args below meth c H' locs' cells slots Q (F0 m (pc + 3) ls (.int r :: rest))) : W p l e R s m args below meth c H locs cells slots Q (F0 m pc ls (.int v1 :: .ref (h 33) :: rest)) :=
  fx_call_i X hw (c_Tree1_has l D h cA v1) (fx_cwV X lk hg_Tree_has fx_gok (rm := { frames := 0, cells := 0, slots := 0, locals := 0 }) rfl rfl (by decide +kernel) hR) (va_recv X.2.1 hw.1 (ci := 6) (q0 := 33) rfl rfl) (n := 1) rfl hdg hsize rfl hW hf hF kk
end
