set_option maxHeartbeats 4000000 in
set_option maxRecDepth 100000 in
theorem w_FixityTrees_requireScope (l : Launch) (D : va_G) (h : Nat → Nat) (cA : Nat → ClassId) (v1 : Int32) : fx_WX fx_Exv l y_FixityTrees_requireScope b_FixityTrees_requireScope 2 { frames := 6, cells := 0, slots := 0, locals := 91 } D fx_cl (fx_tys cA) fx_g fx_G (fx_ws h cA) [.ref (h 0), .int v1] (F_FixityTrees_requireScope v1) := by
  intro p e s m args below meth c A ls σ res Q hF X XT hw hl hend hthr hprop
  have hx := X.1.1
  have hb := X.1.2.1
  have hl : lv_has ls 2 [(0, .ref (h 0)), (1, .int v1)] := hl
  unfold F_FixityTrees_requireScope at hF
  refine lv_aload_n hx hb d_FixityTrees_requireScope_0 rfl (lv_at hl 0 rfl) ?_
  refine gR_FixityTrees_scopes X hw lk_FixityTrees_12 d_FixityTrees_requireScope_1 ?_
  refine lv_iload_n hx hb d_FixityTrees_requireScope_4 rfl (lv_at hl 1 rfl) ?_
  refine k_Scopes_has X hw lk_FixityTrees_251 d_FixityTrees_requireScope_5 hl.1 (lv_room (Nat.le_of_ble_eq_true rfl)) ⟨Nat.le_of_ble_eq_true rfl, Nat.le_of_ble_eq_true rfl⟩ ⟨Nat.zero_le _, Nat.zero_le _⟩ hF (fun x1 σ H locs hF hw => ?_)
  refine lv_if_ne (tgt := 21) hx hb d_FixityTrees_requireScope_8 (by decide) (fun hc => ?_) (fun hc => ?_)
  · have hF := fx_if hc hF
    exact hend _ _ _ _ _ d_FixityTrees_requireScope_21 hF hw
  · have hF := fx_it hc hF
    exact hthr 0 _ _ _ _ _ _ tw_FixityTrees_requireScope_11 (Nat.le_of_ble_eq_true rfl) hl.1 hF hw
theorem c_FixityTrees_requireScope (l : Launch) (D : va_G) (h : Nat → Nat) (cA : Nat → ClassId) (hlt : l.stackTraces = false) (v1 : Int32) : fx_Rn fx_Qv l y_FixityTrees_requireScope b_FixityTrees_requireScope 2 none { frames := 6, cells := 0, slots := 0, locals := 91 } D fx_cl (fx_tys cA) fx_g fx_G (fx_ws h cA) [.ref (h 0), .int v1] (F_FixityTrees_requireScope v1) := fx_ofr_v (w_FixityTrees_requireScope l D h cA v1) fx_G_ok hlt (by decide) (Nat.le_of_ble_eq_true rfl)
theorem x_FixityTrees_requireScope (l : Launch) (D : va_G) (h : Nat → Nat) (cA : Nat → ClassId) (hlt : l.stackTraces = false) (v1 : Int32) : fx_Tx l y_FixityTrees_requireScope b_FixityTrees_requireScope 2 none { frames := 6, cells := 0, slots := 0, locals := 91 } D fx_cl (fx_tys cA) fx_g fx_G (fx_ws h cA) [.ref (h 0), .int v1] (F_FixityTrees_requireScope v1) := fx_oft (w_FixityTrees_requireScope l D h cA v1) (fun p e s m args below meth c A Q code σ' => fx_nEv p e s m args below meth c A Q code σ') fx_G_ok fx_gok hlt (by decide) (Nat.le_of_ble_eq_true rfl)
section
variable {p : Program} {l : Launch} {e : Env} {R : Room} {s : State} {m : MethodId} {args : Array Value} {below : List Frame} {meth : Method} {c : Code} {H : Heap} {locs : List Loc} {cells slots : Nat} {Q : State → Prop}
variable {cc : ByteArray} {pc nL ix : Nat} {ls : Array Slot} {rest : List Value} {own : String} {D : va_G} {A : Nat → Prop} {h : Nat → Nat} {cA : Nat → ClassId} {σ : fx_S}
theorem k_FixityTrees_requireScope {v1 : Int32} {β : Type} {res : (β ⊕ Nat) × fx_S} (X : fx_X p m c cc nL s args own D fx_cl (fx_tys cA) fx_g fx_G A) (XT : fx_XT l s c A) (hw : fx_B D fx_cl (fx_ws h cA) A s.heap σ H locs) (lk : Cond.methodLink own ix y_FixityTrees_requireScope ∈ fx_g) (hdg : decode cc pc = .ok (.invokevirtual ix, 3)) (hsize : ls.size = nL) (hW : 2 * (F0 m pc ls (.int v1 :: .ref (h 0) :: rest)).monitorRoom + (rest.map fun v => v.category).sum ≤ 8) (hR : 6 + 1 ≤ R.frames ∧ 8 + (2 + 11) + 91 ≤ R.locals) (hRc : R.cells = fx_nc res ∧ R.slots = 6 * fx_nc res) (hprop : fx_Pp p l e R s m args below meth c D fx_cl (fx_ws h cA) A Q res) {k : Unit → fx_M (β ⊕ Nat)} (hF : fx_bndx (F_FixityTrees_requireScope v1) k σ = some res) (kk : ∀ (σ' : fx_S) (H' : Heap) (locs' : List Loc), k () σ' = some res → fx_B D fx_cl (fx_ws h cA) A s.heap σ' H' locs' → W p l e R s m args below meth c H' locs' 0 0 Q (F0 m (pc + 3) ls rest)) : W p l e R s m args below meth c H locs 0 0 Q (F0 m pc ls (.int v1 :: .ref (h 0) :: rest)) :=
  fx_callp_v X XT hw (c_FixityTrees_requireScope l D h cA XT.1 v1) (x_FixityTrees_requireScope l D h cA XT.1 v1) (fx_cwV X lk hg_FixityTrees_requireScope fx_gok (rm := fx_r0 { frames := 6, cells := 0, slots := 0, locals := 91 }) rfl rfl (by decide +kernel) hR) (fx_cwV X lk hg_FixityTrees_requireScope fx_gok (rm := fx_r1 { frames := 6, cells := 0, slots := 0, locals := 91 }) rfl rfl (by decide +kernel) hR) (va_recv X.2.1 hw.1 (ci := 0) (q0 := 0) rfl rfl) (n := 1) rfl hdg hsize rfl hW hRc hprop hF kk
end
set_option maxHeartbeats 4000000 in
set_option maxRecDepth 100000 in
theorem w_FixityTrees_scope (l : Launch) (D : va_G) (h : Nat → Nat) (cA : Nat → ClassId) (v1 : Int32) : fx_WX fx_Exi l y_FixityTrees_scope b_FixityTrees_scope 2 { frames := 7, cells := 0, slots := 0, locals := 112 } D fx_cl (fx_tys cA) fx_g fx_G (fx_ws h cA) [.ref (h 0), .int v1] (F_FixityTrees_scope v1) := by
  intro p e s m args below meth c A ls σ res Q hF X XT hw hl hend hthr hprop
  have hx := X.1.1
  have hb := X.1.2.1
  have hl : lv_has ls 2 [(0, .ref (h 0)), (1, .int v1)] := hl
  unfold F_FixityTrees_scope at hF
  refine lv_aload_n hx hb d_FixityTrees_scope_0 rfl (lv_at hl 0 rfl) ?_
  refine lv_iload_n hx hb d_FixityTrees_scope_1 rfl (lv_at hl 1 rfl) ?_
  refine k_FixityTrees_requireScope X XT hw lk_FixityTrees_68 d_FixityTrees_scope_2 hl.1 (lv_room (Nat.le_of_ble_eq_true rfl)) ⟨Nat.le_of_ble_eq_true rfl, Nat.le_of_ble_eq_true rfl⟩ ⟨rfl, rfl⟩ hprop hF (fun σ H locs hF hw => ?_)
  refine lv_aload_n hx hb d_FixityTrees_scope_5 rfl (lv_at hl 0 rfl) ?_
  refine gR_FixityTrees_scopes X hw lk_FixityTrees_12 d_FixityTrees_scope_6 ?_
  refine k_Scopes_isFull X hw lk_FixityTrees_72 d_FixityTrees_scope_9 hl.1 (lv_room (Nat.le_of_ble_eq_true rfl)) ⟨Nat.le_of_ble_eq_true rfl, Nat.le_of_ble_eq_true rfl⟩ ⟨Nat.zero_le _, Nat.zero_le _⟩ hF (fun x1 σ H locs hF hw => ?_)
  refine lv_if_eq (tgt := 25) hx hb d_FixityTrees_scope_12 (by decide) (fun hc => ?_) (fun hc => ?_)
  · have hF := fx_it hc hF
    refine lv_aload_n hx hb d_FixityTrees_scope_25 rfl (lv_at hl 0 rfl) ?_
    refine gR_FixityTrees_scopes X hw lk_FixityTrees_12 d_FixityTrees_scope_26 ?_
    refine lv_iload_n hx hb d_FixityTrees_scope_29 rfl (lv_at hl 1 rfl) ?_
    refine k_Scopes_add X hw lk_FixityTrees_83 d_FixityTrees_scope_30 hl.1 (lv_room (Nat.le_of_ble_eq_true rfl)) ⟨Nat.le_of_ble_eq_true rfl, Nat.le_of_ble_eq_true rfl⟩ ⟨Nat.zero_le _, Nat.zero_le _⟩ hF (fun x2 σ H locs hF hw => ?_)
    exact hend _ _ _ _ _ _ d_FixityTrees_scope_33 hF hw
  · have hF := fx_if hc hF
    exact hthr 1 _ _ _ _ _ _ tw_FixityTrees_scope_15 (Nat.le_of_ble_eq_true rfl) hl.1 hF hw
theorem c_FixityTrees_scope (l : Launch) (D : va_G) (h : Nat → Nat) (cA : Nat → ClassId) (hlt : l.stackTraces = false) (v1 : Int32) : fx_Rn va_Qi l y_FixityTrees_scope b_FixityTrees_scope 2 (some .int) { frames := 7, cells := 0, slots := 0, locals := 112 } D fx_cl (fx_tys cA) fx_g fx_G (fx_ws h cA) [.ref (h 0), .int v1] (F_FixityTrees_scope v1) := fx_ofr_i (w_FixityTrees_scope l D h cA v1) fx_G_ok hlt (by decide) (Nat.le_of_ble_eq_true rfl)
theorem x_FixityTrees_scope (l : Launch) (D : va_G) (h : Nat → Nat) (cA : Nat → ClassId) (hlt : l.stackTraces = false) (v1 : Int32) : fx_Tx l y_FixityTrees_scope b_FixityTrees_scope 2 (some .int) { frames := 7, cells := 0, slots := 0, locals := 112 } D fx_cl (fx_tys cA) fx_g fx_G (fx_ws h cA) [.ref (h 0), .int v1] (F_FixityTrees_scope v1) := fx_oft (w_FixityTrees_scope l D h cA v1) (fun p e s m args below meth c A Q code σ' => fx_nEi p e s m args below meth c A Q code σ') fx_G_ok fx_gok hlt (by decide) (Nat.le_of_ble_eq_true rfl)
set_option maxHeartbeats 4000000 in
set_option maxRecDepth 100000 in
theorem w_FixityTrees_requireOperator (l : Launch) (D : va_G) (h : Nat → Nat) (cA : Nat → ClassId) (v1 : Int32) : fx_WX fx_Exv l y_FixityTrees_requireOperator b_FixityTrees_requireOperator 2 { frames := 6, cells := 0, slots := 0, locals := 91 } D fx_cl (fx_tys cA) fx_g fx_G (fx_ws h cA) [.ref (h 0), .int v1] (F_FixityTrees_requireOperator v1) := by
  intro p e s m args below meth c A ls σ res Q hF X XT hw hl hend hthr hprop
  have hx := X.1.1
  have hb := X.1.2.1
  have hl : lv_has ls 2 [(0, .ref (h 0)), (1, .int v1)] := hl
  unfold F_FixityTrees_requireOperator at hF
  refine lv_iload_n hx hb d_FixityTrees_requireOperator_0 rfl (lv_at hl 1 rfl) ?_
  refine k_FixityTrees_isOperator X hw lk_FixityTrees_254 d_FixityTrees_requireOperator_1 hl.1 (lv_room (Nat.le_of_ble_eq_true rfl)) ⟨Nat.le_of_ble_eq_true rfl, Nat.le_of_ble_eq_true rfl⟩ ⟨Nat.zero_le _, Nat.zero_le _⟩ hF (fun x1 σ H locs hF hw => ?_)
  refine lv_if_ne (tgt := 18) hx hb d_FixityTrees_requireOperator_4 (by decide) (fun hc => ?_) (fun hc => ?_)
  · have hF := fx_if hc hF
    exact hend _ _ _ _ _ d_FixityTrees_requireOperator_18 hF hw
  · have hF := fx_it hc hF
    exact hthr 0 _ _ _ _ _ _ tw_FixityTrees_requireOperator_7 (Nat.le_of_ble_eq_true rfl) hl.1 hF hw
theorem c_FixityTrees_requireOperator (l : Launch) (D : va_G) (h : Nat → Nat) (cA : Nat → ClassId) (hlt : l.stackTraces = false) (v1 : Int32) : fx_Rn fx_Qv l y_FixityTrees_requireOperator b_FixityTrees_requireOperator 2 none { frames := 6, cells := 0, slots := 0, locals := 91 } D fx_cl (fx_tys cA) fx_g fx_G (fx_ws h cA) [.ref (h 0), .int v1] (F_FixityTrees_requireOperator v1) := fx_ofr_v (w_FixityTrees_requireOperator l D h cA v1) fx_G_ok hlt (by decide) (Nat.le_of_ble_eq_true rfl)
theorem x_FixityTrees_requireOperator (l : Launch) (D : va_G) (h : Nat → Nat) (cA : Nat → ClassId) (hlt : l.stackTraces = false) (v1 : Int32) : fx_Tx l y_FixityTrees_requireOperator b_FixityTrees_requireOperator 2 none { frames := 6, cells := 0, slots := 0, locals := 91 } D fx_cl (fx_tys cA) fx_g fx_G (fx_ws h cA) [.ref (h 0), .int v1] (F_FixityTrees_requireOperator v1) := fx_oft (w_FixityTrees_requireOperator l D h cA v1) (fun p e s m args below meth c A Q code σ' => fx_nEv p e s m args below meth c A Q code σ') fx_G_ok fx_gok hlt (by decide) (Nat.le_of_ble_eq_true rfl)
section
variable {p : Program} {l : Launch} {e : Env} {R : Room} {s : State} {m : MethodId} {args : Array Value} {below : List Frame} {meth : Method} {c : Code} {H : Heap} {locs : List Loc} {cells slots : Nat} {Q : State → Prop}
variable {cc : ByteArray} {pc nL ix : Nat} {ls : Array Slot} {rest : List Value} {own : String} {D : va_G} {A : Nat → Prop} {h : Nat → Nat} {cA : Nat → ClassId} {σ : fx_S}
theorem k_FixityTrees_requireOperator {v1 : Int32} {β : Type} {res : (β ⊕ Nat) × fx_S} (X : fx_X p m c cc nL s args own D fx_cl (fx_tys cA) fx_g fx_G A) (XT : fx_XT l s c A) (hw : fx_B D fx_cl (fx_ws h cA) A s.heap σ H locs) (lk : Cond.methodLink own ix y_FixityTrees_requireOperator ∈ fx_g) (hdg : decode cc pc = .ok (.invokevirtual ix, 3)) (hsize : ls.size = nL) (hW : 2 * (F0 m pc ls (.int v1 :: .ref (h 0) :: rest)).monitorRoom + (rest.map fun v => v.category).sum ≤ 8) (hR : 6 + 1 ≤ R.frames ∧ 8 + (2 + 11) + 91 ≤ R.locals) (hRc : R.cells = fx_nc res ∧ R.slots = 6 * fx_nc res) (hprop : fx_Pp p l e R s m args below meth c D fx_cl (fx_ws h cA) A Q res) {k : Unit → fx_M (β ⊕ Nat)} (hF : fx_bndx (F_FixityTrees_requireOperator v1) k σ = some res) (kk : ∀ (σ' : fx_S) (H' : Heap) (locs' : List Loc), k () σ' = some res → fx_B D fx_cl (fx_ws h cA) A s.heap σ' H' locs' → W p l e R s m args below meth c H' locs' 0 0 Q (F0 m (pc + 3) ls rest)) : W p l e R s m args below meth c H locs 0 0 Q (F0 m pc ls (.int v1 :: .ref (h 0) :: rest)) :=
  fx_callp_v X XT hw (c_FixityTrees_requireOperator l D h cA XT.1 v1) (x_FixityTrees_requireOperator l D h cA XT.1 v1) (fx_cwV X lk hg_FixityTrees_requireOperator fx_gok (rm := fx_r0 { frames := 6, cells := 0, slots := 0, locals := 91 }) rfl rfl (by decide +kernel) hR) (fx_cwV X lk hg_FixityTrees_requireOperator fx_gok (rm := fx_r1 { frames := 6, cells := 0, slots := 0, locals := 91 }) rfl rfl (by decide +kernel) hR) (va_recv X.2.1 hw.1 (ci := 0) (q0 := 0) rfl rfl) (n := 1) rfl hdg hsize rfl hW hRc hprop hF kk
end
set_option maxHeartbeats 4000000 in
set_option maxRecDepth 100000 in
theorem w_FixityTrees_fixity (l : Launch) (D : va_G) (h : Nat → Nat) (cA : Nat → ClassId) (v1 : Int32) (v2 : Int32) (v3 : Int32) (v4 : Int32) : fx_WX fx_Exv l y_FixityTrees_fixity b_FixityTrees_fixity 5 { frames := 7, cells := 0, slots := 0, locals := 112 } D fx_cl (fx_tys cA) fx_g fx_G (fx_ws h cA) [.ref (h 0), .int v1, .int v2, .int v3, .int v4] (F_FixityTrees_fixity v1 v2 v3 v4) := by
  intro p e s m args below meth c A ls σ res Q hF X XT hw hl hend hthr hprop
  have hx := X.1.1
  have hb := X.1.2.1
  have hl : lv_has ls 5 [(0, .ref (h 0)), (1, .int v1), (2, .int v2), (3, .int v3), (4, .int v4)] := hl
  unfold F_FixityTrees_fixity at hF
  refine lv_aload_n hx hb d_FixityTrees_fixity_0 rfl (lv_at hl 0 rfl) ?_
  refine lv_iload_n hx hb d_FixityTrees_fixity_1 rfl (lv_at hl 1 rfl) ?_
  refine k_FixityTrees_requireScope X XT hw lk_FixityTrees_68 d_FixityTrees_fixity_2 hl.1 (lv_room (Nat.le_of_ble_eq_true rfl)) ⟨Nat.le_of_ble_eq_true rfl, Nat.le_of_ble_eq_true rfl⟩ ⟨rfl, rfl⟩ hprop hF (fun σ H locs hF hw => ?_)
  refine lv_aload_n hx hb d_FixityTrees_fixity_5 rfl (lv_at hl 0 rfl) ?_
  refine lv_iload_n hx hb d_FixityTrees_fixity_6 rfl (lv_at hl 2 rfl) ?_
  refine k_FixityTrees_requireOperator X XT hw lk_FixityTrees_87 d_FixityTrees_fixity_7 hl.1 (lv_room (Nat.le_of_ble_eq_true rfl)) ⟨Nat.le_of_ble_eq_true rfl, Nat.le_of_ble_eq_true rfl⟩ ⟨rfl, rfl⟩ hprop hF (fun σ H locs hF hw => ?_)
  refine lv_iload_n hx hb d_FixityTrees_fixity_10 rfl (lv_at hl 2 rfl) ?_
  refine lv_if_ne (tgt := 24) hx hb d_FixityTrees_fixity_11 (by decide) (fun hc => ?_) (fun hc => ?_)
  · have hF := fx_if hc hF
    refine lv_aload_n hx hb d_FixityTrees_fixity_24 rfl (lv_at hl 0 rfl) ?_
    refine gR_FixityTrees_scopes X hw lk_FixityTrees_12 d_FixityTrees_fixity_25 ?_
    refine lv_iload_n hx hb d_FixityTrees_fixity_28 rfl (lv_at hl 1 rfl) ?_
    refine lv_iload_n hx hb d_FixityTrees_fixity_29 rfl (lv_at hl 2 rfl) ?_
    refine k_Scopes_tells X hw lk_FixityTrees_92 d_FixityTrees_fixity_30 hl.1 (lv_room (Nat.le_of_ble_eq_true rfl)) ⟨Nat.le_of_ble_eq_true rfl, Nat.le_of_ble_eq_true rfl⟩ ⟨Nat.zero_le _, Nat.zero_le _⟩ hF (fun x1 σ H locs hF hw => ?_)
    refine lv_if_eq (tgt := 46) hx hb d_FixityTrees_fixity_33 (by decide) (fun hc => ?_) (fun hc => ?_)
    · have hF := fx_it hc hF
      refine lv_iload_n hx hb d_FixityTrees_fixity_46 rfl (lv_at hl 3 rfl) ?_
      refine lv_if_lt (tgt := 55) hx hb d_FixityTrees_fixity_47 (by decide) (fun hc => ?_) (fun hc => ?_)
      · have hF := fx_it hc hF
        exact hthr 2 _ _ _ _ _ _ tw_FixityTrees_fixity_55 (Nat.le_of_ble_eq_true rfl) hl.1 hF hw
      · have hF := fx_if hc hF
        refine lv_iload_n hx hb d_FixityTrees_fixity_50 rfl (lv_at hl 3 rfl) ?_
        refine lv_iconst (v := 3) hx hb d_FixityTrees_fixity_51 (by decide) ?_
        refine lv_icmp_lt (tgt := 65) hx hb d_FixityTrees_fixity_52 (by decide) (fun hc => ?_) (fun hc => ?_)
        · have hF := fx_it hc hF
          refine lv_iload hx hb d_FixityTrees_fixity_65 (lv_at hl 4 rfl) ?_
          refine lv_if_lt (tgt := 77) hx hb d_FixityTrees_fixity_67 (by decide) (fun hc => ?_) (fun hc => ?_)
          · have hF := fx_it hc hF
            exact hthr 2 _ _ _ _ _ _ tw_FixityTrees_fixity_77 (Nat.le_of_ble_eq_true rfl) hl.1 hF hw
          · have hF := fx_if hc hF
            refine lv_iload hx hb d_FixityTrees_fixity_70 (lv_at hl 4 rfl) ?_
            refine lv_bipush (v := 10) hx hb d_FixityTrees_fixity_72 (by decide) ?_
            refine lv_icmp_lt (tgt := 87) hx hb d_FixityTrees_fixity_74 (by decide) (fun hc => ?_) (fun hc => ?_)
            · have hF := fx_it hc hF
              refine lv_aload_n hx hb d_FixityTrees_fixity_87 rfl (lv_at hl 0 rfl) ?_
              refine gR_FixityTrees_scopes X hw lk_FixityTrees_12 d_FixityTrees_fixity_88 ?_
              refine lv_iload_n hx hb d_FixityTrees_fixity_91 rfl (lv_at hl 1 rfl) ?_
              refine lv_iload_n hx hb d_FixityTrees_fixity_92 rfl (lv_at hl 2 rfl) ?_
              refine lv_iload_n hx hb d_FixityTrees_fixity_93 rfl (lv_at hl 3 rfl) ?_
              refine lv_iload hx hb d_FixityTrees_fixity_94 (lv_at hl 4 rfl) ?_
              refine k_Scopes_tell X hw lk_FixityTrees_105 d_FixityTrees_fixity_96 hl.1 (lv_room (Nat.le_of_ble_eq_true rfl)) ⟨Nat.le_of_ble_eq_true rfl, Nat.le_of_ble_eq_true rfl⟩ ⟨Nat.zero_le _, Nat.zero_le _⟩ hF (fun σ H locs hF hw => ?_)
              exact hend _ _ _ _ _ d_FixityTrees_fixity_99 hF hw
            · have hF := fx_if hc hF
              exact hthr 2 _ _ _ _ _ _ tw_FixityTrees_fixity_77 (Nat.le_of_ble_eq_true rfl) hl.1 hF hw
        · have hF := fx_if hc hF
          exact hthr 2 _ _ _ _ _ _ tw_FixityTrees_fixity_55 (Nat.le_of_ble_eq_true rfl) hl.1 hF hw
    · have hF := fx_if hc hF
      exact hthr 1 _ _ _ _ _ _ tw_FixityTrees_fixity_36 (Nat.le_of_ble_eq_true rfl) hl.1 hF hw
  · have hF := fx_it hc hF
    exact hthr 1 _ _ _ _ _ _ tw_FixityTrees_fixity_14 (Nat.le_of_ble_eq_true rfl) hl.1 hF hw
theorem c_FixityTrees_fixity (l : Launch) (D : va_G) (h : Nat → Nat) (cA : Nat → ClassId) (hlt : l.stackTraces = false) (v1 : Int32) (v2 : Int32) (v3 : Int32) (v4 : Int32) : fx_Rn fx_Qv l y_FixityTrees_fixity b_FixityTrees_fixity 5 none { frames := 7, cells := 0, slots := 0, locals := 112 } D fx_cl (fx_tys cA) fx_g fx_G (fx_ws h cA) [.ref (h 0), .int v1, .int v2, .int v3, .int v4] (F_FixityTrees_fixity v1 v2 v3 v4) := fx_ofr_v (w_FixityTrees_fixity l D h cA v1 v2 v3 v4) fx_G_ok hlt (by decide) (Nat.le_of_ble_eq_true rfl)
theorem x_FixityTrees_fixity (l : Launch) (D : va_G) (h : Nat → Nat) (cA : Nat → ClassId) (hlt : l.stackTraces = false) (v1 : Int32) (v2 : Int32) (v3 : Int32) (v4 : Int32) : fx_Tx l y_FixityTrees_fixity b_FixityTrees_fixity 5 none { frames := 7, cells := 0, slots := 0, locals := 112 } D fx_cl (fx_tys cA) fx_g fx_G (fx_ws h cA) [.ref (h 0), .int v1, .int v2, .int v3, .int v4] (F_FixityTrees_fixity v1 v2 v3 v4) := fx_oft (w_FixityTrees_fixity l D h cA v1 v2 v3 v4) (fun p e s m args below meth c A Q code σ' => fx_nEv p e s m args below meth c A Q code σ') fx_G_ok fx_gok hlt (by decide) (Nat.le_of_ble_eq_true rfl)
set_option maxHeartbeats 4000000 in
set_option maxRecDepth 100000 in
theorem w_FixityTrees_looked (l : Launch) (D : va_G) (h : Nat → Nat) (cA : Nat → ClassId) (v1 : Int32) (v2 : Int32) (v3 : Int32) : fx_WX fx_Exi l y_FixityTrees_looked b_FixityTrees_looked 4 { frames := 7, cells := 0, slots := 0, locals := 112 } D fx_cl (fx_tys cA) fx_g fx_G (fx_ws h cA) [.ref (h 0), .int v1, .int v2, .int v3] (F_FixityTrees_looked v1 v2 v3) := by
  intro p e s m args below meth c A ls σ res Q hF X XT hw hl hend hthr hprop
  have hx := X.1.1
  have hb := X.1.2.1
  have hl : lv_has ls 4 [(0, .ref (h 0)), (1, .int v1), (2, .int v2), (3, .int v3)] := hl
  unfold F_FixityTrees_looked at hF
  refine lv_aload_n hx hb d_FixityTrees_looked_0 rfl (lv_at hl 0 rfl) ?_
  refine lv_iload_n hx hb d_FixityTrees_looked_1 rfl (lv_at hl 1 rfl) ?_
  refine k_FixityTrees_requireScope X XT hw lk_FixityTrees_68 d_FixityTrees_looked_2 hl.1 (lv_room (Nat.le_of_ble_eq_true rfl)) ⟨Nat.le_of_ble_eq_true rfl, Nat.le_of_ble_eq_true rfl⟩ ⟨rfl, rfl⟩ hprop hF (fun σ H locs hF hw => ?_)
  refine lv_aload_n hx hb d_FixityTrees_looked_5 rfl (lv_at hl 0 rfl) ?_
  refine lv_iload_n hx hb d_FixityTrees_looked_6 rfl (lv_at hl 2 rfl) ?_
  refine k_FixityTrees_requireOperator X XT hw lk_FixityTrees_87 d_FixityTrees_looked_7 hl.1 (lv_room (Nat.le_of_ble_eq_true rfl)) ⟨Nat.le_of_ble_eq_true rfl, Nat.le_of_ble_eq_true rfl⟩ ⟨rfl, rfl⟩ hprop hF (fun σ H locs hF hw => ?_)
  refine lv_iload_n hx hb d_FixityTrees_looked_10 rfl (lv_at hl 3 rfl) ?_
  by_cases hc0 : v3 = 0
  · have hF := fx_it hc0 hF
    refine lv_tableIn (off := 25) (tgt := 36) hx hb d_FixityTrees_looked_11 (by rw [hc0]; decide) (by rw [hc0]; decide) (by rw [hc0]; rfl) (by decide) ?_
    refine lv_aload_n hx hb d_FixityTrees_looked_36 rfl (lv_at hl 0 rfl) ?_
    refine gR_FixityTrees_scopes X hw lk_FixityTrees_12 d_FixityTrees_looked_37 ?_
    refine lv_iload_n hx hb d_FixityTrees_looked_40 rfl (lv_at hl 1 rfl) ?_
    refine lv_iload_n hx hb d_FixityTrees_looked_41 rfl (lv_at hl 2 rfl) ?_
    refine k_Scopes_sideOf X hw lk_FixityTrees_109 d_FixityTrees_looked_42 hl.1 (lv_room (Nat.le_of_ble_eq_true rfl)) ⟨Nat.le_of_ble_eq_true rfl, Nat.le_of_ble_eq_true rfl⟩ ⟨Nat.zero_le _, Nat.zero_le _⟩ hF (fun x1 σ H locs hF hw => ?_)
    exact hend _ _ _ _ _ _ d_FixityTrees_looked_45 hF hw
  have hF := fx_if hc0 hF
  by_cases hc1 : v3 = 1
  · have hF := fx_it hc1 hF
    refine lv_tableIn (off := 35) (tgt := 46) hx hb d_FixityTrees_looked_11 (by rw [hc1]; decide) (by rw [hc1]; decide) (by rw [hc1]; rfl) (by decide) ?_
    refine lv_aload_n hx hb d_FixityTrees_looked_46 rfl (lv_at hl 0 rfl) ?_
    refine gR_FixityTrees_scopes X hw lk_FixityTrees_12 d_FixityTrees_looked_47 ?_
    refine lv_iload_n hx hb d_FixityTrees_looked_50 rfl (lv_at hl 1 rfl) ?_
    refine lv_iload_n hx hb d_FixityTrees_looked_51 rfl (lv_at hl 2 rfl) ?_
    refine k_Scopes_rankOf X hw lk_FixityTrees_113 d_FixityTrees_looked_52 hl.1 (lv_room (Nat.le_of_ble_eq_true rfl)) ⟨Nat.le_of_ble_eq_true rfl, Nat.le_of_ble_eq_true rfl⟩ ⟨Nat.zero_le _, Nat.zero_le _⟩ hF (fun x2 σ H locs hF hw => ?_)
    exact hend _ _ _ _ _ _ d_FixityTrees_looked_55 hF hw
  have hF := fx_if hc1 hF
  by_cases hc2 : v3 = 2
  · have hF := fx_it hc2 hF
    refine lv_tableIn (off := 45) (tgt := 56) hx hb d_FixityTrees_looked_11 (by rw [hc2]; decide) (by rw [hc2]; decide) (by rw [hc2]; rfl) (by decide) ?_
    refine lv_aload_n hx hb d_FixityTrees_looked_56 rfl (lv_at hl 0 rfl) ?_
    refine gR_FixityTrees_scopes X hw lk_FixityTrees_12 d_FixityTrees_looked_57 ?_
    refine lv_iload_n hx hb d_FixityTrees_looked_60 rfl (lv_at hl 1 rfl) ?_
    refine lv_iload_n hx hb d_FixityTrees_looked_61 rfl (lv_at hl 2 rfl) ?_
    refine k_Scopes_tellerOf X hw lk_FixityTrees_116 d_FixityTrees_looked_62 hl.1 (lv_room (Nat.le_of_ble_eq_true rfl)) ⟨Nat.le_of_ble_eq_true rfl, Nat.le_of_ble_eq_true rfl⟩ ⟨Nat.zero_le _, Nat.zero_le _⟩ hF (fun x3 σ H locs hF hw => ?_)
    exact hend _ _ _ _ _ _ d_FixityTrees_looked_65 hF hw
  have hF := fx_if hc2 hF
  refine lv_tableOut (tgt := 66) hx hb d_FixityTrees_looked_11 (fx_sw0_2 hc0 hc1 hc2) (by decide) ?_
  exact hthr 2 _ _ _ _ _ _ tw_FixityTrees_looked_66 (Nat.le_of_ble_eq_true rfl) hl.1 hF hw
theorem c_FixityTrees_looked (l : Launch) (D : va_G) (h : Nat → Nat) (cA : Nat → ClassId) (hlt : l.stackTraces = false) (v1 : Int32) (v2 : Int32) (v3 : Int32) : fx_Rn va_Qi l y_FixityTrees_looked b_FixityTrees_looked 4 (some .int) { frames := 7, cells := 0, slots := 0, locals := 112 } D fx_cl (fx_tys cA) fx_g fx_G (fx_ws h cA) [.ref (h 0), .int v1, .int v2, .int v3] (F_FixityTrees_looked v1 v2 v3) := fx_ofr_i (w_FixityTrees_looked l D h cA v1 v2 v3) fx_G_ok hlt (by decide) (Nat.le_of_ble_eq_true rfl)
theorem x_FixityTrees_looked (l : Launch) (D : va_G) (h : Nat → Nat) (cA : Nat → ClassId) (hlt : l.stackTraces = false) (v1 : Int32) (v2 : Int32) (v3 : Int32) : fx_Tx l y_FixityTrees_looked b_FixityTrees_looked 4 (some .int) { frames := 7, cells := 0, slots := 0, locals := 112 } D fx_cl (fx_tys cA) fx_g fx_G (fx_ws h cA) [.ref (h 0), .int v1, .int v2, .int v3] (F_FixityTrees_looked v1 v2 v3) := fx_oft (w_FixityTrees_looked l D h cA v1 v2 v3) (fun p e s m args below meth c A Q code σ' => fx_nEi p e s m args below meth c A Q code σ') fx_G_ok fx_gok hlt (by decide) (Nat.le_of_ble_eq_true rfl)
set_option maxHeartbeats 4000000 in
set_option maxRecDepth 100000 in
theorem w_FixityTrees_operand (l : Launch) (D : va_G) (h : Nat → Nat) (cA : Nat → ClassId) (v1 : Int64) : fx_WX fx_Exi l y_FixityTrees_operand b_FixityTrees_operand 3 { frames := 6, cells := 0, slots := 0, locals := 106 } D fx_cl (fx_tys cA) fx_g fx_G (fx_ws h cA) [.ref (h 0), .long v1] (F_FixityTrees_operand v1) := by
  intro p e s m args below meth c A ls σ res Q hF X XT hw hl hend hthr hprop
  have hx := X.1.1
  have hb := X.1.2.1
  have hl : lv_has ls 3 [(0, .ref (h 0)), (1, .long v1)] := hl
  unfold F_FixityTrees_operand at hF
  refine lv_aload_n hx hb d_FixityTrees_operand_0 rfl (lv_at hl 0 rfl) ?_
  refine gR_FixityTrees_row X hw lk_FixityTrees_26 d_FixityTrees_operand_1 ?_
  refine k_Row_takesOperand X hw lk_FixityTrees_125 d_FixityTrees_operand_4 hl.1 (lv_room (Nat.le_of_ble_eq_true rfl)) ⟨Nat.le_of_ble_eq_true rfl, Nat.le_of_ble_eq_true rfl⟩ ⟨Nat.zero_le _, Nat.zero_le _⟩ hF (fun x1 σ H locs hF hw => ?_)
  refine lv_if_ne (tgt := 20) hx hb d_FixityTrees_operand_7 (by decide) (fun hc => ?_) (fun hc => ?_)
  · have hF := fx_if hc hF
    refine lv_aload_n hx hb d_FixityTrees_operand_20 rfl (lv_at hl 0 rfl) ?_
    refine gR_FixityTrees_row X hw lk_FixityTrees_26 d_FixityTrees_operand_21 ?_
    refine lv_iconst (v := 0) hx hb d_FixityTrees_operand_24 (by decide) ?_
    refine lv_iconst (v := (-1)) hx hb d_FixityTrees_operand_25 (by decide) ?_
    refine lv_lload_n hx hb d_FixityTrees_operand_26 rfl (lv_at hl 1 rfl) ?_
    refine k_Row_add X hw lk_FixityTrees_130 d_FixityTrees_operand_27 hl.1 (lv_room (Nat.le_of_ble_eq_true rfl)) ⟨Nat.le_of_ble_eq_true rfl, Nat.le_of_ble_eq_true rfl⟩ ⟨Nat.zero_le _, Nat.zero_le _⟩ hF (fun σ H locs hF hw => ?_)
    refine lv_aload_n hx hb d_FixityTrees_operand_30 rfl (lv_at hl 0 rfl) ?_
    refine gR_FixityTrees_row X hw lk_FixityTrees_26 d_FixityTrees_operand_31 ?_
    refine k_Row_size X hw lk_FixityTrees_133 d_FixityTrees_operand_34 hl.1 (lv_room (Nat.le_of_ble_eq_true rfl)) ⟨Nat.le_of_ble_eq_true rfl, Nat.le_of_ble_eq_true rfl⟩ ⟨Nat.zero_le _, Nat.zero_le _⟩ hF (fun x2 σ H locs hF hw => ?_)
    exact hend _ _ _ _ _ _ d_FixityTrees_operand_37 hF hw
  · have hF := fx_it hc hF
    exact hthr 1 _ _ _ _ _ _ tw_FixityTrees_operand_10 (Nat.le_of_ble_eq_true rfl) hl.1 hF hw
theorem c_FixityTrees_operand (l : Launch) (D : va_G) (h : Nat → Nat) (cA : Nat → ClassId) (hlt : l.stackTraces = false) (v1 : Int64) : fx_Rn va_Qi l y_FixityTrees_operand b_FixityTrees_operand 3 (some .int) { frames := 6, cells := 0, slots := 0, locals := 106 } D fx_cl (fx_tys cA) fx_g fx_G (fx_ws h cA) [.ref (h 0), .long v1] (F_FixityTrees_operand v1) := fx_ofr_i (w_FixityTrees_operand l D h cA v1) fx_G_ok hlt (by decide) (Nat.le_of_ble_eq_true rfl)
theorem x_FixityTrees_operand (l : Launch) (D : va_G) (h : Nat → Nat) (cA : Nat → ClassId) (hlt : l.stackTraces = false) (v1 : Int64) : fx_Tx l y_FixityTrees_operand b_FixityTrees_operand 3 (some .int) { frames := 6, cells := 0, slots := 0, locals := 106 } D fx_cl (fx_tys cA) fx_g fx_G (fx_ws h cA) [.ref (h 0), .long v1] (F_FixityTrees_operand v1) := fx_oft (w_FixityTrees_operand l D h cA v1) (fun p e s m args below meth c A Q code σ' => fx_nEi p e s m args below meth c A Q code σ') fx_G_ok fx_gok hlt (by decide) (Nat.le_of_ble_eq_true rfl)
set_option maxHeartbeats 4000000 in
set_option maxRecDepth 100000 in
theorem w_FixityTrees_operator (l : Launch) (D : va_G) (h : Nat → Nat) (cA : Nat → ClassId) (v1 : Int32) : fx_WX fx_Exi l y_FixityTrees_operator b_FixityTrees_operator 3 { frames := 7, cells := 0, slots := 0, locals := 112 } D fx_cl (fx_tys cA) fx_g fx_G (fx_ws h cA) [.ref (h 0), .int v1] (F_FixityTrees_operator v1) := by
  intro p e s m args below meth c A ls σ res Q hF X XT hw hl hend hthr hprop
  have hx := X.1.1
  have hb := X.1.2.1
  have hl : lv_has ls 3 [(0, .ref (h 0)), (1, .int v1)] := hl
  unfold F_FixityTrees_operator at hF
  refine lv_aload_n hx hb d_FixityTrees_operator_0 rfl (lv_at hl 0 rfl) ?_
  refine lv_iload_n hx hb d_FixityTrees_operator_1 rfl (lv_at hl 1 rfl) ?_
  refine k_FixityTrees_requireOperator X XT hw lk_FixityTrees_87 d_FixityTrees_operator_2 hl.1 (lv_room (Nat.le_of_ble_eq_true rfl)) ⟨Nat.le_of_ble_eq_true rfl, Nat.le_of_ble_eq_true rfl⟩ ⟨rfl, rfl⟩ hprop hF (fun σ H locs hF hw => ?_)
  refine lv_aload_n hx hb d_FixityTrees_operator_5 rfl (lv_at hl 0 rfl) ?_
  refine gR_FixityTrees_row X hw lk_FixityTrees_26 d_FixityTrees_operator_6 ?_
  refine lv_iload_n hx hb d_FixityTrees_operator_9 rfl (lv_at hl 1 rfl) ?_
  refine k_Row_kindIfNext X hw lk_FixityTrees_137 d_FixityTrees_operator_10 hl.1 (lv_room (Nat.le_of_ble_eq_true rfl)) ⟨Nat.le_of_ble_eq_true rfl, Nat.le_of_ble_eq_true rfl⟩ ⟨Nat.zero_le _, Nat.zero_le _⟩ hF (fun x1 σ H locs hF hw => ?_)
  refine lv_istore_n (lv' := [(2, .int x1), (0, .ref (h 0)), (1, .int v1)]) hx hb d_FixityTrees_operator_13 rfl hl (by decide) rfl (fun ls hl => ?_)
  refine lv_iload_n hx hb d_FixityTrees_operator_14 rfl (lv_at hl 0 rfl) ?_
  refine lv_iconst (v := (-1)) hx hb d_FixityTrees_operator_15 (by decide) ?_
  refine lv_icmp_ne (tgt := 29) hx hb d_FixityTrees_operator_16 (by decide) (fun hc => ?_) (fun hc => ?_)
  · have hF := fx_if hc hF
    refine lv_aload_n hx hb d_FixityTrees_operator_29 rfl (lv_at hl 1 rfl) ?_
    refine gR_FixityTrees_row X hw lk_FixityTrees_26 d_FixityTrees_operator_30 ?_
    refine lv_iload_n hx hb d_FixityTrees_operator_33 rfl (lv_at hl 0 rfl) ?_
    refine lv_iload_n hx hb d_FixityTrees_operator_34 rfl (lv_at hl 2 rfl) ?_
    refine lv_lconst (v := 0) hx hb d_FixityTrees_operator_35 (by decide) ?_
    refine k_Row_add X hw lk_FixityTrees_130 d_FixityTrees_operator_36 hl.1 (lv_room (Nat.le_of_ble_eq_true rfl)) ⟨Nat.le_of_ble_eq_true rfl, Nat.le_of_ble_eq_true rfl⟩ ⟨Nat.zero_le _, Nat.zero_le _⟩ hF (fun σ H locs hF hw => ?_)
    refine lv_aload_n hx hb d_FixityTrees_operator_39 rfl (lv_at hl 1 rfl) ?_
    refine gR_FixityTrees_row X hw lk_FixityTrees_26 d_FixityTrees_operator_40 ?_
    refine k_Row_size X hw lk_FixityTrees_133 d_FixityTrees_operator_43 hl.1 (lv_room (Nat.le_of_ble_eq_true rfl)) ⟨Nat.le_of_ble_eq_true rfl, Nat.le_of_ble_eq_true rfl⟩ ⟨Nat.zero_le _, Nat.zero_le _⟩ hF (fun x2 σ H locs hF hw => ?_)
    exact hend _ _ _ _ _ _ d_FixityTrees_operator_46 hF hw
  · have hF := fx_it hc hF
    exact hthr 1 _ _ _ _ _ _ tw_FixityTrees_operator_19 (Nat.le_of_ble_eq_true rfl) hl.1 hF hw
theorem c_FixityTrees_operator (l : Launch) (D : va_G) (h : Nat → Nat) (cA : Nat → ClassId) (hlt : l.stackTraces = false) (v1 : Int32) : fx_Rn va_Qi l y_FixityTrees_operator b_FixityTrees_operator 3 (some .int) { frames := 7, cells := 0, slots := 0, locals := 112 } D fx_cl (fx_tys cA) fx_g fx_G (fx_ws h cA) [.ref (h 0), .int v1] (F_FixityTrees_operator v1) := fx_ofr_i (w_FixityTrees_operator l D h cA v1) fx_G_ok hlt (by decide) (Nat.le_of_ble_eq_true rfl)
theorem x_FixityTrees_operator (l : Launch) (D : va_G) (h : Nat → Nat) (cA : Nat → ClassId) (hlt : l.stackTraces = false) (v1 : Int32) : fx_Tx l y_FixityTrees_operator b_FixityTrees_operator 3 (some .int) { frames := 7, cells := 0, slots := 0, locals := 112 } D fx_cl (fx_tys cA) fx_g fx_G (fx_ws h cA) [.ref (h 0), .int v1] (F_FixityTrees_operator v1) := fx_oft (w_FixityTrees_operator l D h cA v1) (fun p e s m args below meth c A Q code σ' => fx_nEi p e s m args below meth c A Q code σ') fx_G_ok fx_gok hlt (by decide) (Nat.le_of_ble_eq_true rfl)
set_option maxHeartbeats 4000000 in
set_option maxRecDepth 100000 in
theorem w_FixityTrees_open (l : Launch) (D : va_G) (h : Nat → Nat) (cA : Nat → ClassId) : fx_WX fx_Exi l y_FixityTrees_open b_FixityTrees_open 1 { frames := 6, cells := 0, slots := 0, locals := 106 } D fx_cl (fx_tys cA) fx_g fx_G (fx_ws h cA) [.ref (h 0)] (F_FixityTrees_open) := by
  intro p e s m args below meth c A ls σ res Q hF X XT hw hl hend hthr hprop
  have hx := X.1.1
  have hb := X.1.2.1
  have hl : lv_has ls 1 [(0, .ref (h 0))] := hl
  unfold F_FixityTrees_open at hF
  refine lv_aload_n hx hb d_FixityTrees_open_0 rfl (lv_at hl 0 rfl) ?_
  refine gR_FixityTrees_row X hw lk_FixityTrees_26 d_FixityTrees_open_1 ?_
  refine k_Row_takesOpen X hw lk_FixityTrees_142 d_FixityTrees_open_4 hl.1 (lv_room (Nat.le_of_ble_eq_true rfl)) ⟨Nat.le_of_ble_eq_true rfl, Nat.le_of_ble_eq_true rfl⟩ ⟨Nat.zero_le _, Nat.zero_le _⟩ hF (fun x1 σ H locs hF hw => ?_)
  refine lv_if_ne (tgt := 20) hx hb d_FixityTrees_open_7 (by decide) (fun hc => ?_) (fun hc => ?_)
  · have hF := fx_if hc hF
    refine lv_aload_n hx hb d_FixityTrees_open_20 rfl (lv_at hl 0 rfl) ?_
    refine gR_FixityTrees_row X hw lk_FixityTrees_26 d_FixityTrees_open_21 ?_
    refine lv_iconst (v := 3) hx hb d_FixityTrees_open_24 (by decide) ?_
    refine lv_iconst (v := (-1)) hx hb d_FixityTrees_open_25 (by decide) ?_
    refine lv_lconst (v := 0) hx hb d_FixityTrees_open_26 (by decide) ?_
    refine k_Row_add X hw lk_FixityTrees_130 d_FixityTrees_open_27 hl.1 (lv_room (Nat.le_of_ble_eq_true rfl)) ⟨Nat.le_of_ble_eq_true rfl, Nat.le_of_ble_eq_true rfl⟩ ⟨Nat.zero_le _, Nat.zero_le _⟩ hF (fun σ H locs hF hw => ?_)
    refine lv_aload_n hx hb d_FixityTrees_open_30 rfl (lv_at hl 0 rfl) ?_
    refine gR_FixityTrees_row X hw lk_FixityTrees_26 d_FixityTrees_open_31 ?_
    refine k_Row_size X hw lk_FixityTrees_133 d_FixityTrees_open_34 hl.1 (lv_room (Nat.le_of_ble_eq_true rfl)) ⟨Nat.le_of_ble_eq_true rfl, Nat.le_of_ble_eq_true rfl⟩ ⟨Nat.zero_le _, Nat.zero_le _⟩ hF (fun x2 σ H locs hF hw => ?_)
    exact hend _ _ _ _ _ _ d_FixityTrees_open_37 hF hw
  · have hF := fx_it hc hF
    exact hthr 1 _ _ _ _ _ _ tw_FixityTrees_open_10 (Nat.le_of_ble_eq_true rfl) hl.1 hF hw
theorem c_FixityTrees_open (l : Launch) (D : va_G) (h : Nat → Nat) (cA : Nat → ClassId) (hlt : l.stackTraces = false) : fx_Rn va_Qi l y_FixityTrees_open b_FixityTrees_open 1 (some .int) { frames := 6, cells := 0, slots := 0, locals := 106 } D fx_cl (fx_tys cA) fx_g fx_G (fx_ws h cA) [.ref (h 0)] (F_FixityTrees_open) := fx_ofr_i (w_FixityTrees_open l D h cA) fx_G_ok hlt (by decide) (Nat.le_of_ble_eq_true rfl)
theorem x_FixityTrees_open (l : Launch) (D : va_G) (h : Nat → Nat) (cA : Nat → ClassId) (hlt : l.stackTraces = false) : fx_Tx l y_FixityTrees_open b_FixityTrees_open 1 (some .int) { frames := 6, cells := 0, slots := 0, locals := 106 } D fx_cl (fx_tys cA) fx_g fx_G (fx_ws h cA) [.ref (h 0)] (F_FixityTrees_open) := fx_oft (w_FixityTrees_open l D h cA) (fun p e s m args below meth c A Q code σ' => fx_nEi p e s m args below meth c A Q code σ') fx_G_ok fx_gok hlt (by decide) (Nat.le_of_ble_eq_true rfl)
set_option maxHeartbeats 4000000 in
set_option maxRecDepth 100000 in
theorem w_FixityTrees_close (l : Launch) (D : va_G) (h : Nat → Nat) (cA : Nat → ClassId) : fx_WX fx_Exi l y_FixityTrees_close b_FixityTrees_close 1 { frames := 6, cells := 0, slots := 0, locals := 106 } D fx_cl (fx_tys cA) fx_g fx_G (fx_ws h cA) [.ref (h 0)] (F_FixityTrees_close) := by
  intro p e s m args below meth c A ls σ res Q hF X XT hw hl hend hthr hprop
  have hx := X.1.1
  have hb := X.1.2.1
  have hl : lv_has ls 1 [(0, .ref (h 0))] := hl
  unfold F_FixityTrees_close at hF
  refine lv_aload_n hx hb d_FixityTrees_close_0 rfl (lv_at hl 0 rfl) ?_
  refine gR_FixityTrees_row X hw lk_FixityTrees_26 d_FixityTrees_close_1 ?_
  refine k_Row_takesClose X hw lk_FixityTrees_147 d_FixityTrees_close_4 hl.1 (lv_room (Nat.le_of_ble_eq_true rfl)) ⟨Nat.le_of_ble_eq_true rfl, Nat.le_of_ble_eq_true rfl⟩ ⟨Nat.zero_le _, Nat.zero_le _⟩ hF (fun x1 σ H locs hF hw => ?_)
  refine lv_if_ne (tgt := 20) hx hb d_FixityTrees_close_7 (by decide) (fun hc => ?_) (fun hc => ?_)
  · have hF := fx_if hc hF
    refine lv_aload_n hx hb d_FixityTrees_close_20 rfl (lv_at hl 0 rfl) ?_
    refine gR_FixityTrees_row X hw lk_FixityTrees_26 d_FixityTrees_close_21 ?_
    refine lv_iconst (v := 4) hx hb d_FixityTrees_close_24 (by decide) ?_
    refine lv_iconst (v := (-1)) hx hb d_FixityTrees_close_25 (by decide) ?_
    refine lv_lconst (v := 0) hx hb d_FixityTrees_close_26 (by decide) ?_
    refine k_Row_add X hw lk_FixityTrees_130 d_FixityTrees_close_27 hl.1 (lv_room (Nat.le_of_ble_eq_true rfl)) ⟨Nat.le_of_ble_eq_true rfl, Nat.le_of_ble_eq_true rfl⟩ ⟨Nat.zero_le _, Nat.zero_le _⟩ hF (fun σ H locs hF hw => ?_)
    refine lv_aload_n hx hb d_FixityTrees_close_30 rfl (lv_at hl 0 rfl) ?_
    refine gR_FixityTrees_row X hw lk_FixityTrees_26 d_FixityTrees_close_31 ?_
    refine k_Row_size X hw lk_FixityTrees_133 d_FixityTrees_close_34 hl.1 (lv_room (Nat.le_of_ble_eq_true rfl)) ⟨Nat.le_of_ble_eq_true rfl, Nat.le_of_ble_eq_true rfl⟩ ⟨Nat.zero_le _, Nat.zero_le _⟩ hF (fun x2 σ H locs hF hw => ?_)
    exact hend _ _ _ _ _ _ d_FixityTrees_close_37 hF hw
  · have hF := fx_it hc hF
    exact hthr 1 _ _ _ _ _ _ tw_FixityTrees_close_10 (Nat.le_of_ble_eq_true rfl) hl.1 hF hw
theorem c_FixityTrees_close (l : Launch) (D : va_G) (h : Nat → Nat) (cA : Nat → ClassId) (hlt : l.stackTraces = false) : fx_Rn va_Qi l y_FixityTrees_close b_FixityTrees_close 1 (some .int) { frames := 6, cells := 0, slots := 0, locals := 106 } D fx_cl (fx_tys cA) fx_g fx_G (fx_ws h cA) [.ref (h 0)] (F_FixityTrees_close) := fx_ofr_i (w_FixityTrees_close l D h cA) fx_G_ok hlt (by decide) (Nat.le_of_ble_eq_true rfl)
theorem x_FixityTrees_close (l : Launch) (D : va_G) (h : Nat → Nat) (cA : Nat → ClassId) (hlt : l.stackTraces = false) : fx_Tx l y_FixityTrees_close b_FixityTrees_close 1 (some .int) { frames := 6, cells := 0, slots := 0, locals := 106 } D fx_cl (fx_tys cA) fx_g fx_G (fx_ws h cA) [.ref (h 0)] (F_FixityTrees_close) := fx_oft (w_FixityTrees_close l D h cA) (fun p e s m args below meth c A Q code σ' => fx_nEi p e s m args below meth c A Q code σ') fx_G_ok fx_gok hlt (by decide) (Nat.le_of_ble_eq_true rfl)
set_option maxHeartbeats 4000000 in
set_option maxRecDepth 100000 in
theorem w_FixityTrees_requireWholeRow (l : Launch) (D : va_G) (h : Nat → Nat) (cA : Nat → ClassId) : fx_WX fx_Exv l y_FixityTrees_requireWholeRow b_FixityTrees_requireWholeRow 1 { frames := 6, cells := 0, slots := 0, locals := 91 } D fx_cl (fx_tys cA) fx_g fx_G (fx_ws h cA) [.ref (h 0)] (F_FixityTrees_requireWholeRow) := by
  intro p e s m args below meth c A ls σ res Q hF X XT hw hl hend hthr hprop
  have hx := X.1.1
  have hb := X.1.2.1
  have hl : lv_has ls 1 [(0, .ref (h 0))] := hl
  unfold F_FixityTrees_requireWholeRow at hF
  refine lv_aload_n hx hb d_FixityTrees_requireWholeRow_0 rfl (lv_at hl 0 rfl) ?_
  refine gR_FixityTrees_row X hw lk_FixityTrees_26 d_FixityTrees_requireWholeRow_1 ?_
  refine k_Row_operandIsDue X hw lk_FixityTrees_242 d_FixityTrees_requireWholeRow_4 hl.1 (lv_room (Nat.le_of_ble_eq_true rfl)) ⟨Nat.le_of_ble_eq_true rfl, Nat.le_of_ble_eq_true rfl⟩ ⟨Nat.zero_le _, Nat.zero_le _⟩ hF (fun x1 σ H locs hF hw => ?_)
  refine lv_if_ne (tgt := 20) hx hb d_FixityTrees_requireWholeRow_7 (by decide) (fun hc => ?_) (fun hc => ?_)
  · have hF := fx_if hc hF
    exact hthr 1 _ _ _ _ _ _ tw_FixityTrees_requireWholeRow_20 (Nat.le_of_ble_eq_true rfl) hl.1 hF hw
  · have hF := fx_it hc hF
    refine lv_aload_n hx hb d_FixityTrees_requireWholeRow_10 rfl (lv_at hl 0 rfl) ?_
    refine gR_FixityTrees_row X hw lk_FixityTrees_26 d_FixityTrees_requireWholeRow_11 ?_
    refine k_Row_openSize X hw lk_FixityTrees_239 d_FixityTrees_requireWholeRow_14 hl.1 (lv_room (Nat.le_of_ble_eq_true rfl)) ⟨Nat.le_of_ble_eq_true rfl, Nat.le_of_ble_eq_true rfl⟩ ⟨Nat.zero_le _, Nat.zero_le _⟩ hF (fun x2 σ H locs hF hw => ?_)
    refine lv_if_le (tgt := 31) hx hb d_FixityTrees_requireWholeRow_17 (by decide) (fun hc => ?_) (fun hc => ?_)
    · have hF := fx_it hc hF
      exact hend _ _ _ _ _ d_FixityTrees_requireWholeRow_31 hF hw
    · have hF := fx_if hc hF
      exact hthr 1 _ _ _ _ _ _ tw_FixityTrees_requireWholeRow_20 (Nat.le_of_ble_eq_true rfl) hl.1 hF hw
theorem c_FixityTrees_requireWholeRow (l : Launch) (D : va_G) (h : Nat → Nat) (cA : Nat → ClassId) (hlt : l.stackTraces = false) : fx_Rn fx_Qv l y_FixityTrees_requireWholeRow b_FixityTrees_requireWholeRow 1 none { frames := 6, cells := 0, slots := 0, locals := 91 } D fx_cl (fx_tys cA) fx_g fx_G (fx_ws h cA) [.ref (h 0)] (F_FixityTrees_requireWholeRow) := fx_ofr_v (w_FixityTrees_requireWholeRow l D h cA) fx_G_ok hlt (by decide) (Nat.le_of_ble_eq_true rfl)
theorem x_FixityTrees_requireWholeRow (l : Launch) (D : va_G) (h : Nat → Nat) (cA : Nat → ClassId) (hlt : l.stackTraces = false) : fx_Tx l y_FixityTrees_requireWholeRow b_FixityTrees_requireWholeRow 1 none { frames := 6, cells := 0, slots := 0, locals := 91 } D fx_cl (fx_tys cA) fx_g fx_G (fx_ws h cA) [.ref (h 0)] (F_FixityTrees_requireWholeRow) := fx_oft (w_FixityTrees_requireWholeRow l D h cA) (fun p e s m args below meth c A Q code σ' => fx_nEv p e s m args below meth c A Q code σ') fx_G_ok fx_gok hlt (by decide) (Nat.le_of_ble_eq_true rfl)
section
variable {p : Program} {l : Launch} {e : Env} {R : Room} {s : State} {m : MethodId} {args : Array Value} {below : List Frame} {meth : Method} {c : Code} {H : Heap} {locs : List Loc} {cells slots : Nat} {Q : State → Prop}
variable {cc : ByteArray} {pc nL ix : Nat} {ls : Array Slot} {rest : List Value} {own : String} {D : va_G} {A : Nat → Prop} {h : Nat → Nat} {cA : Nat → ClassId} {σ : fx_S}
theorem k_FixityTrees_requireWholeRow {β : Type} {res : (β ⊕ Nat) × fx_S} (X : fx_X p m c cc nL s args own D fx_cl (fx_tys cA) fx_g fx_G A) (XT : fx_XT l s c A) (hw : fx_B D fx_cl (fx_ws h cA) A s.heap σ H locs) (lk : Cond.methodLink own ix y_FixityTrees_requireWholeRow ∈ fx_g) (hdg : decode cc pc = .ok (.invokevirtual ix, 3)) (hsize : ls.size = nL) (hW : 2 * (F0 m pc ls (.ref (h 0) :: rest)).monitorRoom + (rest.map fun v => v.category).sum ≤ 8) (hR : 6 + 1 ≤ R.frames ∧ 8 + (1 + 11) + 91 ≤ R.locals) (hRc : R.cells = fx_nc res ∧ R.slots = 6 * fx_nc res) (hprop : fx_Pp p l e R s m args below meth c D fx_cl (fx_ws h cA) A Q res) {k : Unit → fx_M (β ⊕ Nat)} (hF : fx_bndx (F_FixityTrees_requireWholeRow) k σ = some res) (kk : ∀ (σ' : fx_S) (H' : Heap) (locs' : List Loc), k () σ' = some res → fx_B D fx_cl (fx_ws h cA) A s.heap σ' H' locs' → W p l e R s m args below meth c H' locs' 0 0 Q (F0 m (pc + 3) ls rest)) : W p l e R s m args below meth c H locs 0 0 Q (F0 m pc ls (.ref (h 0) :: rest)) :=
  fx_callp_v X XT hw (c_FixityTrees_requireWholeRow l D h cA XT.1) (x_FixityTrees_requireWholeRow l D h cA XT.1) (fx_cwV X lk hg_FixityTrees_requireWholeRow fx_gok (rm := fx_r0 { frames := 6, cells := 0, slots := 0, locals := 91 }) rfl rfl (by decide +kernel) hR) (fx_cwV X lk hg_FixityTrees_requireWholeRow fx_gok (rm := fx_r1 { frames := 6, cells := 0, slots := 0, locals := 91 }) rfl rfl (by decide +kernel) hR) (va_recv X.2.1 hw.1 (ci := 0) (q0 := 0) rfl rfl) (n := 0) rfl hdg hsize rfl hW hRc hprop hF kk
end
