set_option maxHeartbeats 4000000 in
set_option maxRecDepth 100000 in
theorem w_FixityTrees_resolve (l : Launch) (D : va_G) (h : Nat → Nat) (cA : Nat → ClassId) (v1 : Int32) : fx_WX fx_Exi l y_FixityTrees_resolve b_FixityTrees_resolve 2 { frames := 7, cells := 0, slots := 0, locals := 134 } D fx_cl (fx_tys cA) fx_g fx_G (fx_ws h cA) [.ref (h 0), .int v1] (F_FixityTrees_resolve v1) := by
  intro p e s m args below meth c A ls σ res Q hF X XT hw hl hend hthr hprop
  have hx := X.1.1
  have hb := X.1.2.1
  have hl : lv_has ls 2 [(0, .ref (h 0)), (1, .int v1)] := hl
  unfold F_FixityTrees_resolve at hF
  refine lv_aload_n hx hb d_FixityTrees_resolve_0 rfl (lv_at hl 0 rfl) ?_
  refine lv_iload_n hx hb d_FixityTrees_resolve_1 rfl (lv_at hl 1 rfl) ?_
  refine k_FixityTrees_requireScope X XT hw lk_FixityTrees_68 d_FixityTrees_resolve_2 hl.1 (lv_room (Nat.le_of_ble_eq_true rfl)) ⟨Nat.le_of_ble_eq_true rfl, Nat.le_of_ble_eq_true rfl⟩ ⟨rfl, rfl⟩ hprop hF (fun σ H locs hF hw => ?_)
  refine lv_aload_n hx hb d_FixityTrees_resolve_5 rfl (lv_at hl 0 rfl) ?_
  refine k_FixityTrees_requireWholeRow X XT hw lk_FixityTrees_152 d_FixityTrees_resolve_6 hl.1 (lv_room (Nat.le_of_ble_eq_true rfl)) ⟨Nat.le_of_ble_eq_true rfl, Nat.le_of_ble_eq_true rfl⟩ ⟨rfl, rfl⟩ hprop hF (fun σ H locs hF hw => ?_)
  refine lv_aload_n hx hb d_FixityTrees_resolve_9 rfl (lv_at hl 0 rfl) ?_
  refine gR_FixityTrees_fixities X hw lk_FixityTrees_19 d_FixityTrees_resolve_10 ?_
  refine lv_aload_n hx hb d_FixityTrees_resolve_13 rfl (lv_at hl 0 rfl) ?_
  refine gR_FixityTrees_scopes X hw lk_FixityTrees_12 d_FixityTrees_resolve_14 ?_
  refine lv_iload_n hx hb d_FixityTrees_resolve_17 rfl (lv_at hl 1 rfl) ?_
  refine k_Fixities_look_Scopes X hw lk_FixityTrees_155 d_FixityTrees_resolve_18 hl.1 (lv_room (Nat.le_of_ble_eq_true rfl)) ⟨Nat.le_of_ble_eq_true rfl, Nat.le_of_ble_eq_true rfl⟩ ⟨Nat.zero_le _, Nat.zero_le _⟩ hF (fun σ H locs hF hw => ?_)
  refine lv_aload_n hx hb d_FixityTrees_resolve_21 rfl (lv_at hl 0 rfl) ?_
  refine gR_FixityTrees_resolver X hw lk_FixityTrees_35 d_FixityTrees_resolve_22 ?_
  refine k_Resolver_run X hw lk_FixityTrees_159 d_FixityTrees_resolve_25 hl.1 (lv_room (Nat.le_of_ble_eq_true rfl)) ⟨Nat.le_of_ble_eq_true rfl, Nat.le_of_ble_eq_true rfl⟩ ⟨Nat.zero_le _, Nat.zero_le _⟩ hF (fun σ H locs hF hw => ?_)
  refine lv_aload_n hx hb d_FixityTrees_resolve_28 rfl (lv_at hl 0 rfl) ?_
  refine lv_aload_n hx hb d_FixityTrees_resolve_29 rfl (lv_at hl 0 rfl) ?_
  refine gR_FixityTrees_resolver X hw lk_FixityTrees_35 d_FixityTrees_resolve_30 ?_
  refine k_Resolver_clashKind X hw lk_FixityTrees_162 d_FixityTrees_resolve_33 hl.1 (lv_room (Nat.le_of_ble_eq_true rfl)) ⟨Nat.le_of_ble_eq_true rfl, Nat.le_of_ble_eq_true rfl⟩ ⟨Nat.zero_le _, Nat.zero_le _⟩ hF (fun x1 σ H locs hF hw => ?_)
  refine pI_FixityTrees_clashKind X hw lk_FixityTrees_58 d_FixityTrees_resolve_36 hF (fun σ H locs hF hw => ?_)
  refine lv_aload_n hx hb d_FixityTrees_resolve_39 rfl (lv_at hl 0 rfl) ?_
  refine lv_aload_n hx hb d_FixityTrees_resolve_40 rfl (lv_at hl 0 rfl) ?_
  refine gR_FixityTrees_resolver X hw lk_FixityTrees_35 d_FixityTrees_resolve_41 ?_
  refine k_Resolver_clashWaiting X hw lk_FixityTrees_164 d_FixityTrees_resolve_44 hl.1 (lv_room (Nat.le_of_ble_eq_true rfl)) ⟨Nat.le_of_ble_eq_true rfl, Nat.le_of_ble_eq_true rfl⟩ ⟨Nat.zero_le _, Nat.zero_le _⟩ hF (fun x2 σ H locs hF hw => ?_)
  refine pI_FixityTrees_clashWaiting X hw lk_FixityTrees_62 d_FixityTrees_resolve_47 hF (fun σ H locs hF hw => ?_)
  refine lv_aload_n hx hb d_FixityTrees_resolve_50 rfl (lv_at hl 0 rfl) ?_
  refine lv_aload_n hx hb d_FixityTrees_resolve_51 rfl (lv_at hl 0 rfl) ?_
  refine gR_FixityTrees_resolver X hw lk_FixityTrees_35 d_FixityTrees_resolve_52 ?_
  refine k_Resolver_clashOther X hw lk_FixityTrees_166 d_FixityTrees_resolve_55 hl.1 (lv_room (Nat.le_of_ble_eq_true rfl)) ⟨Nat.le_of_ble_eq_true rfl, Nat.le_of_ble_eq_true rfl⟩ ⟨Nat.zero_le _, Nat.zero_le _⟩ hF (fun x3 σ H locs hF hw => ?_)
  refine pI_FixityTrees_clashOther X hw lk_FixityTrees_65 d_FixityTrees_resolve_58 hF (fun σ H locs hF hw => ?_)
  refine lv_aload_n hx hb d_FixityTrees_resolve_61 rfl (lv_at hl 0 rfl) ?_
  refine gI_FixityTrees_clashKind X hw lk_FixityTrees_58 d_FixityTrees_resolve_62 hF (fun x4 hF => ?_)
  refine lv_iconst (v := (-1)) hx hb d_FixityTrees_resolve_65 (by decide) ?_
  refine lv_icmp_eq (tgt := 78) hx hb d_FixityTrees_resolve_66 (by decide) (fun hc => ?_) (fun hc => ?_)
  · have hF := fx_it hc hF
    refine lv_aload_n hx hb d_FixityTrees_resolve_78 rfl (lv_at hl 0 rfl) ?_
    refine gR_FixityTrees_resolver X hw lk_FixityTrees_35 d_FixityTrees_resolve_79 ?_
    refine lv_aload_n hx hb d_FixityTrees_resolve_82 rfl (lv_at hl 0 rfl) ?_
    refine gR_FixityTrees_tree X hw lk_FixityTrees_42 d_FixityTrees_resolve_83 ?_
    refine k_Resolver_numberInto_Tree0 X hw lk_FixityTrees_170 d_FixityTrees_resolve_86 hl.1 (lv_room (Nat.le_of_ble_eq_true rfl)) ⟨Nat.le_of_ble_eq_true rfl, Nat.le_of_ble_eq_true rfl⟩ ⟨Nat.zero_le _, Nat.zero_le _⟩ hF (fun σ H locs hF hw => ?_)
    refine lv_aload_n hx hb d_FixityTrees_resolve_89 rfl (lv_at hl 0 rfl) ?_
    refine lv_aload_n hx hb d_FixityTrees_resolve_90 rfl (lv_at hl 0 rfl) ?_
    refine gR_FixityTrees_resolver X hw lk_FixityTrees_35 d_FixityTrees_resolve_91 ?_
    refine k_Resolver_mostWaiting X hw lk_FixityTrees_174 d_FixityTrees_resolve_94 hl.1 (lv_room (Nat.le_of_ble_eq_true rfl)) ⟨Nat.le_of_ble_eq_true rfl, Nat.le_of_ble_eq_true rfl⟩ ⟨Nat.zero_le _, Nat.zero_le _⟩ hF (fun x5 σ H locs hF hw => ?_)
    refine pI_FixityTrees_mostWaiting X hw lk_FixityTrees_177 d_FixityTrees_resolve_97 hF (fun σ H locs hF hw => ?_)
    refine lv_aload_n hx hb d_FixityTrees_resolve_100 rfl (lv_at hl 0 rfl) ?_
    refine gR_FixityTrees_tree X hw lk_FixityTrees_42 d_FixityTrees_resolve_101 ?_
    refine k_Tree0_size X hw lk_FixityTrees_179 d_FixityTrees_resolve_104 hl.1 (lv_room (Nat.le_of_ble_eq_true rfl)) ⟨Nat.le_of_ble_eq_true rfl, Nat.le_of_ble_eq_true rfl⟩ ⟨Nat.zero_le _, Nat.zero_le _⟩ hF (fun x6 σ H locs hF hw => ?_)
    exact hend _ _ _ _ _ _ d_FixityTrees_resolve_107 hF hw
  · have hF := fx_if hc hF
    refine lv_aload_n hx hb d_FixityTrees_resolve_69 rfl (lv_at hl 0 rfl) ?_
    refine gR_FixityTrees_tree X hw lk_FixityTrees_42 d_FixityTrees_resolve_70 ?_
    refine k_Tree0_clear X hw lk_FixityTrees_168 d_FixityTrees_resolve_73 hl.1 (lv_room (Nat.le_of_ble_eq_true rfl)) ⟨Nat.le_of_ble_eq_true rfl, Nat.le_of_ble_eq_true rfl⟩ ⟨Nat.zero_le _, Nat.zero_le _⟩ hF (fun σ H locs hF hw => ?_)
    refine lv_iconst (v := (-1)) hx hb d_FixityTrees_resolve_76 (by decide) ?_
    exact hend _ _ _ _ _ _ d_FixityTrees_resolve_77 hF hw
theorem c_FixityTrees_resolve (l : Launch) (D : va_G) (h : Nat → Nat) (cA : Nat → ClassId) (hlt : l.stackTraces = false) (v1 : Int32) : fx_Rn va_Qi l y_FixityTrees_resolve b_FixityTrees_resolve 2 (some .int) { frames := 7, cells := 0, slots := 0, locals := 134 } D fx_cl (fx_tys cA) fx_g fx_G (fx_ws h cA) [.ref (h 0), .int v1] (F_FixityTrees_resolve v1) := fx_ofr_i (w_FixityTrees_resolve l D h cA v1) fx_G_ok hlt (by decide) (Nat.le_of_ble_eq_true rfl)
theorem x_FixityTrees_resolve (l : Launch) (D : va_G) (h : Nat → Nat) (cA : Nat → ClassId) (hlt : l.stackTraces = false) (v1 : Int32) : fx_Tx l y_FixityTrees_resolve b_FixityTrees_resolve 2 (some .int) { frames := 7, cells := 0, slots := 0, locals := 134 } D fx_cl (fx_tys cA) fx_g fx_G (fx_ws h cA) [.ref (h 0), .int v1] (F_FixityTrees_resolve v1) := fx_oft (w_FixityTrees_resolve l D h cA v1) (fun p e s m args below meth c A Q code σ' => fx_nEi p e s m args below meth c A Q code σ') fx_G_ok fx_gok hlt (by decide) (Nat.le_of_ble_eq_true rfl)
set_option maxHeartbeats 4000000 in
set_option maxRecDepth 100000 in
theorem w_FixityTrees_clash (l : Launch) (D : va_G) (h : Nat → Nat) (cA : Nat → ClassId) (v1 : Int32) : fx_WX fx_Exi l y_FixityTrees_clash b_FixityTrees_clash 2 { frames := 6, cells := 0, slots := 0, locals := 91 } D fx_cl (fx_tys cA) fx_g fx_G (fx_ws h cA) [.ref (h 0), .int v1] (F_FixityTrees_clash v1) := by
  intro p e s m args below meth c A ls σ res Q hF X XT hw hl hend hthr hprop
  have hx := X.1.1
  have hb := X.1.2.1
  have hl : lv_has ls 2 [(0, .ref (h 0)), (1, .int v1)] := hl
  unfold F_FixityTrees_clash at hF
  refine lv_iload_n hx hb d_FixityTrees_clash_0 rfl (lv_at hl 1 rfl) ?_
  by_cases hc0 : v1 = 0
  · have hF := fx_it hc0 hF
    refine lv_tableIn (off := 27) (tgt := 28) hx hb d_FixityTrees_clash_1 (by rw [hc0]; decide) (by rw [hc0]; decide) (by rw [hc0]; rfl) (by decide) ?_
    refine lv_aload_n hx hb d_FixityTrees_clash_28 rfl (lv_at hl 0 rfl) ?_
    refine gI_FixityTrees_clashKind X hw lk_FixityTrees_58 d_FixityTrees_clash_29 hF (fun x1 hF => ?_)
    exact hend _ _ _ _ _ _ d_FixityTrees_clash_32 hF hw
  have hF := fx_if hc0 hF
  by_cases hc1 : v1 = 1
  · have hF := fx_it hc1 hF
    refine lv_tableIn (off := 32) (tgt := 33) hx hb d_FixityTrees_clash_1 (by rw [hc1]; decide) (by rw [hc1]; decide) (by rw [hc1]; rfl) (by decide) ?_
    refine lv_aload_n hx hb d_FixityTrees_clash_33 rfl (lv_at hl 0 rfl) ?_
    refine gI_FixityTrees_clashWaiting X hw lk_FixityTrees_62 d_FixityTrees_clash_34 hF (fun x2 hF => ?_)
    exact hend _ _ _ _ _ _ d_FixityTrees_clash_37 hF hw
  have hF := fx_if hc1 hF
  by_cases hc2 : v1 = 2
  · have hF := fx_it hc2 hF
    refine lv_tableIn (off := 37) (tgt := 38) hx hb d_FixityTrees_clash_1 (by rw [hc2]; decide) (by rw [hc2]; decide) (by rw [hc2]; rfl) (by decide) ?_
    refine lv_aload_n hx hb d_FixityTrees_clash_38 rfl (lv_at hl 0 rfl) ?_
    refine gI_FixityTrees_clashOther X hw lk_FixityTrees_65 d_FixityTrees_clash_39 hF (fun x3 hF => ?_)
    exact hend _ _ _ _ _ _ d_FixityTrees_clash_42 hF hw
  have hF := fx_if hc2 hF
  refine lv_tableOut (tgt := 43) hx hb d_FixityTrees_clash_1 (fx_sw0_2 hc0 hc1 hc2) (by decide) ?_
  exact hthr 2 _ _ _ _ _ _ tw_FixityTrees_clash_43 (Nat.le_of_ble_eq_true rfl) hl.1 hF hw
theorem c_FixityTrees_clash (l : Launch) (D : va_G) (h : Nat → Nat) (cA : Nat → ClassId) (hlt : l.stackTraces = false) (v1 : Int32) : fx_Rn va_Qi l y_FixityTrees_clash b_FixityTrees_clash 2 (some .int) { frames := 6, cells := 0, slots := 0, locals := 91 } D fx_cl (fx_tys cA) fx_g fx_G (fx_ws h cA) [.ref (h 0), .int v1] (F_FixityTrees_clash v1) := fx_ofr_i (w_FixityTrees_clash l D h cA v1) fx_G_ok hlt (by decide) (Nat.le_of_ble_eq_true rfl)
theorem x_FixityTrees_clash (l : Launch) (D : va_G) (h : Nat → Nat) (cA : Nat → ClassId) (hlt : l.stackTraces = false) (v1 : Int32) : fx_Tx l y_FixityTrees_clash b_FixityTrees_clash 2 (some .int) { frames := 6, cells := 0, slots := 0, locals := 91 } D fx_cl (fx_tys cA) fx_g fx_G (fx_ws h cA) [.ref (h 0), .int v1] (F_FixityTrees_clash v1) := fx_oft (w_FixityTrees_clash l D h cA v1) (fun p e s m args below meth c A Q code σ' => fx_nEi p e s m args below meth c A Q code σ') fx_G_ok fx_gok hlt (by decide) (Nat.le_of_ble_eq_true rfl)
set_option maxHeartbeats 4000000 in
set_option maxRecDepth 100000 in
theorem w_FixityTrees_node (l : Launch) (D : va_G) (h : Nat → Nat) (cA : Nat → ClassId) (v1 : Int32) (v2 : Int32) : fx_WX fx_Exi l y_FixityTrees_node b_FixityTrees_node 3 { frames := 6, cells := 0, slots := 0, locals := 91 } D fx_cl (fx_tys cA) fx_g fx_G (fx_ws h cA) [.ref (h 0), .int v1, .int v2] (F_FixityTrees_node v1 v2) := by
  intro p e s m args below meth c A ls σ res Q hF X XT hw hl hend hthr hprop
  have hx := X.1.1
  have hb := X.1.2.1
  have hl : lv_has ls 3 [(0, .ref (h 0)), (1, .int v1), (2, .int v2)] := hl
  unfold F_FixityTrees_node at hF
  refine lv_aload_n hx hb d_FixityTrees_node_0 rfl (lv_at hl 0 rfl) ?_
  refine gR_FixityTrees_tree X hw lk_FixityTrees_42 d_FixityTrees_node_1 ?_
  refine lv_iload_n hx hb d_FixityTrees_node_4 rfl (lv_at hl 1 rfl) ?_
  refine k_Tree0_has X hw lk_FixityTrees_180 d_FixityTrees_node_5 hl.1 (lv_room (Nat.le_of_ble_eq_true rfl)) ⟨Nat.le_of_ble_eq_true rfl, Nat.le_of_ble_eq_true rfl⟩ ⟨Nat.zero_le _, Nat.zero_le _⟩ hF (fun x1 σ H locs hF hw => ?_)
  refine lv_if_ne (tgt := 21) hx hb d_FixityTrees_node_8 (by decide) (fun hc => ?_) (fun hc => ?_)
  · have hF := fx_if hc hF
    refine lv_iload_n hx hb d_FixityTrees_node_21 rfl (lv_at hl 2 rfl) ?_
    by_cases hc0 : v2 = 0
    · have hF := fx_it hc0 hF
      refine lv_tableIn (off := 34) (tgt := 56) hx hb d_FixityTrees_node_22 (by rw [hc0]; decide) (by rw [hc0]; decide) (by rw [hc0]; rfl) (by decide) ?_
      refine lv_aload_n hx hb d_FixityTrees_node_56 rfl (lv_at hl 0 rfl) ?_
      refine gR_FixityTrees_tree X hw lk_FixityTrees_42 d_FixityTrees_node_57 ?_
      refine lv_iload_n hx hb d_FixityTrees_node_60 rfl (lv_at hl 1 rfl) ?_
      refine k_Tree0_kindAt X hw lk_FixityTrees_189 d_FixityTrees_node_61 hl.1 (lv_room (Nat.le_of_ble_eq_true rfl)) ⟨Nat.le_of_ble_eq_true rfl, Nat.le_of_ble_eq_true rfl⟩ ⟨Nat.zero_le _, Nat.zero_le _⟩ hF (fun x2 σ H locs hF hw => ?_)
      exact hend _ _ _ _ _ _ d_FixityTrees_node_64 hF hw
    have hF := fx_if hc0 hF
    by_cases hc1 : v2 = 1
    · have hF := fx_it hc1 hF
      refine lv_tableIn (off := 43) (tgt := 65) hx hb d_FixityTrees_node_22 (by rw [hc1]; decide) (by rw [hc1]; decide) (by rw [hc1]; rfl) (by decide) ?_
      refine lv_aload_n hx hb d_FixityTrees_node_65 rfl (lv_at hl 0 rfl) ?_
      refine gR_FixityTrees_tree X hw lk_FixityTrees_42 d_FixityTrees_node_66 ?_
      refine lv_iload_n hx hb d_FixityTrees_node_69 rfl (lv_at hl 1 rfl) ?_
      refine k_Tree0_operatorAt X hw lk_FixityTrees_192 d_FixityTrees_node_70 hl.1 (lv_room (Nat.le_of_ble_eq_true rfl)) ⟨Nat.le_of_ble_eq_true rfl, Nat.le_of_ble_eq_true rfl⟩ ⟨Nat.zero_le _, Nat.zero_le _⟩ hF (fun x3 σ H locs hF hw => ?_)
      exact hend _ _ _ _ _ _ d_FixityTrees_node_73 hF hw
    have hF := fx_if hc1 hF
    by_cases hc2 : v2 = 2
    · have hF := fx_it hc2 hF
      refine lv_tableIn (off := 52) (tgt := 74) hx hb d_FixityTrees_node_22 (by rw [hc2]; decide) (by rw [hc2]; decide) (by rw [hc2]; rfl) (by decide) ?_
      refine lv_aload_n hx hb d_FixityTrees_node_74 rfl (lv_at hl 0 rfl) ?_
      refine gR_FixityTrees_tree X hw lk_FixityTrees_42 d_FixityTrees_node_75 ?_
      refine lv_iload_n hx hb d_FixityTrees_node_78 rfl (lv_at hl 1 rfl) ?_
      refine k_Tree0_firstAt X hw lk_FixityTrees_195 d_FixityTrees_node_79 hl.1 (lv_room (Nat.le_of_ble_eq_true rfl)) ⟨Nat.le_of_ble_eq_true rfl, Nat.le_of_ble_eq_true rfl⟩ ⟨Nat.zero_le _, Nat.zero_le _⟩ hF (fun x4 σ H locs hF hw => ?_)
      exact hend _ _ _ _ _ _ d_FixityTrees_node_82 hF hw
    have hF := fx_if hc2 hF
    by_cases hc3 : v2 = 3
    · have hF := fx_it hc3 hF
      refine lv_tableIn (off := 61) (tgt := 83) hx hb d_FixityTrees_node_22 (by rw [hc3]; decide) (by rw [hc3]; decide) (by rw [hc3]; rfl) (by decide) ?_
      refine lv_aload_n hx hb d_FixityTrees_node_83 rfl (lv_at hl 0 rfl) ?_
      refine gR_FixityTrees_tree X hw lk_FixityTrees_42 d_FixityTrees_node_84 ?_
      refine lv_iload_n hx hb d_FixityTrees_node_87 rfl (lv_at hl 1 rfl) ?_
      refine k_Tree0_secondAt X hw lk_FixityTrees_198 d_FixityTrees_node_88 hl.1 (lv_room (Nat.le_of_ble_eq_true rfl)) ⟨Nat.le_of_ble_eq_true rfl, Nat.le_of_ble_eq_true rfl⟩ ⟨Nat.zero_le _, Nat.zero_le _⟩ hF (fun x5 σ H locs hF hw => ?_)
      exact hend _ _ _ _ _ _ d_FixityTrees_node_91 hF hw
    have hF := fx_if hc3 hF
    by_cases hc4 : v2 = 4
    · have hF := fx_it hc4 hF
      refine lv_tableIn (off := 70) (tgt := 92) hx hb d_FixityTrees_node_22 (by rw [hc4]; decide) (by rw [hc4]; decide) (by rw [hc4]; rfl) (by decide) ?_
      refine lv_aload_n hx hb d_FixityTrees_node_92 rfl (lv_at hl 0 rfl) ?_
      refine gR_FixityTrees_tree X hw lk_FixityTrees_42 d_FixityTrees_node_93 ?_
      refine lv_iload_n hx hb d_FixityTrees_node_96 rfl (lv_at hl 1 rfl) ?_
      refine k_Tree0_placeAt X hw lk_FixityTrees_201 d_FixityTrees_node_97 hl.1 (lv_room (Nat.le_of_ble_eq_true rfl)) ⟨Nat.le_of_ble_eq_true rfl, Nat.le_of_ble_eq_true rfl⟩ ⟨Nat.zero_le _, Nat.zero_le _⟩ hF (fun x6 σ H locs hF hw => ?_)
      exact hend _ _ _ _ _ _ d_FixityTrees_node_100 hF hw
    have hF := fx_if hc4 hF
    refine lv_tableOut (tgt := 101) hx hb d_FixityTrees_node_22 (fx_sw0_4 hc0 hc1 hc2 hc3 hc4) (by decide) ?_
    exact hthr 2 _ _ _ _ _ _ tw_FixityTrees_node_101 (Nat.le_of_ble_eq_true rfl) hl.1 hF hw
  · have hF := fx_it hc hF
    exact hthr 0 _ _ _ _ _ _ tw_FixityTrees_node_11 (Nat.le_of_ble_eq_true rfl) hl.1 hF hw
theorem c_FixityTrees_node (l : Launch) (D : va_G) (h : Nat → Nat) (cA : Nat → ClassId) (hlt : l.stackTraces = false) (v1 : Int32) (v2 : Int32) : fx_Rn va_Qi l y_FixityTrees_node b_FixityTrees_node 3 (some .int) { frames := 6, cells := 0, slots := 0, locals := 91 } D fx_cl (fx_tys cA) fx_g fx_G (fx_ws h cA) [.ref (h 0), .int v1, .int v2] (F_FixityTrees_node v1 v2) := fx_ofr_i (w_FixityTrees_node l D h cA v1 v2) fx_G_ok hlt (by decide) (Nat.le_of_ble_eq_true rfl)
theorem x_FixityTrees_node (l : Launch) (D : va_G) (h : Nat → Nat) (cA : Nat → ClassId) (hlt : l.stackTraces = false) (v1 : Int32) (v2 : Int32) : fx_Tx l y_FixityTrees_node b_FixityTrees_node 3 (some .int) { frames := 6, cells := 0, slots := 0, locals := 91 } D fx_cl (fx_tys cA) fx_g fx_G (fx_ws h cA) [.ref (h 0), .int v1, .int v2] (F_FixityTrees_node v1 v2) := fx_oft (w_FixityTrees_node l D h cA v1 v2) (fun p e s m args below meth c A Q code σ' => fx_nEi p e s m args below meth c A Q code σ') fx_G_ok fx_gok hlt (by decide) (Nat.le_of_ble_eq_true rfl)
set_option maxHeartbeats 4000000 in
set_option maxRecDepth 100000 in
theorem w_FixityTrees_number (l : Launch) (D : va_G) (h : Nat → Nat) (cA : Nat → ClassId) (v1 : Int32) : fx_WX fx_Exl l y_FixityTrees_number b_FixityTrees_number 2 { frames := 6, cells := 0, slots := 0, locals := 91 } D fx_cl (fx_tys cA) fx_g fx_G (fx_ws h cA) [.ref (h 0), .int v1] (F_FixityTrees_number v1) := by
  intro p e s m args below meth c A ls σ res Q hF X XT hw hl hend hthr hprop
  have hx := X.1.1
  have hb := X.1.2.1
  have hl : lv_has ls 2 [(0, .ref (h 0)), (1, .int v1)] := hl
  unfold F_FixityTrees_number at hF
  refine lv_aload_n hx hb d_FixityTrees_number_0 rfl (lv_at hl 0 rfl) ?_
  refine gR_FixityTrees_tree X hw lk_FixityTrees_42 d_FixityTrees_number_1 ?_
  refine lv_iload_n hx hb d_FixityTrees_number_4 rfl (lv_at hl 1 rfl) ?_
  refine k_Tree0_kindAt X hw lk_FixityTrees_189 d_FixityTrees_number_5 hl.1 (lv_room (Nat.le_of_ble_eq_true rfl)) ⟨Nat.le_of_ble_eq_true rfl, Nat.le_of_ble_eq_true rfl⟩ ⟨Nat.zero_le _, Nat.zero_le _⟩ hF (fun x1 σ H locs hF hw => ?_)
  refine lv_if_eq (tgt := 21) hx hb d_FixityTrees_number_8 (by decide) (fun hc => ?_) (fun hc => ?_)
  · have hF := fx_it hc hF
    refine lv_aload_n hx hb d_FixityTrees_number_21 rfl (lv_at hl 0 rfl) ?_
    refine gR_FixityTrees_tree X hw lk_FixityTrees_42 d_FixityTrees_number_22 ?_
    refine lv_iload_n hx hb d_FixityTrees_number_25 rfl (lv_at hl 1 rfl) ?_
    refine k_Tree0_numberAt X hw lk_FixityTrees_208 d_FixityTrees_number_26 hl.1 (lv_room (Nat.le_of_ble_eq_true rfl)) ⟨Nat.le_of_ble_eq_true rfl, Nat.le_of_ble_eq_true rfl⟩ ⟨Nat.zero_le _, Nat.zero_le _⟩ hF (fun x2 σ H locs hF hw => ?_)
    exact hend _ _ _ _ _ _ d_FixityTrees_number_29 hF hw
  · have hF := fx_if hc hF
    exact hthr 0 _ _ _ _ _ _ tw_FixityTrees_number_11 (Nat.le_of_ble_eq_true rfl) hl.1 hF hw
theorem c_FixityTrees_number (l : Launch) (D : va_G) (h : Nat → Nat) (cA : Nat → ClassId) (hlt : l.stackTraces = false) (v1 : Int32) : fx_Rn va_Ql l y_FixityTrees_number b_FixityTrees_number 2 (some .long) { frames := 6, cells := 0, slots := 0, locals := 91 } D fx_cl (fx_tys cA) fx_g fx_G (fx_ws h cA) [.ref (h 0), .int v1] (F_FixityTrees_number v1) := fx_ofr_l (w_FixityTrees_number l D h cA v1) fx_G_ok hlt (by decide) (Nat.le_of_ble_eq_true rfl)
theorem x_FixityTrees_number (l : Launch) (D : va_G) (h : Nat → Nat) (cA : Nat → ClassId) (hlt : l.stackTraces = false) (v1 : Int32) : fx_Tx l y_FixityTrees_number b_FixityTrees_number 2 (some .long) { frames := 6, cells := 0, slots := 0, locals := 91 } D fx_cl (fx_tys cA) fx_g fx_G (fx_ws h cA) [.ref (h 0), .int v1] (F_FixityTrees_number v1) := fx_oft (w_FixityTrees_number l D h cA v1) (fun p e s m args below meth c A Q code σ' => fx_nEl p e s m args below meth c A Q code σ') fx_G_ok fx_gok hlt (by decide) (Nat.le_of_ble_eq_true rfl)
set_option maxHeartbeats 4000000 in
set_option maxRecDepth 100000 in
theorem w_FixityTrees_requireTree (l : Launch) (D : va_G) (h : Nat → Nat) (cA : Nat → ClassId) : fx_WX fx_Exv l y_FixityTrees_requireTree b_FixityTrees_requireTree 1 { frames := 6, cells := 0, slots := 0, locals := 91 } D fx_cl (fx_tys cA) fx_g fx_G (fx_ws h cA) [.ref (h 0)] (F_FixityTrees_requireTree) := by
  intro p e s m args below meth c A ls σ res Q hF X XT hw hl hend hthr hprop
  have hx := X.1.1
  have hb := X.1.2.1
  have hl : lv_has ls 1 [(0, .ref (h 0))] := hl
  unfold F_FixityTrees_requireTree at hF
  refine lv_aload_n hx hb d_FixityTrees_requireTree_0 rfl (lv_at hl 0 rfl) ?_
  refine gR_FixityTrees_tree X hw lk_FixityTrees_42 d_FixityTrees_requireTree_1 ?_
  refine k_Tree0_size X hw lk_FixityTrees_179 d_FixityTrees_requireTree_4 hl.1 (lv_room (Nat.le_of_ble_eq_true rfl)) ⟨Nat.le_of_ble_eq_true rfl, Nat.le_of_ble_eq_true rfl⟩ ⟨Nat.zero_le _, Nat.zero_le _⟩ hF (fun x1 σ H locs hF hw => ?_)
  refine lv_if_ne (tgt := 21) hx hb d_FixityTrees_requireTree_7 (by decide) (fun hc => ?_) (fun hc => ?_)
  · have hF := fx_if hc hF
    exact hend _ _ _ _ _ d_FixityTrees_requireTree_21 hF hw
  · have hF := fx_it hc hF
    exact hthr 1 _ _ _ _ _ _ tw_FixityTrees_requireTree_10 (Nat.le_of_ble_eq_true rfl) hl.1 hF hw
theorem c_FixityTrees_requireTree (l : Launch) (D : va_G) (h : Nat → Nat) (cA : Nat → ClassId) (hlt : l.stackTraces = false) : fx_Rn fx_Qv l y_FixityTrees_requireTree b_FixityTrees_requireTree 1 none { frames := 6, cells := 0, slots := 0, locals := 91 } D fx_cl (fx_tys cA) fx_g fx_G (fx_ws h cA) [.ref (h 0)] (F_FixityTrees_requireTree) := fx_ofr_v (w_FixityTrees_requireTree l D h cA) fx_G_ok hlt (by decide) (Nat.le_of_ble_eq_true rfl)
theorem x_FixityTrees_requireTree (l : Launch) (D : va_G) (h : Nat → Nat) (cA : Nat → ClassId) (hlt : l.stackTraces = false) : fx_Tx l y_FixityTrees_requireTree b_FixityTrees_requireTree 1 none { frames := 6, cells := 0, slots := 0, locals := 91 } D fx_cl (fx_tys cA) fx_g fx_G (fx_ws h cA) [.ref (h 0)] (F_FixityTrees_requireTree) := fx_oft (w_FixityTrees_requireTree l D h cA) (fun p e s m args below meth c A Q code σ' => fx_nEv p e s m args below meth c A Q code σ') fx_G_ok fx_gok hlt (by decide) (Nat.le_of_ble_eq_true rfl)
section
variable {p : Program} {l : Launch} {e : Env} {R : Room} {s : State} {m : MethodId} {args : Array Value} {below : List Frame} {meth : Method} {c : Code} {H : Heap} {locs : List Loc} {cells slots : Nat} {Q : State → Prop}
variable {cc : ByteArray} {pc nL ix : Nat} {ls : Array Slot} {rest : List Value} {own : String} {D : va_G} {A : Nat → Prop} {h : Nat → Nat} {cA : Nat → ClassId} {σ : fx_S}
theorem k_FixityTrees_requireTree {β : Type} {res : (β ⊕ Nat) × fx_S} (X : fx_X p m c cc nL s args own D fx_cl (fx_tys cA) fx_g fx_G A) (XT : fx_XT l s c A) (hw : fx_B D fx_cl (fx_ws h cA) A s.heap σ H locs) (lk : Cond.methodLink own ix y_FixityTrees_requireTree ∈ fx_g) (hdg : decode cc pc = .ok (.invokevirtual ix, 3)) (hsize : ls.size = nL) (hW : 2 * (F0 m pc ls (.ref (h 0) :: rest)).monitorRoom + (rest.map fun v => v.category).sum ≤ 8) (hR : 6 + 1 ≤ R.frames ∧ 8 + (1 + 11) + 91 ≤ R.locals) (hRc : R.cells = fx_nc res ∧ R.slots = 6 * fx_nc res) (hprop : fx_Pp p l e R s m args below meth c D fx_cl (fx_ws h cA) A Q res) {k : Unit → fx_M (β ⊕ Nat)} (hF : fx_bndx (F_FixityTrees_requireTree) k σ = some res) (kk : ∀ (σ' : fx_S) (H' : Heap) (locs' : List Loc), k () σ' = some res → fx_B D fx_cl (fx_ws h cA) A s.heap σ' H' locs' → W p l e R s m args below meth c H' locs' 0 0 Q (F0 m (pc + 3) ls rest)) : W p l e R s m args below meth c H locs 0 0 Q (F0 m pc ls (.ref (h 0) :: rest)) :=
  fx_callp_v X XT hw (c_FixityTrees_requireTree l D h cA XT.1) (x_FixityTrees_requireTree l D h cA XT.1) (fx_cwV X lk hg_FixityTrees_requireTree fx_gok (rm := fx_r0 { frames := 6, cells := 0, slots := 0, locals := 91 }) rfl rfl (by decide +kernel) hR) (fx_cwV X lk hg_FixityTrees_requireTree fx_gok (rm := fx_r1 { frames := 6, cells := 0, slots := 0, locals := 91 }) rfl rfl (by decide +kernel) hR) (va_recv X.2.1 hw.1 (ci := 0) (q0 := 0) rfl rfl) (n := 0) rfl hdg hsize rfl hW hRc hprop hF kk
end
set_option maxHeartbeats 4000000 in
set_option maxRecDepth 100000 in
theorem w_FixityTrees_write (l : Launch) (D : va_G) (h : Nat → Nat) (cA : Nat → ClassId) (v1 : Int32) : fx_WX fx_Exi l y_FixityTrees_write b_FixityTrees_write 2 { frames := 7, cells := 0, slots := 0, locals := 113 } D fx_cl (fx_tys cA) fx_g fx_G (fx_ws h cA) [.ref (h 0), .int v1] (F_FixityTrees_write v1) := by
  intro p e s m args below meth c A ls σ res Q hF X XT hw hl hend hthr hprop
  have hx := X.1.1
  have hb := X.1.2.1
  have hl : lv_has ls 2 [(0, .ref (h 0)), (1, .int v1)] := hl
  unfold F_FixityTrees_write at hF
  refine lv_aload_n hx hb d_FixityTrees_write_0 rfl (lv_at hl 0 rfl) ?_
  refine lv_iload_n hx hb d_FixityTrees_write_1 rfl (lv_at hl 1 rfl) ?_
  refine k_FixityTrees_requireScope X XT hw lk_FixityTrees_68 d_FixityTrees_write_2 hl.1 (lv_room (Nat.le_of_ble_eq_true rfl)) ⟨Nat.le_of_ble_eq_true rfl, Nat.le_of_ble_eq_true rfl⟩ ⟨rfl, rfl⟩ hprop hF (fun σ H locs hF hw => ?_)
  refine lv_aload_n hx hb d_FixityTrees_write_5 rfl (lv_at hl 0 rfl) ?_
  refine k_FixityTrees_requireTree X XT hw lk_FixityTrees_212 d_FixityTrees_write_6 hl.1 (lv_room (Nat.le_of_ble_eq_true rfl)) ⟨Nat.le_of_ble_eq_true rfl, Nat.le_of_ble_eq_true rfl⟩ ⟨rfl, rfl⟩ hprop hF (fun σ H locs hF hw => ?_)
  refine lv_aload_n hx hb d_FixityTrees_write_9 rfl (lv_at hl 0 rfl) ?_
  refine gR_FixityTrees_fixities X hw lk_FixityTrees_19 d_FixityTrees_write_10 ?_
  refine lv_aload_n hx hb d_FixityTrees_write_13 rfl (lv_at hl 0 rfl) ?_
  refine gR_FixityTrees_scopes X hw lk_FixityTrees_12 d_FixityTrees_write_14 ?_
  refine lv_iload_n hx hb d_FixityTrees_write_17 rfl (lv_at hl 1 rfl) ?_
  refine k_Fixities_look_Scopes X hw lk_FixityTrees_155 d_FixityTrees_write_18 hl.1 (lv_room (Nat.le_of_ble_eq_true rfl)) ⟨Nat.le_of_ble_eq_true rfl, Nat.le_of_ble_eq_true rfl⟩ ⟨Nat.zero_le _, Nat.zero_le _⟩ hF (fun σ H locs hF hw => ?_)
  refine lv_aload_n hx hb d_FixityTrees_write_21 rfl (lv_at hl 0 rfl) ?_
  refine gR_FixityTrees_latest X hw lk_FixityTrees_54 d_FixityTrees_write_22 ?_
  refine k_Written_fill X hw lk_FixityTrees_215 d_FixityTrees_write_25 hl.1 (lv_room (Nat.le_of_ble_eq_true rfl)) ⟨Nat.le_of_ble_eq_true rfl, Nat.le_of_ble_eq_true rfl⟩ ⟨Nat.zero_le _, Nat.zero_le _⟩ hF (fun σ H locs hF hw => ?_)
  refine lv_aload_n hx hb d_FixityTrees_write_28 rfl (lv_at hl 0 rfl) ?_
  refine gR_FixityTrees_latest X hw lk_FixityTrees_54 d_FixityTrees_write_29 ?_
  refine k_Written_size X hw lk_FixityTrees_218 d_FixityTrees_write_32 hl.1 (lv_room (Nat.le_of_ble_eq_true rfl)) ⟨Nat.le_of_ble_eq_true rfl, Nat.le_of_ble_eq_true rfl⟩ ⟨Nat.zero_le _, Nat.zero_le _⟩ hF (fun x1 σ H locs hF hw => ?_)
  exact hend _ _ _ _ _ _ d_FixityTrees_write_35 hF hw
theorem c_FixityTrees_write (l : Launch) (D : va_G) (h : Nat → Nat) (cA : Nat → ClassId) (hlt : l.stackTraces = false) (v1 : Int32) : fx_Rn va_Qi l y_FixityTrees_write b_FixityTrees_write 2 (some .int) { frames := 7, cells := 0, slots := 0, locals := 113 } D fx_cl (fx_tys cA) fx_g fx_G (fx_ws h cA) [.ref (h 0), .int v1] (F_FixityTrees_write v1) := fx_ofr_i (w_FixityTrees_write l D h cA v1) fx_G_ok hlt (by decide) (Nat.le_of_ble_eq_true rfl)
theorem x_FixityTrees_write (l : Launch) (D : va_G) (h : Nat → Nat) (cA : Nat → ClassId) (hlt : l.stackTraces = false) (v1 : Int32) : fx_Tx l y_FixityTrees_write b_FixityTrees_write 2 (some .int) { frames := 7, cells := 0, slots := 0, locals := 113 } D fx_cl (fx_tys cA) fx_g fx_G (fx_ws h cA) [.ref (h 0), .int v1] (F_FixityTrees_write v1) := fx_oft (w_FixityTrees_write l D h cA v1) (fun p e s m args below meth c A Q code σ' => fx_nEi p e s m args below meth c A Q code σ') fx_G_ok fx_gok hlt (by decide) (Nat.le_of_ble_eq_true rfl)
set_option maxHeartbeats 4000000 in
set_option maxRecDepth 100000 in
theorem w_FixityTrees_written (l : Launch) (D : va_G) (h : Nat → Nat) (cA : Nat → ClassId) (v1 : Int32) (v2 : Int32) : fx_WX fx_Exi l y_FixityTrees_written b_FixityTrees_written 3 { frames := 6, cells := 0, slots := 0, locals := 91 } D fx_cl (fx_tys cA) fx_g fx_G (fx_ws h cA) [.ref (h 0), .int v1, .int v2] (F_FixityTrees_written v1 v2) := by
  intro p e s m args below meth c A ls σ res Q hF X XT hw hl hend hthr hprop
  have hx := X.1.1
  have hb := X.1.2.1
  have hl : lv_has ls 3 [(0, .ref (h 0)), (1, .int v1), (2, .int v2)] := hl
  unfold F_FixityTrees_written at hF
  refine lv_aload_n hx hb d_FixityTrees_written_0 rfl (lv_at hl 0 rfl) ?_
  refine gR_FixityTrees_latest X hw lk_FixityTrees_54 d_FixityTrees_written_1 ?_
  refine lv_iload_n hx hb d_FixityTrees_written_4 rfl (lv_at hl 1 rfl) ?_
  refine k_Written_has X hw lk_FixityTrees_219 d_FixityTrees_written_5 hl.1 (lv_room (Nat.le_of_ble_eq_true rfl)) ⟨Nat.le_of_ble_eq_true rfl, Nat.le_of_ble_eq_true rfl⟩ ⟨Nat.zero_le _, Nat.zero_le _⟩ hF (fun x1 σ H locs hF hw => ?_)
  refine lv_if_ne (tgt := 21) hx hb d_FixityTrees_written_8 (by decide) (fun hc => ?_) (fun hc => ?_)
  · have hF := fx_if hc hF
    refine lv_iload_n hx hb d_FixityTrees_written_21 rfl (lv_at hl 2 rfl) ?_
    by_cases hc0 : v2 = 0
    · have hF := fx_it hc0 hF
      refine lv_tableIn (off := 26) (tgt := 48) hx hb d_FixityTrees_written_22 (by rw [hc0]; decide) (by rw [hc0]; decide) (by rw [hc0]; rfl) (by decide) ?_
      refine lv_aload_n hx hb d_FixityTrees_written_48 rfl (lv_at hl 0 rfl) ?_
      refine gR_FixityTrees_latest X hw lk_FixityTrees_54 d_FixityTrees_written_49 ?_
      refine lv_iload_n hx hb d_FixityTrees_written_52 rfl (lv_at hl 1 rfl) ?_
      refine k_Written_kindAt X hw lk_FixityTrees_222 d_FixityTrees_written_53 hl.1 (lv_room (Nat.le_of_ble_eq_true rfl)) ⟨Nat.le_of_ble_eq_true rfl, Nat.le_of_ble_eq_true rfl⟩ ⟨Nat.zero_le _, Nat.zero_le _⟩ hF (fun x2 σ H locs hF hw => ?_)
      exact hend _ _ _ _ _ _ d_FixityTrees_written_56 hF hw
    have hF := fx_if hc0 hF
    by_cases hc1 : v2 = 1
    · have hF := fx_it hc1 hF
      refine lv_tableIn (off := 35) (tgt := 57) hx hb d_FixityTrees_written_22 (by rw [hc1]; decide) (by rw [hc1]; decide) (by rw [hc1]; rfl) (by decide) ?_
      refine lv_aload_n hx hb d_FixityTrees_written_57 rfl (lv_at hl 0 rfl) ?_
      refine gR_FixityTrees_latest X hw lk_FixityTrees_54 d_FixityTrees_written_58 ?_
      refine lv_iload_n hx hb d_FixityTrees_written_61 rfl (lv_at hl 1 rfl) ?_
      refine k_Written_operatorAt X hw lk_FixityTrees_223 d_FixityTrees_written_62 hl.1 (lv_room (Nat.le_of_ble_eq_true rfl)) ⟨Nat.le_of_ble_eq_true rfl, Nat.le_of_ble_eq_true rfl⟩ ⟨Nat.zero_le _, Nat.zero_le _⟩ hF (fun x3 σ H locs hF hw => ?_)
      exact hend _ _ _ _ _ _ d_FixityTrees_written_65 hF hw
    have hF := fx_if hc1 hF
    by_cases hc2 : v2 = 2
    · have hF := fx_it hc2 hF
      refine lv_tableIn (off := 44) (tgt := 66) hx hb d_FixityTrees_written_22 (by rw [hc2]; decide) (by rw [hc2]; decide) (by rw [hc2]; rfl) (by decide) ?_
      refine lv_aload_n hx hb d_FixityTrees_written_66 rfl (lv_at hl 0 rfl) ?_
      refine gR_FixityTrees_latest X hw lk_FixityTrees_54 d_FixityTrees_written_67 ?_
      refine lv_iload_n hx hb d_FixityTrees_written_70 rfl (lv_at hl 1 rfl) ?_
      refine k_Written_nodeAt X hw lk_FixityTrees_224 d_FixityTrees_written_71 hl.1 (lv_room (Nat.le_of_ble_eq_true rfl)) ⟨Nat.le_of_ble_eq_true rfl, Nat.le_of_ble_eq_true rfl⟩ ⟨Nat.zero_le _, Nat.zero_le _⟩ hF (fun x4 σ H locs hF hw => ?_)
      exact hend _ _ _ _ _ _ d_FixityTrees_written_74 hF hw
    have hF := fx_if hc2 hF
    refine lv_tableOut (tgt := 75) hx hb d_FixityTrees_written_22 (fx_sw0_2 hc0 hc1 hc2) (by decide) ?_
    exact hthr 2 _ _ _ _ _ _ tw_FixityTrees_written_75 (Nat.le_of_ble_eq_true rfl) hl.1 hF hw
  · have hF := fx_it hc hF
    exact hthr 0 _ _ _ _ _ _ tw_FixityTrees_written_11 (Nat.le_of_ble_eq_true rfl) hl.1 hF hw
theorem c_FixityTrees_written (l : Launch) (D : va_G) (h : Nat → Nat) (cA : Nat → ClassId) (hlt : l.stackTraces = false) (v1 : Int32) (v2 : Int32) : fx_Rn va_Qi l y_FixityTrees_written b_FixityTrees_written 3 (some .int) { frames := 6, cells := 0, slots := 0, locals := 91 } D fx_cl (fx_tys cA) fx_g fx_G (fx_ws h cA) [.ref (h 0), .int v1, .int v2] (F_FixityTrees_written v1 v2) := fx_ofr_i (w_FixityTrees_written l D h cA v1 v2) fx_G_ok hlt (by decide) (Nat.le_of_ble_eq_true rfl)
theorem x_FixityTrees_written (l : Launch) (D : va_G) (h : Nat → Nat) (cA : Nat → ClassId) (hlt : l.stackTraces = false) (v1 : Int32) (v2 : Int32) : fx_Tx l y_FixityTrees_written b_FixityTrees_written 3 (some .int) { frames := 6, cells := 0, slots := 0, locals := 91 } D fx_cl (fx_tys cA) fx_g fx_G (fx_ws h cA) [.ref (h 0), .int v1, .int v2] (F_FixityTrees_written v1 v2) := fx_oft (w_FixityTrees_written l D h cA v1 v2) (fun p e s m args below meth c A Q code σ' => fx_nEi p e s m args below meth c A Q code σ') fx_G_ok fx_gok hlt (by decide) (Nat.le_of_ble_eq_true rfl)
set_option maxHeartbeats 4000000 in
set_option maxRecDepth 100000 in
theorem w_FixityTrees_take (l : Launch) (D : va_G) (h : Nat → Nat) (cA : Nat → ClassId) : fx_WX fx_Exi l y_FixityTrees_take b_FixityTrees_take 2 { frames := 6, cells := 0, slots := 0, locals := 106 } D fx_cl (fx_tys cA) fx_g fx_G (fx_ws h cA) [.ref (h 0)] (F_FixityTrees_take) := by
  intro p e s m args below meth c A ls σ res Q hF X XT hw hl hend hthr hprop
  have hx := X.1.1
  have hb := X.1.2.1
  have hl : lv_has ls 2 [(0, .ref (h 0))] := hl
  unfold F_FixityTrees_take at hF
  have h65 : ∀ (n65 : Nat) (v1 : Int32) (σ : fx_S) (H : Heap) (locs : List Loc) (ls : Array Slot), fx_loop1 (F_FixityTrees_take_B65) n65 v1 σ = some res → fx_B D fx_cl (fx_ws h cA) A s.heap σ H locs → lv_has ls 2 [(0, .ref (h 0)), (1, .int v1)] → W p l e (fx_rx { frames := 6, cells := 0, slots := 0, locals := 106 } res) s m args below meth c H locs 0 0 Q (F0 m 65 ls []) := by
    intro n65
    induction n65 with
    | zero => intro v1 σ H locs ls hF; cases hF
    | succ n65 ih65 =>
      obtain ⟨K65, eK65⟩ : ∃ K, K = fx_loop1 (F_FixityTrees_take_B65) n65 := ⟨_, rfl⟩
      rw [← eK65] at ih65
      intro v1 σ H locs ls hF hw hl
      replace hF : F_FixityTrees_take_B65 (fx_loop1 (F_FixityTrees_take_B65) n65) v1 σ = some res := hF
      rw [← eK65] at hF
      unfold F_FixityTrees_take_B65 at hF
      refine lv_iload_n hx hb d_FixityTrees_take_65 rfl (lv_at hl 1 rfl) ?_
      refine lv_aload_n hx hb d_FixityTrees_take_66 rfl (lv_at hl 0 rfl) ?_
      refine gR_FixityTrees_latest X hw lk_FixityTrees_54 d_FixityTrees_take_67 ?_
      refine k_Written_size X hw lk_FixityTrees_218 d_FixityTrees_take_70 hl.1 (lv_room (Nat.le_of_ble_eq_true rfl)) ⟨Nat.le_of_ble_eq_true rfl, Nat.le_of_ble_eq_true rfl⟩ ⟨Nat.zero_le _, Nat.zero_le _⟩ hF (fun x4 σ H locs hF hw => ?_)
      refine lv_icmp_ge (tgt := 113) hx hb d_FixityTrees_take_73 (by decide) (fun hc => ?_) (fun hc => ?_)
      · have hF := fx_it hc hF
        refine lv_aload_n hx hb d_FixityTrees_take_113 rfl (lv_at hl 0 rfl) ?_
        refine gR_FixityTrees_row X hw lk_FixityTrees_26 d_FixityTrees_take_114 ?_
        refine k_Row_size X hw lk_FixityTrees_133 d_FixityTrees_take_117 hl.1 (lv_room (Nat.le_of_ble_eq_true rfl)) ⟨Nat.le_of_ble_eq_true rfl, Nat.le_of_ble_eq_true rfl⟩ ⟨Nat.zero_le _, Nat.zero_le _⟩ hF (fun x5 σ H locs hF hw => ?_)
        exact hend _ _ _ _ _ _ d_FixityTrees_take_120 hF hw
      · have hF := fx_if hc hF
        refine lv_aload_n hx hb d_FixityTrees_take_76 rfl (lv_at hl 0 rfl) ?_
        refine gR_FixityTrees_row X hw lk_FixityTrees_26 d_FixityTrees_take_77 ?_
        refine lv_aload_n hx hb d_FixityTrees_take_80 rfl (lv_at hl 0 rfl) ?_
        refine gR_FixityTrees_latest X hw lk_FixityTrees_54 d_FixityTrees_take_81 ?_
        refine lv_iload_n hx hb d_FixityTrees_take_84 rfl (lv_at hl 1 rfl) ?_
        refine k_Written_kindAt X hw lk_FixityTrees_222 d_FixityTrees_take_85 hl.1 (lv_room (Nat.le_of_ble_eq_true rfl)) ⟨Nat.le_of_ble_eq_true rfl, Nat.le_of_ble_eq_true rfl⟩ ⟨Nat.zero_le _, Nat.zero_le _⟩ hF (fun x6 σ H locs hF hw => ?_)
        refine lv_aload_n hx hb d_FixityTrees_take_88 rfl (lv_at hl 0 rfl) ?_
        refine gR_FixityTrees_latest X hw lk_FixityTrees_54 d_FixityTrees_take_89 ?_
        refine lv_iload_n hx hb d_FixityTrees_take_92 rfl (lv_at hl 1 rfl) ?_
        refine k_Written_operatorAt X hw lk_FixityTrees_223 d_FixityTrees_take_93 hl.1 (lv_room (Nat.le_of_ble_eq_true rfl)) ⟨Nat.le_of_ble_eq_true rfl, Nat.le_of_ble_eq_true rfl⟩ ⟨Nat.zero_le _, Nat.zero_le _⟩ hF (fun x7 σ H locs hF hw => ?_)
        refine lv_aload_n hx hb d_FixityTrees_take_96 rfl (lv_at hl 0 rfl) ?_
        refine gR_FixityTrees_latest X hw lk_FixityTrees_54 d_FixityTrees_take_97 ?_
        refine lv_iload_n hx hb d_FixityTrees_take_100 rfl (lv_at hl 1 rfl) ?_
        refine k_Written_numberAt X hw lk_FixityTrees_234 d_FixityTrees_take_101 hl.1 (lv_room (Nat.le_of_ble_eq_true rfl)) ⟨Nat.le_of_ble_eq_true rfl, Nat.le_of_ble_eq_true rfl⟩ ⟨Nat.zero_le _, Nat.zero_le _⟩ hF (fun x8 σ H locs hF hw => ?_)
        refine k_Row_add X hw lk_FixityTrees_130 d_FixityTrees_take_104 hl.1 (lv_room (Nat.le_of_ble_eq_true rfl)) ⟨Nat.le_of_ble_eq_true rfl, Nat.le_of_ble_eq_true rfl⟩ ⟨Nat.zero_le _, Nat.zero_le _⟩ hF (fun σ H locs hF hw => ?_)
        refine fx_iinc (lv' := fun x9 => [(1, .int x9), (0, .ref (h 0))]) hx hb d_FixityTrees_take_107 hl (k := 1) rfl rfl (by decide) (fun _ => rfl) hF (fun x9 ls hF hl => ?_)
        refine lv_goto (tgt := 65) hx hb d_FixityTrees_take_110 (by decide) ?_
        exact ih65 x9 _ _ _ _ hF hw (lv_sub hl [1, 0] rfl)
  refine lv_aload_n hx hb d_FixityTrees_take_0 rfl (lv_at hl 0 rfl) ?_
  refine gR_FixityTrees_latest X hw lk_FixityTrees_54 d_FixityTrees_take_1 ?_
  refine k_Written_size X hw lk_FixityTrees_218 d_FixityTrees_take_4 hl.1 (lv_room (Nat.le_of_ble_eq_true rfl)) ⟨Nat.le_of_ble_eq_true rfl, Nat.le_of_ble_eq_true rfl⟩ ⟨Nat.zero_le _, Nat.zero_le _⟩ hF (fun x1 σ H locs hF hw => ?_)
  refine lv_if_ne (tgt := 20) hx hb d_FixityTrees_take_7 (by decide) (fun hc => ?_) (fun hc => ?_)
  · have hF := fx_if hc hF
    refine lv_aload_n hx hb d_FixityTrees_take_20 rfl (lv_at hl 0 rfl) ?_
    refine gR_FixityTrees_latest X hw lk_FixityTrees_54 d_FixityTrees_take_21 ?_
    refine k_Written_size X hw lk_FixityTrees_218 d_FixityTrees_take_24 hl.1 (lv_room (Nat.le_of_ble_eq_true rfl)) ⟨Nat.le_of_ble_eq_true rfl, Nat.le_of_ble_eq_true rfl⟩ ⟨Nat.zero_le _, Nat.zero_le _⟩ hF (fun x2 σ H locs hF hw => ?_)
    refine lv_sipush (v := 200) hx hb d_FixityTrees_take_27 (by decide) ?_
    refine lv_icmp_gt (tgt := 45) hx hb d_FixityTrees_take_30 (by decide) (fun hc => ?_) (fun hc => ?_)
    · have hF := fx_it hc hF
      exact hthr 1 _ _ _ _ _ _ tw_FixityTrees_take_45 (Nat.le_of_ble_eq_true rfl) hl.1 hF hw
    · have hF := fx_if hc hF
      refine lv_aload_n hx hb d_FixityTrees_take_33 rfl (lv_at hl 0 rfl) ?_
      refine gR_FixityTrees_latest X hw lk_FixityTrees_54 d_FixityTrees_take_34 ?_
      refine k_Written_mostOpen X hw lk_FixityTrees_229 d_FixityTrees_take_37 hl.1 (lv_room (Nat.le_of_ble_eq_true rfl)) ⟨Nat.le_of_ble_eq_true rfl, Nat.le_of_ble_eq_true rfl⟩ ⟨Nat.zero_le _, Nat.zero_le _⟩ hF (fun x3 σ H locs hF hw => ?_)
      refine lv_bipush (v := 40) hx hb d_FixityTrees_take_40 (by decide) ?_
      refine lv_icmp_le (tgt := 55) hx hb d_FixityTrees_take_42 (by decide) (fun hc => ?_) (fun hc => ?_)
      · have hF := fx_it hc hF
        refine lv_aload_n hx hb d_FixityTrees_take_55 rfl (lv_at hl 0 rfl) ?_
        refine gR_FixityTrees_row X hw lk_FixityTrees_26 d_FixityTrees_take_56 ?_
        refine lv_iconst (v := 0) hx hb d_FixityTrees_take_59 (by decide) ?_
        refine k_Row_clear X hw lk_FixityTrees_121 d_FixityTrees_take_60 hl.1 (lv_room (Nat.le_of_ble_eq_true rfl)) ⟨Nat.le_of_ble_eq_true rfl, Nat.le_of_ble_eq_true rfl⟩ ⟨Nat.zero_le _, Nat.zero_le _⟩ hF (fun σ H locs hF hw => ?_)
        refine lv_iconst (v := 0) hx hb d_FixityTrees_take_63 (by decide) ?_
        refine lv_istore_n (lv' := [(1, .int 0), (0, .ref (h 0))]) hx hb d_FixityTrees_take_64 rfl hl (by decide) rfl (fun ls hl => ?_)
        exact h65 fx_fuel 0 _ _ _ _ hF hw (lv_sub hl [1, 0] rfl)
      · have hF := fx_if hc hF
        exact hthr 1 _ _ _ _ _ _ tw_FixityTrees_take_45 (Nat.le_of_ble_eq_true rfl) hl.1 hF hw
  · have hF := fx_it hc hF
    exact hthr 1 _ _ _ _ _ _ tw_FixityTrees_take_10 (Nat.le_of_ble_eq_true rfl) hl.1 hF hw
theorem c_FixityTrees_take (l : Launch) (D : va_G) (h : Nat → Nat) (cA : Nat → ClassId) (hlt : l.stackTraces = false) : fx_Rn va_Qi l y_FixityTrees_take b_FixityTrees_take 2 (some .int) { frames := 6, cells := 0, slots := 0, locals := 106 } D fx_cl (fx_tys cA) fx_g fx_G (fx_ws h cA) [.ref (h 0)] (F_FixityTrees_take) := fx_ofr_i (w_FixityTrees_take l D h cA) fx_G_ok hlt (by decide) (Nat.le_of_ble_eq_true rfl)
theorem x_FixityTrees_take (l : Launch) (D : va_G) (h : Nat → Nat) (cA : Nat → ClassId) (hlt : l.stackTraces = false) : fx_Tx l y_FixityTrees_take b_FixityTrees_take 2 (some .int) { frames := 6, cells := 0, slots := 0, locals := 106 } D fx_cl (fx_tys cA) fx_g fx_G (fx_ws h cA) [.ref (h 0)] (F_FixityTrees_take) := fx_oft (w_FixityTrees_take l D h cA) (fun p e s m args below meth c A Q code σ' => fx_nEi p e s m args below meth c A Q code σ') fx_G_ok fx_gok hlt (by decide) (Nat.le_of_ble_eq_true rfl)
set_option maxHeartbeats 4000000 in
set_option maxRecDepth 100000 in
theorem w_FixityTrees_same (l : Launch) (D : va_G) (h : Nat → Nat) (cA : Nat → ClassId) (v1 : Int32) : fx_WX fx_Exz l y_FixityTrees_same b_FixityTrees_same 2 { frames := 7, cells := 0, slots := 0, locals := 134 } D fx_cl (fx_tys cA) fx_g fx_G (fx_ws h cA) [.ref (h 0), .int v1] (F_FixityTrees_same v1) := by
  intro p e s m args below meth c A ls σ res Q hF X XT hw hl hend hthr hprop
  have hx := X.1.1
  have hb := X.1.2.1
  have hl : lv_has ls 2 [(0, .ref (h 0)), (1, .int v1)] := hl
  unfold F_FixityTrees_same at hF
  refine lv_aload_n hx hb d_FixityTrees_same_0 rfl (lv_at hl 0 rfl) ?_
  refine lv_iload_n hx hb d_FixityTrees_same_1 rfl (lv_at hl 1 rfl) ?_
  refine k_FixityTrees_requireScope X XT hw lk_FixityTrees_68 d_FixityTrees_same_2 hl.1 (lv_room (Nat.le_of_ble_eq_true rfl)) ⟨Nat.le_of_ble_eq_true rfl, Nat.le_of_ble_eq_true rfl⟩ ⟨rfl, rfl⟩ hprop hF (fun σ H locs hF hw => ?_)
  refine lv_aload_n hx hb d_FixityTrees_same_5 rfl (lv_at hl 0 rfl) ?_
  refine k_FixityTrees_requireWholeRow X XT hw lk_FixityTrees_152 d_FixityTrees_same_6 hl.1 (lv_room (Nat.le_of_ble_eq_true rfl)) ⟨Nat.le_of_ble_eq_true rfl, Nat.le_of_ble_eq_true rfl⟩ ⟨rfl, rfl⟩ hprop hF (fun σ H locs hF hw => ?_)
  refine lv_aload_n hx hb d_FixityTrees_same_9 rfl (lv_at hl 0 rfl) ?_
  refine k_FixityTrees_requireTree X XT hw lk_FixityTrees_212 d_FixityTrees_same_10 hl.1 (lv_room (Nat.le_of_ble_eq_true rfl)) ⟨Nat.le_of_ble_eq_true rfl, Nat.le_of_ble_eq_true rfl⟩ ⟨rfl, rfl⟩ hprop hF (fun σ H locs hF hw => ?_)
  refine lv_aload_n hx hb d_FixityTrees_same_13 rfl (lv_at hl 0 rfl) ?_
  refine gR_FixityTrees_fixities X hw lk_FixityTrees_19 d_FixityTrees_same_14 ?_
  refine lv_aload_n hx hb d_FixityTrees_same_17 rfl (lv_at hl 0 rfl) ?_
  refine gR_FixityTrees_scopes X hw lk_FixityTrees_12 d_FixityTrees_same_18 ?_
  refine lv_iload_n hx hb d_FixityTrees_same_21 rfl (lv_at hl 1 rfl) ?_
  refine k_Fixities_look_Scopes X hw lk_FixityTrees_155 d_FixityTrees_same_22 hl.1 (lv_room (Nat.le_of_ble_eq_true rfl)) ⟨Nat.le_of_ble_eq_true rfl, Nat.le_of_ble_eq_true rfl⟩ ⟨Nat.zero_le _, Nat.zero_le _⟩ hF (fun σ H locs hF hw => ?_)
  refine lv_aload_n hx hb d_FixityTrees_same_25 rfl (lv_at hl 0 rfl) ?_
  refine gR_FixityTrees_resolver X hw lk_FixityTrees_35 d_FixityTrees_same_26 ?_
  refine k_Resolver_run X hw lk_FixityTrees_159 d_FixityTrees_same_29 hl.1 (lv_room (Nat.le_of_ble_eq_true rfl)) ⟨Nat.le_of_ble_eq_true rfl, Nat.le_of_ble_eq_true rfl⟩ ⟨Nat.zero_le _, Nat.zero_le _⟩ hF (fun σ H locs hF hw => ?_)
  refine lv_aload_n hx hb d_FixityTrees_same_32 rfl (lv_at hl 0 rfl) ?_
  refine gR_FixityTrees_resolver X hw lk_FixityTrees_35 d_FixityTrees_same_33 ?_
  refine k_Resolver_clashKind X hw lk_FixityTrees_162 d_FixityTrees_same_36 hl.1 (lv_room (Nat.le_of_ble_eq_true rfl)) ⟨Nat.le_of_ble_eq_true rfl, Nat.le_of_ble_eq_true rfl⟩ ⟨Nat.zero_le _, Nat.zero_le _⟩ hF (fun x1 σ H locs hF hw => ?_)
  refine lv_iconst (v := (-1)) hx hb d_FixityTrees_same_39 (by decide) ?_
  refine lv_icmp_eq (tgt := 45) hx hb d_FixityTrees_same_40 (by decide) (fun hc => ?_) (fun hc => ?_)
  · have hF := fx_it hc hF
    refine lv_aload_n hx hb d_FixityTrees_same_45 rfl (lv_at hl 0 rfl) ?_
    refine gR_FixityTrees_resolver X hw lk_FixityTrees_35 d_FixityTrees_same_46 ?_
    refine lv_aload_n hx hb d_FixityTrees_same_49 rfl (lv_at hl 0 rfl) ?_
    refine gR_FixityTrees_trial X hw lk_FixityTrees_46 d_FixityTrees_same_50 ?_
    refine k_Resolver_numberInto_Tree1 X hw lk_FixityTrees_170 d_FixityTrees_same_53 hl.1 (lv_room (Nat.le_of_ble_eq_true rfl)) ⟨Nat.le_of_ble_eq_true rfl, Nat.le_of_ble_eq_true rfl⟩ ⟨Nat.zero_le _, Nat.zero_le _⟩ hF (fun σ H locs hF hw => ?_)
    refine lv_aload_n hx hb d_FixityTrees_same_56 rfl (lv_at hl 0 rfl) ?_
    refine gR_FixityTrees_trial X hw lk_FixityTrees_46 d_FixityTrees_same_57 ?_
    refine lv_aload_n hx hb d_FixityTrees_same_60 rfl (lv_at hl 0 rfl) ?_
    refine gR_FixityTrees_tree X hw lk_FixityTrees_42 d_FixityTrees_same_61 ?_
    refine k_Tree1_isLike_Tree0 X hw lk_FixityTrees_235 d_FixityTrees_same_64 hl.1 (lv_room (Nat.le_of_ble_eq_true rfl)) ⟨Nat.le_of_ble_eq_true rfl, Nat.le_of_ble_eq_true rfl⟩ ⟨Nat.zero_le _, Nat.zero_le _⟩ hF (fun x2 σ H locs hF hw => ?_)
    exact hend _ _ _ _ _ _ d_FixityTrees_same_67 hF hw
  · have hF := fx_if hc hF
    refine lv_iconst (v := 0) hx hb d_FixityTrees_same_43 (by decide) ?_
    exact hend _ _ _ _ _ _ d_FixityTrees_same_44 hF hw
theorem c_FixityTrees_same (l : Launch) (D : va_G) (h : Nat → Nat) (cA : Nat → ClassId) (hlt : l.stackTraces = false) (v1 : Int32) : fx_Rn va_Qi l y_FixityTrees_same b_FixityTrees_same 2 (some .boolean) { frames := 7, cells := 0, slots := 0, locals := 134 } D fx_cl (fx_tys cA) fx_g fx_G (fx_ws h cA) [.ref (h 0), .int v1] (F_FixityTrees_same v1) := fx_ofr_z (w_FixityTrees_same l D h cA v1) fx_G_ok hlt (by decide) (Nat.le_of_ble_eq_true rfl)
theorem x_FixityTrees_same (l : Launch) (D : va_G) (h : Nat → Nat) (cA : Nat → ClassId) (hlt : l.stackTraces = false) (v1 : Int32) : fx_Tx l y_FixityTrees_same b_FixityTrees_same 2 (some .boolean) { frames := 7, cells := 0, slots := 0, locals := 134 } D fx_cl (fx_tys cA) fx_g fx_G (fx_ws h cA) [.ref (h 0), .int v1] (F_FixityTrees_same v1) := fx_oft (w_FixityTrees_same l D h cA v1) (fun p e s m args below meth c A Q code σ' => fx_nEz p e s m args below meth c A Q code σ') fx_G_ok fx_gok hlt (by decide) (Nat.le_of_ble_eq_true rfl)
set_option maxHeartbeats 4000000 in
set_option maxRecDepth 100000 in
theorem w_FixityTrees_told (l : Launch) (D : va_G) (h : Nat → Nat) (cA : Nat → ClassId) (v1 : Int32) : fx_WX fx_Exi l y_FixityTrees_told b_FixityTrees_told 2 { frames := 6, cells := 0, slots := 0, locals := 91 } D fx_cl (fx_tys cA) fx_g fx_G (fx_ws h cA) [.ref (h 0), .int v1] (F_FixityTrees_told v1) := by
  intro p e s m args below meth c A ls σ res Q hF X XT hw hl hend hthr hprop
  have hx := X.1.1
  have hb := X.1.2.1
  have hl : lv_has ls 2 [(0, .ref (h 0)), (1, .int v1)] := hl
  unfold F_FixityTrees_told at hF
  refine lv_iload_n hx hb d_FixityTrees_told_0 rfl (lv_at hl 1 rfl) ?_
  by_cases hc0 : v1 = 0
  · have hF := fx_it hc0 hF
    refine lv_tableIn (off := 43) (tgt := 44) hx hb d_FixityTrees_told_1 (by rw [hc0]; decide) (by rw [hc0]; decide) (by rw [hc0]; rfl) (by decide) ?_
    refine lv_aload_n hx hb d_FixityTrees_told_44 rfl (lv_at hl 0 rfl) ?_
    refine gR_FixityTrees_row X hw lk_FixityTrees_26 d_FixityTrees_told_45 ?_
    refine k_Row_size X hw lk_FixityTrees_133 d_FixityTrees_told_48 hl.1 (lv_room (Nat.le_of_ble_eq_true rfl)) ⟨Nat.le_of_ble_eq_true rfl, Nat.le_of_ble_eq_true rfl⟩ ⟨Nat.zero_le _, Nat.zero_le _⟩ hF (fun x1 σ H locs hF hw => ?_)
    exact hend _ _ _ _ _ _ d_FixityTrees_told_51 hF hw
  have hF := fx_if hc0 hF
  by_cases hc1 : v1 = 1
  · have hF := fx_it hc1 hF
    refine lv_tableIn (off := 51) (tgt := 52) hx hb d_FixityTrees_told_1 (by rw [hc1]; decide) (by rw [hc1]; decide) (by rw [hc1]; rfl) (by decide) ?_
    refine lv_aload_n hx hb d_FixityTrees_told_52 rfl (lv_at hl 0 rfl) ?_
    refine gR_FixityTrees_row X hw lk_FixityTrees_26 d_FixityTrees_told_53 ?_
    refine k_Row_openSize X hw lk_FixityTrees_239 d_FixityTrees_told_56 hl.1 (lv_room (Nat.le_of_ble_eq_true rfl)) ⟨Nat.le_of_ble_eq_true rfl, Nat.le_of_ble_eq_true rfl⟩ ⟨Nat.zero_le _, Nat.zero_le _⟩ hF (fun x2 σ H locs hF hw => ?_)
    exact hend _ _ _ _ _ _ d_FixityTrees_told_59 hF hw
  have hF := fx_if hc1 hF
  by_cases hc2 : v1 = 2
  · have hF := fx_it hc2 hF
    refine lv_tableIn (off := 59) (tgt := 60) hx hb d_FixityTrees_told_1 (by rw [hc2]; decide) (by rw [hc2]; decide) (by rw [hc2]; rfl) (by decide) ?_
    refine lv_aload_n hx hb d_FixityTrees_told_60 rfl (lv_at hl 0 rfl) ?_
    refine gR_FixityTrees_row X hw lk_FixityTrees_26 d_FixityTrees_told_61 ?_
    refine k_Row_operandIsDue X hw lk_FixityTrees_242 d_FixityTrees_told_64 hl.1 (lv_room (Nat.le_of_ble_eq_true rfl)) ⟨Nat.le_of_ble_eq_true rfl, Nat.le_of_ble_eq_true rfl⟩ ⟨Nat.zero_le _, Nat.zero_le _⟩ hF (fun x3 σ H locs hF hw => ?_)
    refine lv_if_eq (tgt := 74) hx hb d_FixityTrees_told_67 (by decide) (fun hc => ?_) (fun hc => ?_)
    · have hF := fx_it hc hF
      refine lv_iconst (v := 0) hx hb d_FixityTrees_told_74 (by decide) ?_
      exact hend _ _ _ _ _ _ d_FixityTrees_told_75 hF hw
    · have hF := fx_if hc hF
      refine lv_iconst (v := 1) hx hb d_FixityTrees_told_70 (by decide) ?_
      refine lv_goto (tgt := 75) hx hb d_FixityTrees_told_71 (by decide) ?_
      exact hend _ _ _ _ _ _ d_FixityTrees_told_75 hF hw
  have hF := fx_if hc2 hF
  by_cases hc3 : v1 = 3
  · have hF := fx_it hc3 hF
    refine lv_tableIn (off := 75) (tgt := 76) hx hb d_FixityTrees_told_1 (by rw [hc3]; decide) (by rw [hc3]; decide) (by rw [hc3]; rfl) (by decide) ?_
    refine lv_aload_n hx hb d_FixityTrees_told_76 rfl (lv_at hl 0 rfl) ?_
    refine gR_FixityTrees_scopes X hw lk_FixityTrees_12 d_FixityTrees_told_77 ?_
    refine k_Scopes_size X hw lk_FixityTrees_245 d_FixityTrees_told_80 hl.1 (lv_room (Nat.le_of_ble_eq_true rfl)) ⟨Nat.le_of_ble_eq_true rfl, Nat.le_of_ble_eq_true rfl⟩ ⟨Nat.zero_le _, Nat.zero_le _⟩ hF (fun x4 σ H locs hF hw => ?_)
    exact hend _ _ _ _ _ _ d_FixityTrees_told_83 hF hw
  have hF := fx_if hc3 hF
  by_cases hc4 : v1 = 4
  · have hF := fx_it hc4 hF
    refine lv_tableIn (off := 83) (tgt := 84) hx hb d_FixityTrees_told_1 (by rw [hc4]; decide) (by rw [hc4]; decide) (by rw [hc4]; rfl) (by decide) ?_
    refine lv_aload_n hx hb d_FixityTrees_told_84 rfl (lv_at hl 0 rfl) ?_
    refine gR_FixityTrees_tree X hw lk_FixityTrees_42 d_FixityTrees_told_85 ?_
    refine k_Tree0_size X hw lk_FixityTrees_179 d_FixityTrees_told_88 hl.1 (lv_room (Nat.le_of_ble_eq_true rfl)) ⟨Nat.le_of_ble_eq_true rfl, Nat.le_of_ble_eq_true rfl⟩ ⟨Nat.zero_le _, Nat.zero_le _⟩ hF (fun x5 σ H locs hF hw => ?_)
    exact hend _ _ _ _ _ _ d_FixityTrees_told_91 hF hw
  have hF := fx_if hc4 hF
  by_cases hc5 : v1 = 5
  · have hF := fx_it hc5 hF
    refine lv_tableIn (off := 91) (tgt := 92) hx hb d_FixityTrees_told_1 (by rw [hc5]; decide) (by rw [hc5]; decide) (by rw [hc5]; rfl) (by decide) ?_
    refine lv_aload_n hx hb d_FixityTrees_told_92 rfl (lv_at hl 0 rfl) ?_
    refine gI_FixityTrees_mostWaiting X hw lk_FixityTrees_177 d_FixityTrees_told_93 hF (fun x6 hF => ?_)
    exact hend _ _ _ _ _ _ d_FixityTrees_told_96 hF hw
  have hF := fx_if hc5 hF
  by_cases hc6 : v1 = 6
  · have hF := fx_it hc6 hF
    refine lv_tableIn (off := 96) (tgt := 97) hx hb d_FixityTrees_told_1 (by rw [hc6]; decide) (by rw [hc6]; decide) (by rw [hc6]; rfl) (by decide) ?_
    refine lv_aload_n hx hb d_FixityTrees_told_97 rfl (lv_at hl 0 rfl) ?_
    refine gR_FixityTrees_tree X hw lk_FixityTrees_42 d_FixityTrees_told_98 ?_
    refine k_Tree0_height X hw lk_FixityTrees_246 d_FixityTrees_told_101 hl.1 (lv_room (Nat.le_of_ble_eq_true rfl)) ⟨Nat.le_of_ble_eq_true rfl, Nat.le_of_ble_eq_true rfl⟩ ⟨Nat.zero_le _, Nat.zero_le _⟩ hF (fun x7 σ H locs hF hw => ?_)
    exact hend _ _ _ _ _ _ d_FixityTrees_told_104 hF hw
  have hF := fx_if hc6 hF
  refine lv_tableOut (tgt := 105) hx hb d_FixityTrees_told_1 (fx_sw0_6 hc0 hc1 hc2 hc3 hc4 hc5 hc6) (by decide) ?_
  exact hthr 2 _ _ _ _ _ _ tw_FixityTrees_told_105 (Nat.le_of_ble_eq_true rfl) hl.1 hF hw
theorem c_FixityTrees_told (l : Launch) (D : va_G) (h : Nat → Nat) (cA : Nat → ClassId) (hlt : l.stackTraces = false) (v1 : Int32) : fx_Rn va_Qi l y_FixityTrees_told b_FixityTrees_told 2 (some .int) { frames := 6, cells := 0, slots := 0, locals := 91 } D fx_cl (fx_tys cA) fx_g fx_G (fx_ws h cA) [.ref (h 0), .int v1] (F_FixityTrees_told v1) := fx_ofr_i (w_FixityTrees_told l D h cA v1) fx_G_ok hlt (by decide) (Nat.le_of_ble_eq_true rfl)
theorem x_FixityTrees_told (l : Launch) (D : va_G) (h : Nat → Nat) (cA : Nat → ClassId) (hlt : l.stackTraces = false) (v1 : Int32) : fx_Tx l y_FixityTrees_told b_FixityTrees_told 2 (some .int) { frames := 6, cells := 0, slots := 0, locals := 91 } D fx_cl (fx_tys cA) fx_g fx_G (fx_ws h cA) [.ref (h 0), .int v1] (F_FixityTrees_told v1) := fx_oft (w_FixityTrees_told l D h cA v1) (fun p e s m args below meth c A Q code σ' => fx_nEi p e s m args below meth c A Q code σ') fx_G_ok fx_gok hlt (by decide) (Nat.le_of_ble_eq_true rfl)
