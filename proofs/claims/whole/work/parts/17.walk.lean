set_option maxHeartbeats 4000000 in
set_option maxRecDepth 100000 in
theorem c_Tree1_join (l : Launch) (D : va_G) (h : Nat → Nat) (cA : Nat → ClassId) (v1 : Int32) (v2 : Int32) (v3 : Int32) : fx_Mv l y_Tree_join b_Tree_join 4 none { frames := 1, cells := 0, slots := 0, locals := 21 } D fx_cl (fx_tys cA) fx_g fx_G (fx_ws h cA) [.ref (h 33), .int v1, .int v2, .int v3] (F_Tree1_join v1 v2 v3) := by
  refine fx_start_v fx_G_ok (by decide) (Nat.le_of_ble_eq_true rfl) ?_
  intro p e s m args below meth c A ls σ res Q hF X hw hl hend
  have hx := X.1.1
  have hb := X.1.2.1
  have hl : lv_has ls 4 [(0, .ref (h 33)), (1, .int v1), (2, .int v2), (3, .int v3)] := hl
  unfold F_Tree1_join at hF
  refine lv_aload_n hx hb d_Tree_join_0 rfl (lv_at hl 0 rfl) ?_
  refine lv_iload_n hx hb d_Tree_join_1 rfl (lv_at hl 1 rfl) ?_
  refine k_Tree1_has X hw lk_Tree_38 d_Tree_join_2 hl.1 (lv_room (Nat.le_of_ble_eq_true rfl)) ⟨Nat.le_of_ble_eq_true rfl, Nat.le_of_ble_eq_true rfl⟩ ⟨Nat.zero_le _, Nat.zero_le _⟩ hF (fun x1 σ H locs hF hw => ?_)
  refine lv_if_eq (tgt := 22) hx hb d_Tree_join_5 (by decide) (fun hc => ?_) (fun hc => ?_)
  · have hF := fx_it hc hF
    exact hend _ _ _ _ _ d_Tree_join_22 hF hw
  · have hF := fx_if hc hF
    refine lv_aload_n hx hb d_Tree_join_8 rfl (lv_at hl 0 rfl) ?_
    refine gR_Tree1_firsts X hw lk_Tree_18 d_Tree_join_9 ?_
    refine lv_iload_n hx hb d_Tree_join_12 rfl (lv_at hl 1 rfl) ?_
    refine lv_iload_n hx hb d_Tree_join_13 rfl (lv_at hl 2 rfl) ?_
    refine sA_Tree1_firsts X hw d_Tree_join_14 hF (fun σ H locs hF hw => ?_)
    refine lv_aload_n hx hb d_Tree_join_15 rfl (lv_at hl 0 rfl) ?_
    refine gR_Tree1_seconds X hw lk_Tree_21 d_Tree_join_16 ?_
    refine lv_iload_n hx hb d_Tree_join_19 rfl (lv_at hl 1 rfl) ?_
    refine lv_iload_n hx hb d_Tree_join_20 rfl (lv_at hl 3 rfl) ?_
    refine sA_Tree1_seconds X hw d_Tree_join_21 hF (fun σ H locs hF hw => ?_)
    exact hend _ _ _ _ _ d_Tree_join_22 hF hw
section
variable {p : Program} {l : Launch} {e : Env} {R : Room} {s : State} {m : MethodId} {args : Array Value} {below : List Frame} {meth : Method} {c : Code} {H : Heap} {locs : List Loc} {cells slots : Nat} {Q : State → Prop}
variable {cc : ByteArray} {pc nL ix : Nat} {ls : Array Slot} {rest : List Value} {own : String} {D : va_G} {A : Nat → Prop} {h : Nat → Nat} {cA : Nat → ClassId} {σ : fx_S} {β : Type} {res : β × fx_S}
theorem k_Tree1_join {v1 : Int32} {v2 : Int32} {v3 : Int32} (X : fx_X p m c cc nL s args own D fx_cl (fx_tys cA) fx_g fx_G A) (hw : fx_B D fx_cl (fx_ws h cA) A s.heap σ H locs) (lk : Cond.methodLink own ix y_Tree_join ∈ fx_g) (hdg : decode cc pc = .ok (.invokevirtual ix, 3)) (hsize : ls.size = nL) (hW : 2 * (F0 m pc ls (.int v3 :: .int v2 :: .int v1 :: .ref (h 33) :: rest)).monitorRoom + (rest.map fun v => v.category).sum ≤ 8) (hR : 1 + 1 ≤ R.frames ∧ 8 + (4 + 11) + 21 ≤ R.locals) (hf : cells ≤ R.cells ∧ slots ≤ R.slots) {k : Unit → fx_M β} (hF : fx_bnd (F_Tree1_join v1 v2 v3) k σ = some res) (kk : ∀ (σ' : fx_S) (H' : Heap) (locs' : List Loc), k () σ' = some res → fx_B D fx_cl (fx_ws h cA) A s.heap σ' H' locs' → W p l e R s m args below meth c H' locs' cells slots Q (F0 m (pc + 3) ls rest)) : W p l e R s m args below meth c H locs cells slots Q (F0 m pc ls (.int v3 :: .int v2 :: .int v1 :: .ref (h 33) :: rest)) :=
  fx_call_v X hw (c_Tree1_join l D h cA v1 v2 v3) (fx_cwV X lk hg_Tree_join fx_gok (rm := { frames := 1, cells := 0, slots := 0, locals := 21 }) rfl rfl (by decide +kernel) hR) (va_recv X.2.1 hw.1 (ci := 6) (q0 := 33) rfl rfl) (n := 3) rfl hdg hsize rfl hW hf hF kk
end
set_option maxHeartbeats 4000000 in
set_option maxRecDepth 100000 in
theorem c_Resolver_numberInto_Tree1 (l : Launch) (D : va_G) (h : Nat → Nat) (cA : Nat → ClassId) : fx_Mv l y_Resolver_numberInto b_Resolver_numberInto 7 none { frames := 2, cells := 0, slots := 0, locals := 44 } D fx_cl (fx_tys cA) fx_g fx_G (fx_ws h cA) [.ref (h 13), .ref (h 33)] (F_Resolver_numberInto_Tree1) := by
  refine fx_start_v fx_G_ok (by decide) (Nat.le_of_ble_eq_true rfl) ?_
  intro p e s m args below meth c A ls σ res Q hF X hw hl hend
  have hx := X.1.1
  have hb := X.1.2.1
  have hl : lv_has ls 7 [(0, .ref (h 13)), (1, .ref (h 33))] := hl
  unfold F_Resolver_numberInto_Tree1 at hF
  have h38 : ∀ (n38 : Nat) (v3 : Int32) (σ : fx_S) (H : Heap) (locs : List Loc) (ls : Array Slot), fx_loop1 (F_Resolver_numberInto_Tree1_B38) n38 v3 σ = some res → fx_B D fx_cl (fx_ws h cA) A s.heap σ H locs → lv_has ls 7 [(0, .ref (h 13)), (1, .ref (h 33)), (3, .int v3)] → W p l e { frames := 2, cells := 0, slots := 0, locals := 44 } s m args below meth c H locs 0 0 Q (F0 m 38 ls []) := by
    intro n38
    induction n38 with
    | zero => intro v3 σ H locs ls hF; cases hF
    | succ n38 ih38 =>
      obtain ⟨K38, eK38⟩ : ∃ K, K = fx_loop1 (F_Resolver_numberInto_Tree1_B38) n38 := ⟨_, rfl⟩
      rw [← eK38] at ih38
      have h181 : ∀ (v3 : Int32) (σ : fx_S) (H : Heap) (locs : List Loc) (ls : Array Slot), F_Resolver_numberInto_Tree1_J181 K38 v3 σ = some res → fx_B D fx_cl (fx_ws h cA) A s.heap σ H locs → lv_has ls 7 [(0, .ref (h 13)), (1, .ref (h 33)), (3, .int v3)] → W p l e { frames := 2, cells := 0, slots := 0, locals := 44 } s m args below meth c H locs 0 0 Q (F0 m 181 ls []) := by
        intro v3 σ H locs ls hF hw hl
        unfold F_Resolver_numberInto_Tree1_J181 at hF
        refine fx_iinc (lv' := fun x11 => [(3, .int x11), (0, .ref (h 13)), (1, .ref (h 33))]) hx hb d_Resolver_numberInto_181 hl (k := 2) rfl rfl (by decide) (fun _ => rfl) hF (fun x11 ls hF hl => ?_)
        refine lv_goto (tgt := 38) hx hb d_Resolver_numberInto_184 (by decide) ?_
        exact ih38 x11 _ _ _ _ hF hw (lv_sub hl [1, 2, 0] rfl)
      have h166 : ∀ (v3 : Int32) (v5 : Int32) (σ : fx_S) (H : Heap) (locs : List Loc) (ls : Array Slot), F_Resolver_numberInto_Tree1_J166 K38 v3 v5 σ = some res → fx_B D fx_cl (fx_ws h cA) A s.heap σ H locs → lv_has ls 7 [(0, .ref (h 13)), (1, .ref (h 33)), (3, .int v3), (5, .int v5)] → W p l e { frames := 2, cells := 0, slots := 0, locals := 44 } s m args below meth c H locs 0 0 Q (F0 m 166 ls []) := by
        intro v3 v5 σ H locs ls hF hw hl
        unfold F_Resolver_numberInto_Tree1_J166 at hF
        refine lv_iload hx hb d_Resolver_numberInto_166 (lv_at hl 3 rfl) ?_
        refine lv_iconst (v := (-1)) hx hb d_Resolver_numberInto_168 (by decide) ?_
        refine lv_icmp_eq (tgt := 181) hx hb d_Resolver_numberInto_169 (by decide) (fun hc => ?_) (fun hc => ?_)
        · have hF := fx_it hc hF
          exact h181 v3 _ _ _ _ hF hw (lv_sub hl [0, 1, 2] rfl)
        · have hF := fx_if hc hF
          refine lv_aload_n hx hb d_Resolver_numberInto_172 rfl (lv_at hl 0 rfl) ?_
          refine gR_Resolver_unnumbered X hw lk_Resolver_24 d_Resolver_numberInto_173 ?_
          refine lv_iload hx hb d_Resolver_numberInto_176 (lv_at hl 3 rfl) ?_
          refine k_IntStack3_push X hw lk_Resolver_85 d_Resolver_numberInto_178 hl.1 (lv_room (Nat.le_of_ble_eq_true rfl)) ⟨Nat.le_of_ble_eq_true rfl, Nat.le_of_ble_eq_true rfl⟩ ⟨Nat.zero_le _, Nat.zero_le _⟩ hF (fun σ H locs hF hw => ?_)
          exact h181 v3 _ _ _ _ hF hw (lv_sub hl [0, 1, 2] rfl)
      have h148 : ∀ (v3 : Int32) (v5 : Int32) (v6 : Int32) (t0 : Int32) (t1 : Int32) (t2 : Int32) (σ : fx_S) (H : Heap) (locs : List Loc) (ls : Array Slot), F_Resolver_numberInto_Tree1_J148 K38 v3 v5 v6 t0 t1 t2 σ = some res → fx_B D fx_cl (fx_ws h cA) A s.heap σ H locs → lv_has ls 7 [(0, .ref (h 13)), (1, .ref (h 33)), (3, .int v3), (5, .int v5), (6, .int v6)] → W p l e { frames := 2, cells := 0, slots := 0, locals := 44 } s m args below meth c H locs 0 0 Q (F0 m 148 ls [.int t0, .int t1, .int t2, .ref (h 33)]) := by
        intro v3 v5 v6 t0 t1 t2 σ H locs ls hF hw hl
        unfold F_Resolver_numberInto_Tree1_J148 at hF
        refine k_Tree1_join X hw lk_Resolver_133 d_Resolver_numberInto_148 hl.1 (lv_room (Nat.le_of_ble_eq_true rfl)) ⟨Nat.le_of_ble_eq_true rfl, Nat.le_of_ble_eq_true rfl⟩ ⟨Nat.zero_le _, Nat.zero_le _⟩ hF (fun σ H locs hF hw => ?_)
        refine lv_iload hx hb d_Resolver_numberInto_151 (lv_at hl 4 rfl) ?_
        refine lv_iconst (v := (-1)) hx hb d_Resolver_numberInto_153 (by decide) ?_
        refine lv_icmp_eq (tgt := 166) hx hb d_Resolver_numberInto_154 (by decide) (fun hc => ?_) (fun hc => ?_)
        · have hF := fx_it hc hF
          exact h166 v3 v5 _ _ _ _ hF hw (lv_sub hl [0, 1, 2, 3] rfl)
        · have hF := fx_if hc hF
          refine lv_aload_n hx hb d_Resolver_numberInto_157 rfl (lv_at hl 0 rfl) ?_
          refine gR_Resolver_unnumbered X hw lk_Resolver_24 d_Resolver_numberInto_158 ?_
          refine lv_iload hx hb d_Resolver_numberInto_161 (lv_at hl 4 rfl) ?_
          refine k_IntStack3_push X hw lk_Resolver_85 d_Resolver_numberInto_163 hl.1 (lv_room (Nat.le_of_ble_eq_true rfl)) ⟨Nat.le_of_ble_eq_true rfl, Nat.le_of_ble_eq_true rfl⟩ ⟨Nat.zero_le _, Nat.zero_le _⟩ hF (fun σ H locs hF hw => ?_)
          exact h166 v3 v5 _ _ _ _ hF hw (lv_sub hl [0, 1, 2, 3] rfl)
      have h128 : ∀ (v3 : Int32) (v5 : Int32) (v6 : Int32) (t0 : Int32) (t1 : Int32) (σ : fx_S) (H : Heap) (locs : List Loc) (ls : Array Slot), F_Resolver_numberInto_Tree1_J128 K38 v3 v5 v6 t0 t1 σ = some res → fx_B D fx_cl (fx_ws h cA) A s.heap σ H locs → lv_has ls 7 [(0, .ref (h 13)), (1, .ref (h 33)), (3, .int v3), (5, .int v5), (6, .int v6)] → W p l e { frames := 2, cells := 0, slots := 0, locals := 44 } s m args below meth c H locs 0 0 Q (F0 m 128 ls [.int t0, .int t1, .ref (h 33)]) := by
        intro v3 v5 v6 t0 t1 σ H locs ls hF hw hl
        unfold F_Resolver_numberInto_Tree1_J128 at hF
        refine lv_iload hx hb d_Resolver_numberInto_128 (lv_at hl 4 rfl) ?_
        refine lv_iconst (v := (-1)) hx hb d_Resolver_numberInto_130 (by decide) ?_
        refine lv_icmp_ne (tgt := 138) hx hb d_Resolver_numberInto_131 (by decide) (fun hc => ?_) (fun hc => ?_)
        · have hF := fx_if hc hF
          refine lv_iload_n hx hb d_Resolver_numberInto_138 rfl (lv_at hl 2 rfl) ?_
          refine lv_iconst (v := 1) hx hb d_Resolver_numberInto_139 (by decide) ?_
          refine lv_iadd hx hb d_Resolver_numberInto_140 ?_
          refine lv_aload_n hx hb d_Resolver_numberInto_141 rfl (lv_at hl 0 rfl) ?_
          refine lv_iload hx hb d_Resolver_numberInto_142 (lv_at hl 3 rfl) ?_
          refine k_Resolver_sizeOf X hw lk_Resolver_130 d_Resolver_numberInto_144 hl.1 (lv_room (Nat.le_of_ble_eq_true rfl)) ⟨Nat.le_of_ble_eq_true rfl, Nat.le_of_ble_eq_true rfl⟩ ⟨Nat.zero_le _, Nat.zero_le _⟩ hF (fun x10 σ H locs hF hw => ?_)
          refine lv_iadd hx hb d_Resolver_numberInto_147 ?_
          exact h148 v3 v5 v6 ((v3 + 1) + x10) t0 t1 _ _ _ _ hF hw (lv_sub hl [0, 1, 2, 3, 4] rfl)
        · have hF := fx_it hc hF
          refine lv_iconst (v := (-1)) hx hb d_Resolver_numberInto_134 (by decide) ?_
          refine lv_goto (tgt := 148) hx hb d_Resolver_numberInto_135 (by decide) ?_
          exact h148 v3 v5 v6 (-1) t0 t1 _ _ _ _ hF hw (lv_sub hl [0, 1, 2, 3, 4] rfl)
      intro v3 σ H locs ls hF hw hl
      replace hF : F_Resolver_numberInto_Tree1_B38 (fx_loop1 (F_Resolver_numberInto_Tree1_B38) n38) v3 σ = some res := hF
      rw [← eK38] at hF
      unfold F_Resolver_numberInto_Tree1_B38 at hF
      refine lv_iload_n hx hb d_Resolver_numberInto_38 rfl (lv_at hl 2 rfl) ?_
      refine lv_sipush (v := 200) hx hb d_Resolver_numberInto_39 (by decide) ?_
      refine lv_icmp_ge (tgt := 187) hx hb d_Resolver_numberInto_42 (by decide) (fun hc => ?_) (fun hc => ?_)
      · have hF := fx_it hc hF
        exact hend _ _ _ _ _ d_Resolver_numberInto_187 hF hw
      · have hF := fx_if hc hF
        refine lv_aload_n hx hb d_Resolver_numberInto_45 rfl (lv_at hl 0 rfl) ?_
        refine gR_Resolver_unnumbered X hw lk_Resolver_24 d_Resolver_numberInto_46 ?_
        refine k_IntStack3_size X hw lk_Resolver_84 d_Resolver_numberInto_49 hl.1 (lv_room (Nat.le_of_ble_eq_true rfl)) ⟨Nat.le_of_ble_eq_true rfl, Nat.le_of_ble_eq_true rfl⟩ ⟨Nat.zero_le _, Nat.zero_le _⟩ hF (fun x3 σ H locs hF hw => ?_)
        refine lv_if_le (tgt := 187) hx hb d_Resolver_numberInto_52 (by decide) (fun hc => ?_) (fun hc => ?_)
        · have hF := fx_it hc hF
          exact hend _ _ _ _ _ d_Resolver_numberInto_187 hF hw
        · have hF := fx_if hc hF
          refine lv_aload_n hx hb d_Resolver_numberInto_55 rfl (lv_at hl 0 rfl) ?_
          refine gR_Resolver_unnumbered X hw lk_Resolver_24 d_Resolver_numberInto_56 ?_
          refine k_IntStack3_pop X hw lk_Resolver_107 d_Resolver_numberInto_59 hl.1 (lv_room (Nat.le_of_ble_eq_true rfl)) ⟨Nat.le_of_ble_eq_true rfl, Nat.le_of_ble_eq_true rfl⟩ ⟨Nat.zero_le _, Nat.zero_le _⟩ hF (fun x4 σ H locs hF hw => ?_)
          refine lv_istore (lv' := [(4, .int x4), (0, .ref (h 13)), (1, .ref (h 33)), (3, .int v3)]) hx hb d_Resolver_numberInto_62 hl (by decide) rfl (fun ls hl => ?_)
          refine lv_aload_n hx hb d_Resolver_numberInto_64 rfl (lv_at hl 1 rfl) ?_
          refine lv_iload hx hb d_Resolver_numberInto_65 (lv_at hl 0 rfl) ?_
          refine k_Resolver_firstOf X hw lk_Resolver_110 d_Resolver_numberInto_67 hl.1 (lv_room (Nat.le_of_ble_eq_true rfl)) ⟨Nat.le_of_ble_eq_true rfl, Nat.le_of_ble_eq_true rfl⟩ ⟨Nat.zero_le _, Nat.zero_le _⟩ hF (fun x5 σ H locs hF hw => ?_)
          refine lv_istore (lv' := [(5, .int x5), (4, .int x4), (0, .ref (h 13)), (1, .ref (h 33)), (3, .int v3)]) hx hb d_Resolver_numberInto_70 hl (by decide) rfl (fun ls hl => ?_)
          refine lv_aload_n hx hb d_Resolver_numberInto_72 rfl (lv_at hl 2 rfl) ?_
          refine lv_iload hx hb d_Resolver_numberInto_73 (lv_at hl 1 rfl) ?_
          refine k_Resolver_secondOf X hw lk_Resolver_113 d_Resolver_numberInto_75 hl.1 (lv_room (Nat.le_of_ble_eq_true rfl)) ⟨Nat.le_of_ble_eq_true rfl, Nat.le_of_ble_eq_true rfl⟩ ⟨Nat.zero_le _, Nat.zero_le _⟩ hF (fun x6 σ H locs hF hw => ?_)
          refine lv_istore (lv' := [(6, .int x6), (5, .int x5), (4, .int x4), (0, .ref (h 13)), (1, .ref (h 33)), (3, .int v3)]) hx hb d_Resolver_numberInto_78 hl (by decide) rfl (fun ls hl => ?_)
          refine lv_aload_n hx hb d_Resolver_numberInto_80 rfl (lv_at hl 4 rfl) ?_
          refine lv_aload_n hx hb d_Resolver_numberInto_81 rfl (lv_at hl 3 rfl) ?_
          refine gR_Resolver_row X hw lk_Resolver_40 d_Resolver_numberInto_82 ?_
          refine lv_iload hx hb d_Resolver_numberInto_85 (lv_at hl 2 rfl) ?_
          refine k_Row_nodeKindAt X hw lk_Resolver_116 d_Resolver_numberInto_87 hl.1 (lv_room (Nat.le_of_ble_eq_true rfl)) ⟨Nat.le_of_ble_eq_true rfl, Nat.le_of_ble_eq_true rfl⟩ ⟨Nat.zero_le _, Nat.zero_le _⟩ hF (fun x7 σ H locs hF hw => ?_)
          refine lv_aload_n hx hb d_Resolver_numberInto_90 rfl (lv_at hl 3 rfl) ?_
          refine gR_Resolver_row X hw lk_Resolver_40 d_Resolver_numberInto_91 ?_
          refine lv_iload hx hb d_Resolver_numberInto_94 (lv_at hl 2 rfl) ?_
          refine k_Row_operatorAt X hw lk_Resolver_119 d_Resolver_numberInto_96 hl.1 (lv_room (Nat.le_of_ble_eq_true rfl)) ⟨Nat.le_of_ble_eq_true rfl, Nat.le_of_ble_eq_true rfl⟩ ⟨Nat.zero_le _, Nat.zero_le _⟩ hF (fun x8 σ H locs hF hw => ?_)
          refine lv_aload_n hx hb d_Resolver_numberInto_99 rfl (lv_at hl 3 rfl) ?_
          refine gR_Resolver_row X hw lk_Resolver_40 d_Resolver_numberInto_100 ?_
          refine lv_iload hx hb d_Resolver_numberInto_103 (lv_at hl 2 rfl) ?_
          refine k_Row_numberAt X hw lk_Resolver_122 d_Resolver_numberInto_105 hl.1 (lv_room (Nat.le_of_ble_eq_true rfl)) ⟨Nat.le_of_ble_eq_true rfl, Nat.le_of_ble_eq_true rfl⟩ ⟨Nat.zero_le _, Nat.zero_le _⟩ hF (fun x9 σ H locs hF hw => ?_)
          refine lv_iload hx hb d_Resolver_numberInto_108 (lv_at hl 2 rfl) ?_
          refine k_Tree1_add X hw lk_Resolver_126 d_Resolver_numberInto_110 hl.1 (lv_room (Nat.le_of_ble_eq_true rfl)) ⟨Nat.le_of_ble_eq_true rfl, Nat.le_of_ble_eq_true rfl⟩ ⟨Nat.zero_le _, Nat.zero_le _⟩ hF (fun σ H locs hF hw => ?_)
          refine lv_aload_n hx hb d_Resolver_numberInto_113 rfl (lv_at hl 4 rfl) ?_
          refine lv_iload_n hx hb d_Resolver_numberInto_114 rfl (lv_at hl 5 rfl) ?_
          refine lv_iload hx hb d_Resolver_numberInto_115 (lv_at hl 1 rfl) ?_
          refine lv_iconst (v := (-1)) hx hb d_Resolver_numberInto_117 (by decide) ?_
          refine lv_icmp_ne (tgt := 125) hx hb d_Resolver_numberInto_118 (by decide) (fun hc => ?_) (fun hc => ?_)
          · have hF := fx_if hc hF
            refine lv_iload_n hx hb d_Resolver_numberInto_125 rfl (lv_at hl 5 rfl) ?_
            refine lv_iconst (v := 1) hx hb d_Resolver_numberInto_126 (by decide) ?_
            refine lv_iadd hx hb d_Resolver_numberInto_127 ?_
            exact h128 v3 x5 x6 (v3 + 1) v3 _ _ _ _ hF hw (lv_sub hl [3, 4, 5, 1, 0] rfl)
          · have hF := fx_it hc hF
            refine lv_iconst (v := (-1)) hx hb d_Resolver_numberInto_121 (by decide) ?_
            refine lv_goto (tgt := 128) hx hb d_Resolver_numberInto_122 (by decide) ?_
            exact h128 v3 x5 x6 (-1) v3 _ _ _ _ hF hw (lv_sub hl [3, 4, 5, 1, 0] rfl)
  refine lv_aload_n hx hb d_Resolver_numberInto_0 rfl (lv_at hl 1 rfl) ?_
  refine k_Tree1_clear X hw lk_Resolver_94 d_Resolver_numberInto_1 hl.1 (lv_room (Nat.le_of_ble_eq_true rfl)) ⟨Nat.le_of_ble_eq_true rfl, Nat.le_of_ble_eq_true rfl⟩ ⟨Nat.zero_le _, Nat.zero_le _⟩ hF (fun σ H locs hF hw => ?_)
  refine lv_aload_n hx hb d_Resolver_numberInto_4 rfl (lv_at hl 0 rfl) ?_
  refine gR_Resolver_ready X hw lk_Resolver_21 d_Resolver_numberInto_5 ?_
  refine k_IntStack2_top X hw lk_Resolver_97 d_Resolver_numberInto_8 hl.1 (lv_room (Nat.le_of_ble_eq_true rfl)) ⟨Nat.le_of_ble_eq_true rfl, Nat.le_of_ble_eq_true rfl⟩ ⟨Nat.zero_le _, Nat.zero_le _⟩ hF (fun x1 σ H locs hF hw => ?_)
  refine lv_istore_n (lv' := [(2, .int x1), (0, .ref (h 13)), (1, .ref (h 33))]) hx hb d_Resolver_numberInto_11 rfl hl (by decide) rfl (fun ls hl => ?_)
  refine lv_aload_n hx hb d_Resolver_numberInto_12 rfl (lv_at hl 2 rfl) ?_
  refine lv_aload_n hx hb d_Resolver_numberInto_13 rfl (lv_at hl 1 rfl) ?_
  refine lv_iload_n hx hb d_Resolver_numberInto_14 rfl (lv_at hl 0 rfl) ?_
  refine k_Resolver_heightOf X hw lk_Resolver_100 d_Resolver_numberInto_15 hl.1 (lv_room (Nat.le_of_ble_eq_true rfl)) ⟨Nat.le_of_ble_eq_true rfl, Nat.le_of_ble_eq_true rfl⟩ ⟨Nat.zero_le _, Nat.zero_le _⟩ hF (fun x2 σ H locs hF hw => ?_)
  refine k_Tree1_setHeight X hw lk_Resolver_103 d_Resolver_numberInto_18 hl.1 (lv_room (Nat.le_of_ble_eq_true rfl)) ⟨Nat.le_of_ble_eq_true rfl, Nat.le_of_ble_eq_true rfl⟩ ⟨Nat.zero_le _, Nat.zero_le _⟩ hF (fun σ H locs hF hw => ?_)
  refine lv_aload_n hx hb d_Resolver_numberInto_21 rfl (lv_at hl 1 rfl) ?_
  refine gR_Resolver_unnumbered X hw lk_Resolver_24 d_Resolver_numberInto_22 ?_
  refine k_IntStack3_clear X hw lk_Resolver_106 d_Resolver_numberInto_25 hl.1 (lv_room (Nat.le_of_ble_eq_true rfl)) ⟨Nat.le_of_ble_eq_true rfl, Nat.le_of_ble_eq_true rfl⟩ ⟨Nat.zero_le _, Nat.zero_le _⟩ hF (fun σ H locs hF hw => ?_)
  refine lv_aload_n hx hb d_Resolver_numberInto_28 rfl (lv_at hl 1 rfl) ?_
  refine gR_Resolver_unnumbered X hw lk_Resolver_24 d_Resolver_numberInto_29 ?_
  refine lv_iload_n hx hb d_Resolver_numberInto_32 rfl (lv_at hl 0 rfl) ?_
  refine k_IntStack3_push X hw lk_Resolver_85 d_Resolver_numberInto_33 hl.1 (lv_room (Nat.le_of_ble_eq_true rfl)) ⟨Nat.le_of_ble_eq_true rfl, Nat.le_of_ble_eq_true rfl⟩ ⟨Nat.zero_le _, Nat.zero_le _⟩ hF (fun σ H locs hF hw => ?_)
  refine lv_iconst (v := 0) hx hb d_Resolver_numberInto_36 (by decide) ?_
  refine lv_istore_n (lv' := [(3, .int 0), (2, .int x1), (0, .ref (h 13)), (1, .ref (h 33))]) hx hb d_Resolver_numberInto_37 rfl hl (by decide) rfl (fun ls hl => ?_)
  exact h38 fx_fuel 0 _ _ _ _ hF hw (lv_sub hl [2, 3, 0] rfl)
section
variable {p : Program} {l : Launch} {e : Env} {R : Room} {s : State} {m : MethodId} {args : Array Value} {below : List Frame} {meth : Method} {c : Code} {H : Heap} {locs : List Loc} {cells slots : Nat} {Q : State → Prop}
variable {cc : ByteArray} {pc nL ix : Nat} {ls : Array Slot} {rest : List Value} {own : String} {D : va_G} {A : Nat → Prop} {h : Nat → Nat} {cA : Nat → ClassId} {σ : fx_S} {β : Type} {res : β × fx_S}
theorem k_Resolver_numberInto_Tree1 (X : fx_X p m c cc nL s args own D fx_cl (fx_tys cA) fx_g fx_G A) (hw : fx_B D fx_cl (fx_ws h cA) A s.heap σ H locs) (lk : Cond.methodLink own ix y_Resolver_numberInto ∈ fx_g) (hdg : decode cc pc = .ok (.invokevirtual ix, 3)) (hsize : ls.size = nL) (hW : 2 * (F0 m pc ls (.ref (h 33) :: .ref (h 13) :: rest)).monitorRoom + (rest.map fun v => v.category).sum ≤ 8) (hR : 2 + 1 ≤ R.frames ∧ 8 + (7 + 11) + 44 ≤ R.locals) (hf : cells ≤ R.cells ∧ slots ≤ R.slots) {k : Unit → fx_M β} (hF : fx_bnd (F_Resolver_numberInto_Tree1) k σ = some res) (kk : ∀ (σ' : fx_S) (H' : Heap) (locs' : List Loc), k () σ' = some res → fx_B D fx_cl (fx_ws h cA) A s.heap σ' H' locs' → W p l e R s m args below meth c H' locs' cells slots Q (F0 m (pc + 3) ls rest)) : W p l e R s m args below meth c H locs cells slots Q (F0 m pc ls (.ref (h 33) :: .ref (h 13) :: rest)) :=
  fx_call_v X hw (c_Resolver_numberInto_Tree1 l D h cA) (fx_cwV X lk hg_Resolver_numberInto fx_gok (rm := { frames := 2, cells := 0, slots := 0, locals := 44 }) rfl rfl (by decide +kernel) hR) (va_recv X.2.1 hw.1 (ci := 4) (q0 := 13) rfl rfl) (n := 1) rfl hdg hsize rfl hW hf hF kk
end
set_option maxHeartbeats 4000000 in
set_option maxRecDepth 100000 in
theorem c_Tree1_kindAt (l : Launch) (D : va_G) (h : Nat → Nat) (cA : Nat → ClassId) (v1 : Int32) : fx_Mi l y_Tree_kindAt b_Tree_kindAt 2 (some .int) { frames := 1, cells := 0, slots := 0, locals := 21 } D fx_cl (fx_tys cA) fx_g fx_G (fx_ws h cA) [.ref (h 33), .int v1] (F_Tree1_kindAt v1) := by
  refine fx_start_i fx_G_ok (by decide) (Nat.le_of_ble_eq_true rfl) ?_
  intro p e s m args below meth c A ls σ res Q hF X hw hl hend
  have hx := X.1.1
  have hb := X.1.2.1
  have hl : lv_has ls 2 [(0, .ref (h 33)), (1, .int v1)] := hl
  unfold F_Tree1_kindAt at hF
  refine lv_aload_n hx hb d_Tree_kindAt_0 rfl (lv_at hl 0 rfl) ?_
  refine lv_iload_n hx hb d_Tree_kindAt_1 rfl (lv_at hl 1 rfl) ?_
  refine k_Tree1_has X hw lk_Tree_38 d_Tree_kindAt_2 hl.1 (lv_room (Nat.le_of_ble_eq_true rfl)) ⟨Nat.le_of_ble_eq_true rfl, Nat.le_of_ble_eq_true rfl⟩ ⟨Nat.zero_le _, Nat.zero_le _⟩ hF (fun x1 σ H locs hF hw => ?_)
  refine lv_if_eq (tgt := 17) hx hb d_Tree_kindAt_5 (by decide) (fun hc => ?_) (fun hc => ?_)
  · have hF := fx_it hc hF
    refine lv_iconst (v := (-1)) hx hb d_Tree_kindAt_17 (by decide) ?_
    exact hend _ _ _ _ _ _ d_Tree_kindAt_18 hF hw
  · have hF := fx_if hc hF
    refine lv_aload_n hx hb d_Tree_kindAt_8 rfl (lv_at hl 0 rfl) ?_
    refine gR_Tree1_kinds X hw lk_Tree_9 d_Tree_kindAt_9 ?_
    refine lv_iload_n hx hb d_Tree_kindAt_12 rfl (lv_at hl 1 rfl) ?_
    refine lA_Tree1_kinds X hw d_Tree_kindAt_13 hF (fun x2 hF => ?_)
    refine lv_goto (tgt := 18) hx hb d_Tree_kindAt_14 (by decide) ?_
    exact hend _ _ _ _ _ _ d_Tree_kindAt_18 hF hw
section
variable {p : Program} {l : Launch} {e : Env} {R : Room} {s : State} {m : MethodId} {args : Array Value} {below : List Frame} {meth : Method} {c : Code} {H : Heap} {locs : List Loc} {cells slots : Nat} {Q : State → Prop}
variable {cc : ByteArray} {pc nL ix : Nat} {ls : Array Slot} {rest : List Value} {own : String} {D : va_G} {A : Nat → Prop} {h : Nat → Nat} {cA : Nat → ClassId} {σ : fx_S} {β : Type} {res : β × fx_S}
theorem k_Tree1_kindAt {v1 : Int32} (X : fx_X p m c cc nL s args own D fx_cl (fx_tys cA) fx_g fx_G A) (hw : fx_B D fx_cl (fx_ws h cA) A s.heap σ H locs) (lk : Cond.methodLink own ix y_Tree_kindAt ∈ fx_g) (hdg : decode cc pc = .ok (.invokevirtual ix, 3)) (hsize : ls.size = nL) (hW : 2 * (F0 m pc ls (.int v1 :: .ref (h 33) :: rest)).monitorRoom + (rest.map fun v => v.category).sum ≤ 8) (hR : 1 + 1 ≤ R.frames ∧ 8 + (2 + 11) + 21 ≤ R.locals) (hf : cells ≤ R.cells ∧ slots ≤ R.slots) {k : Int32 → fx_M β} (hF : fx_bnd (F_Tree1_kindAt v1) k σ = some res) (kk : ∀ (r : Int32) (σ' : fx_S) (H' : Heap) (locs' : List Loc), k r σ' = some res → fx_B D fx_cl (fx_ws h cA) A s.heap σ' H' locs' → W p l e R s m args below meth c H' locs' cells slots Q (F0 m (pc + 3) ls (.int r :: rest))) : W p l e R s m args below meth c H locs cells slots Q (F0 m pc ls (.int v1 :: .ref (h 33) :: rest)) :=
  fx_call_i X hw (c_Tree1_kindAt l D h cA v1) (fx_cwV X lk hg_Tree_kindAt fx_gok (rm := { frames := 1, cells := 0, slots := 0, locals := 21 }) rfl rfl (by decide +kernel) hR) (va_recv X.2.1 hw.1 (ci := 6) (q0 := 33) rfl rfl) (n := 1) rfl hdg hsize rfl hW hf hF kk
end
set_option maxHeartbeats 4000000 in
set_option maxRecDepth 100000 in
theorem c_Tree1_operatorAt (l : Launch) (D : va_G) (h : Nat → Nat) (cA : Nat → ClassId) (v1 : Int32) : fx_Mi l y_Tree_operatorAt b_Tree_operatorAt 2 (some .int) { frames := 1, cells := 0, slots := 0, locals := 21 } D fx_cl (fx_tys cA) fx_g fx_G (fx_ws h cA) [.ref (h 33), .int v1] (F_Tree1_operatorAt v1) := by
  refine fx_start_i fx_G_ok (by decide) (Nat.le_of_ble_eq_true rfl) ?_
  intro p e s m args below meth c A ls σ res Q hF X hw hl hend
  have hx := X.1.1
  have hb := X.1.2.1
  have hl : lv_has ls 2 [(0, .ref (h 33)), (1, .int v1)] := hl
  unfold F_Tree1_operatorAt at hF
  refine lv_aload_n hx hb d_Tree_operatorAt_0 rfl (lv_at hl 0 rfl) ?_
  refine lv_iload_n hx hb d_Tree_operatorAt_1 rfl (lv_at hl 1 rfl) ?_
  refine k_Tree1_has X hw lk_Tree_38 d_Tree_operatorAt_2 hl.1 (lv_room (Nat.le_of_ble_eq_true rfl)) ⟨Nat.le_of_ble_eq_true rfl, Nat.le_of_ble_eq_true rfl⟩ ⟨Nat.zero_le _, Nat.zero_le _⟩ hF (fun x1 σ H locs hF hw => ?_)
  refine lv_if_eq (tgt := 17) hx hb d_Tree_operatorAt_5 (by decide) (fun hc => ?_) (fun hc => ?_)
  · have hF := fx_it hc hF
    refine lv_iconst (v := (-1)) hx hb d_Tree_operatorAt_17 (by decide) ?_
    exact hend _ _ _ _ _ _ d_Tree_operatorAt_18 hF hw
  · have hF := fx_if hc hF
    refine lv_aload_n hx hb d_Tree_operatorAt_8 rfl (lv_at hl 0 rfl) ?_
    refine gR_Tree1_operators X hw lk_Tree_15 d_Tree_operatorAt_9 ?_
    refine lv_iload_n hx hb d_Tree_operatorAt_12 rfl (lv_at hl 1 rfl) ?_
    refine lA_Tree1_operators X hw d_Tree_operatorAt_13 hF (fun x2 hF => ?_)
    refine lv_goto (tgt := 18) hx hb d_Tree_operatorAt_14 (by decide) ?_
    exact hend _ _ _ _ _ _ d_Tree_operatorAt_18 hF hw
section
variable {p : Program} {l : Launch} {e : Env} {R : Room} {s : State} {m : MethodId} {args : Array Value} {below : List Frame} {meth : Method} {c : Code} {H : Heap} {locs : List Loc} {cells slots : Nat} {Q : State → Prop}
variable {cc : ByteArray} {pc nL ix : Nat} {ls : Array Slot} {rest : List Value} {own : String} {D : va_G} {A : Nat → Prop} {h : Nat → Nat} {cA : Nat → ClassId} {σ : fx_S} {β : Type} {res : β × fx_S}
theorem k_Tree1_operatorAt {v1 : Int32} (X : fx_X p m c cc nL s args own D fx_cl (fx_tys cA) fx_g fx_G A) (hw : fx_B D fx_cl (fx_ws h cA) A s.heap σ H locs) (lk : Cond.methodLink own ix y_Tree_operatorAt ∈ fx_g) (hdg : decode cc pc = .ok (.invokevirtual ix, 3)) (hsize : ls.size = nL) (hW : 2 * (F0 m pc ls (.int v1 :: .ref (h 33) :: rest)).monitorRoom + (rest.map fun v => v.category).sum ≤ 8) (hR : 1 + 1 ≤ R.frames ∧ 8 + (2 + 11) + 21 ≤ R.locals) (hf : cells ≤ R.cells ∧ slots ≤ R.slots) {k : Int32 → fx_M β} (hF : fx_bnd (F_Tree1_operatorAt v1) k σ = some res) (kk : ∀ (r : Int32) (σ' : fx_S) (H' : Heap) (locs' : List Loc), k r σ' = some res → fx_B D fx_cl (fx_ws h cA) A s.heap σ' H' locs' → W p l e R s m args below meth c H' locs' cells slots Q (F0 m (pc + 3) ls (.int r :: rest))) : W p l e R s m args below meth c H locs cells slots Q (F0 m pc ls (.int v1 :: .ref (h 33) :: rest)) :=
  fx_call_i X hw (c_Tree1_operatorAt l D h cA v1) (fx_cwV X lk hg_Tree_operatorAt fx_gok (rm := { frames := 1, cells := 0, slots := 0, locals := 21 }) rfl rfl (by decide +kernel) hR) (va_recv X.2.1 hw.1 (ci := 6) (q0 := 33) rfl rfl) (n := 1) rfl hdg hsize rfl hW hf hF kk
end
set_option maxHeartbeats 4000000 in
set_option maxRecDepth 100000 in
theorem c_Tree1_numberAt (l : Launch) (D : va_G) (h : Nat → Nat) (cA : Nat → ClassId) (v1 : Int32) : fx_Ml l y_Tree_numberAt b_Tree_numberAt 2 (some .long) { frames := 1, cells := 0, slots := 0, locals := 21 } D fx_cl (fx_tys cA) fx_g fx_G (fx_ws h cA) [.ref (h 33), .int v1] (F_Tree1_numberAt v1) := by
  refine fx_start_l fx_G_ok (by decide) (Nat.le_of_ble_eq_true rfl) ?_
  intro p e s m args below meth c A ls σ res Q hF X hw hl hend
  have hx := X.1.1
  have hb := X.1.2.1
  have hl : lv_has ls 2 [(0, .ref (h 33)), (1, .int v1)] := hl
  unfold F_Tree1_numberAt at hF
  refine lv_aload_n hx hb d_Tree_numberAt_0 rfl (lv_at hl 0 rfl) ?_
  refine lv_iload_n hx hb d_Tree_numberAt_1 rfl (lv_at hl 1 rfl) ?_
  refine k_Tree1_has X hw lk_Tree_38 d_Tree_numberAt_2 hl.1 (lv_room (Nat.le_of_ble_eq_true rfl)) ⟨Nat.le_of_ble_eq_true rfl, Nat.le_of_ble_eq_true rfl⟩ ⟨Nat.zero_le _, Nat.zero_le _⟩ hF (fun x1 σ H locs hF hw => ?_)
  refine lv_if_eq (tgt := 17) hx hb d_Tree_numberAt_5 (by decide) (fun hc => ?_) (fun hc => ?_)
  · have hF := fx_it hc hF
    refine lv_lconst (v := 0) hx hb d_Tree_numberAt_17 (by decide) ?_
    exact hend _ _ _ _ _ _ d_Tree_numberAt_18 hF hw
  · have hF := fx_if hc hF
    refine lv_aload_n hx hb d_Tree_numberAt_8 rfl (lv_at hl 0 rfl) ?_
    refine gR_Tree1_numbers X hw lk_Tree_27 d_Tree_numberAt_9 ?_
    refine lv_iload_n hx hb d_Tree_numberAt_12 rfl (lv_at hl 1 rfl) ?_
    refine lA_Tree1_numbers X hw d_Tree_numberAt_13 hF (fun x2 hF => ?_)
    refine lv_goto (tgt := 18) hx hb d_Tree_numberAt_14 (by decide) ?_
    exact hend _ _ _ _ _ _ d_Tree_numberAt_18 hF hw
section
variable {p : Program} {l : Launch} {e : Env} {R : Room} {s : State} {m : MethodId} {args : Array Value} {below : List Frame} {meth : Method} {c : Code} {H : Heap} {locs : List Loc} {cells slots : Nat} {Q : State → Prop}
variable {cc : ByteArray} {pc nL ix : Nat} {ls : Array Slot} {rest : List Value} {own : String} {D : va_G} {A : Nat → Prop} {h : Nat → Nat} {cA : Nat → ClassId} {σ : fx_S} {β : Type} {res : β × fx_S}
theorem k_Tree1_numberAt {v1 : Int32} (X : fx_X p m c cc nL s args own D fx_cl (fx_tys cA) fx_g fx_G A) (hw : fx_B D fx_cl (fx_ws h cA) A s.heap σ H locs) (lk : Cond.methodLink own ix y_Tree_numberAt ∈ fx_g) (hdg : decode cc pc = .ok (.invokevirtual ix, 3)) (hsize : ls.size = nL) (hW : 2 * (F0 m pc ls (.int v1 :: .ref (h 33) :: rest)).monitorRoom + (rest.map fun v => v.category).sum ≤ 8) (hR : 1 + 1 ≤ R.frames ∧ 8 + (2 + 11) + 21 ≤ R.locals) (hf : cells ≤ R.cells ∧ slots ≤ R.slots) {k : Int64 → fx_M β} (hF : fx_bnd (F_Tree1_numberAt v1) k σ = some res) (kk : ∀ (r : Int64) (σ' : fx_S) (H' : Heap) (locs' : List Loc), k r σ' = some res → fx_B D fx_cl (fx_ws h cA) A s.heap σ' H' locs' → W p l e R s m args below meth c H' locs' cells slots Q (F0 m (pc + 3) ls (.long r :: rest))) : W p l e R s m args below meth c H locs cells slots Q (F0 m pc ls (.int v1 :: .ref (h 33) :: rest)) :=
  fx_call_l X hw (c_Tree1_numberAt l D h cA v1) (fx_cwV X lk hg_Tree_numberAt fx_gok (rm := { frames := 1, cells := 0, slots := 0, locals := 21 }) rfl rfl (by decide +kernel) hR) (va_recv X.2.1 hw.1 (ci := 6) (q0 := 33) rfl rfl) (n := 1) rfl hdg hsize rfl hW hf hF kk
end
set_option maxHeartbeats 4000000 in
set_option maxRecDepth 100000 in
theorem c_Tree1_isLike_Tree0 (l : Launch) (D : va_G) (h : Nat → Nat) (cA : Nat → ClassId) : fx_Mi l y_Tree_isLike b_Tree_isLike 3 (some .boolean) { frames := 2, cells := 0, slots := 0, locals := 42 } D fx_cl (fx_tys cA) fx_g fx_G (fx_ws h cA) [.ref (h 33), .ref (h 26)] (F_Tree1_isLike_Tree0) := by
  refine fx_start_z fx_G_ok (by decide) (Nat.le_of_ble_eq_true rfl) ?_
  intro p e s m args below meth c A ls σ res Q hF X hw hl hend
  have hx := X.1.1
  have hb := X.1.2.1
  have hl : lv_has ls 3 [(0, .ref (h 33)), (1, .ref (h 26))] := hl
  unfold F_Tree1_isLike_Tree0 at hF
  have h15 : ∀ (n15 : Nat) (v2 : Int32) (σ : fx_S) (H : Heap) (locs : List Loc) (ls : Array Slot), fx_loop1 (F_Tree1_isLike_Tree0_B15) n15 v2 σ = some res → fx_B D fx_cl (fx_ws h cA) A s.heap σ H locs → lv_has ls 3 [(0, .ref (h 33)), (1, .ref (h 26)), (2, .int v2)] → W p l e { frames := 2, cells := 0, slots := 0, locals := 42 } s m args below meth c H locs 0 0 Q (F0 m 15 ls []) := by
    intro n15
    induction n15 with
    | zero => intro v2 σ H locs ls hF; cases hF
    | succ n15 ih15 =>
      obtain ⟨K15, eK15⟩ : ∃ K, K = fx_loop1 (F_Tree1_isLike_Tree0_B15) n15 := ⟨_, rfl⟩
      rw [← eK15] at ih15
      intro v2 σ H locs ls hF hw hl
      replace hF : F_Tree1_isLike_Tree0_B15 (fx_loop1 (F_Tree1_isLike_Tree0_B15) n15) v2 σ = some res := hF
      rw [← eK15] at hF
      unfold F_Tree1_isLike_Tree0_B15 at hF
      refine lv_iload_n hx hb d_Tree_isLike_15 rfl (lv_at hl 2 rfl) ?_
      refine lv_aload_n hx hb d_Tree_isLike_16 rfl (lv_at hl 0 rfl) ?_
      refine gI_Tree1_size X hw lk_Tree_31 d_Tree_isLike_17 hF (fun x3 hF => ?_)
      refine lv_icmp_ge (tgt := 71) hx hb d_Tree_isLike_20 (by decide) (fun hc => ?_) (fun hc => ?_)
      · have hF := fx_it hc hF
        refine lv_iconst (v := 1) hx hb d_Tree_isLike_71 (by decide) ?_
        exact hend _ _ _ _ _ _ d_Tree_isLike_72 hF hw
      · have hF := fx_if hc hF
        refine lv_aload_n hx hb d_Tree_isLike_23 rfl (lv_at hl 0 rfl) ?_
        refine lv_iload_n hx hb d_Tree_isLike_24 rfl (lv_at hl 2 rfl) ?_
        refine k_Tree1_kindAt X hw lk_Tree_45 d_Tree_isLike_25 hl.1 (lv_room (Nat.le_of_ble_eq_true rfl)) ⟨Nat.le_of_ble_eq_true rfl, Nat.le_of_ble_eq_true rfl⟩ ⟨Nat.zero_le _, Nat.zero_le _⟩ hF (fun x4 σ H locs hF hw => ?_)
        refine lv_aload_n hx hb d_Tree_isLike_28 rfl (lv_at hl 1 rfl) ?_
        refine lv_iload_n hx hb d_Tree_isLike_29 rfl (lv_at hl 2 rfl) ?_
        refine k_Tree0_kindAt X hw lk_Tree_45 d_Tree_isLike_30 hl.1 (lv_room (Nat.le_of_ble_eq_true rfl)) ⟨Nat.le_of_ble_eq_true rfl, Nat.le_of_ble_eq_true rfl⟩ ⟨Nat.zero_le _, Nat.zero_le _⟩ hF (fun x5 σ H locs hF hw => ?_)
        refine lv_icmp_ne (tgt := 63) hx hb d_Tree_isLike_33 (by decide) (fun hc => ?_) (fun hc => ?_)
        · have hF := fx_if hc hF
          refine lv_iconst (v := 0) hx hb d_Tree_isLike_63 (by decide) ?_
          exact hend _ _ _ _ _ _ d_Tree_isLike_64 hF hw
        · have hF := fx_it hc hF
          refine lv_aload_n hx hb d_Tree_isLike_36 rfl (lv_at hl 0 rfl) ?_
          refine lv_iload_n hx hb d_Tree_isLike_37 rfl (lv_at hl 2 rfl) ?_
          refine k_Tree1_operatorAt X hw lk_Tree_49 d_Tree_isLike_38 hl.1 (lv_room (Nat.le_of_ble_eq_true rfl)) ⟨Nat.le_of_ble_eq_true rfl, Nat.le_of_ble_eq_true rfl⟩ ⟨Nat.zero_le _, Nat.zero_le _⟩ hF (fun x6 σ H locs hF hw => ?_)
          refine lv_aload_n hx hb d_Tree_isLike_41 rfl (lv_at hl 1 rfl) ?_
          refine lv_iload_n hx hb d_Tree_isLike_42 rfl (lv_at hl 2 rfl) ?_
          refine k_Tree0_operatorAt X hw lk_Tree_49 d_Tree_isLike_43 hl.1 (lv_room (Nat.le_of_ble_eq_true rfl)) ⟨Nat.le_of_ble_eq_true rfl, Nat.le_of_ble_eq_true rfl⟩ ⟨Nat.zero_le _, Nat.zero_le _⟩ hF (fun x7 σ H locs hF hw => ?_)
          refine lv_icmp_ne (tgt := 63) hx hb d_Tree_isLike_46 (by decide) (fun hc => ?_) (fun hc => ?_)
          · have hF := fx_if hc hF
            refine lv_iconst (v := 0) hx hb d_Tree_isLike_63 (by decide) ?_
            exact hend _ _ _ _ _ _ d_Tree_isLike_64 hF hw
          · have hF := fx_it hc hF
            refine lv_aload_n hx hb d_Tree_isLike_49 rfl (lv_at hl 0 rfl) ?_
            refine lv_iload_n hx hb d_Tree_isLike_50 rfl (lv_at hl 2 rfl) ?_
            refine k_Tree1_numberAt X hw lk_Tree_52 d_Tree_isLike_51 hl.1 (lv_room (Nat.le_of_ble_eq_true rfl)) ⟨Nat.le_of_ble_eq_true rfl, Nat.le_of_ble_eq_true rfl⟩ ⟨Nat.zero_le _, Nat.zero_le _⟩ hF (fun x8 σ H locs hF hw => ?_)
            refine lv_aload_n hx hb d_Tree_isLike_54 rfl (lv_at hl 1 rfl) ?_
            refine lv_iload_n hx hb d_Tree_isLike_55 rfl (lv_at hl 2 rfl) ?_
            refine k_Tree0_numberAt X hw lk_Tree_52 d_Tree_isLike_56 hl.1 (lv_room (Nat.le_of_ble_eq_true rfl)) ⟨Nat.le_of_ble_eq_true rfl, Nat.le_of_ble_eq_true rfl⟩ ⟨Nat.zero_le _, Nat.zero_le _⟩ hF (fun x9 σ H locs hF hw => ?_)
            refine W.lcmp hx hb d_Tree_isLike_59 ?_
            refine lv_if_eq (tgt := 65) hx hb d_Tree_isLike_60 (by decide) (fun hc => ?_) (fun hc => ?_)
            · have hF := fx_it hc hF
              refine fx_iinc (lv' := fun x10 => [(2, .int x10), (0, .ref (h 33)), (1, .ref (h 26))]) hx hb d_Tree_isLike_65 hl (k := 2) rfl rfl (by decide) (fun _ => rfl) hF (fun x10 ls hF hl => ?_)
              refine lv_goto (tgt := 15) hx hb d_Tree_isLike_68 (by decide) ?_
              exact ih15 x10 _ _ _ _ hF hw (lv_sub hl [1, 2, 0] rfl)
            · have hF := fx_if hc hF
              refine lv_iconst (v := 0) hx hb d_Tree_isLike_63 (by decide) ?_
              exact hend _ _ _ _ _ _ d_Tree_isLike_64 hF hw
  refine lv_aload_n hx hb d_Tree_isLike_0 rfl (lv_at hl 0 rfl) ?_
  refine gI_Tree1_size X hw lk_Tree_31 d_Tree_isLike_1 hF (fun x1 hF => ?_)
  refine lv_aload_n hx hb d_Tree_isLike_4 rfl (lv_at hl 1 rfl) ?_
  refine k_Tree0_size X hw lk_Tree_42 d_Tree_isLike_5 hl.1 (lv_room (Nat.le_of_ble_eq_true rfl)) ⟨Nat.le_of_ble_eq_true rfl, Nat.le_of_ble_eq_true rfl⟩ ⟨Nat.zero_le _, Nat.zero_le _⟩ hF (fun x2 σ H locs hF hw => ?_)
  refine lv_icmp_eq (tgt := 13) hx hb d_Tree_isLike_8 (by decide) (fun hc => ?_) (fun hc => ?_)
  · have hF := fx_it hc hF
    refine lv_iconst (v := 0) hx hb d_Tree_isLike_13 (by decide) ?_
    refine lv_istore_n (lv' := [(2, .int 0), (0, .ref (h 33)), (1, .ref (h 26))]) hx hb d_Tree_isLike_14 rfl hl (by decide) rfl (fun ls hl => ?_)
    exact h15 fx_fuel 0 _ _ _ _ hF hw (lv_sub hl [1, 2, 0] rfl)
  · have hF := fx_if hc hF
    refine lv_iconst (v := 0) hx hb d_Tree_isLike_11 (by decide) ?_
    exact hend _ _ _ _ _ _ d_Tree_isLike_12 hF hw
section
variable {p : Program} {l : Launch} {e : Env} {R : Room} {s : State} {m : MethodId} {args : Array Value} {below : List Frame} {meth : Method} {c : Code} {H : Heap} {locs : List Loc} {cells slots : Nat} {Q : State → Prop}
variable {cc : ByteArray} {pc nL ix : Nat} {ls : Array Slot} {rest : List Value} {own : String} {D : va_G} {A : Nat → Prop} {h : Nat → Nat} {cA : Nat → ClassId} {σ : fx_S} {β : Type} {res : β × fx_S}
theorem k_Tree1_isLike_Tree0 (X : fx_X p m c cc nL s args own D fx_cl (fx_tys cA) fx_g fx_G A) (hw : fx_B D fx_cl (fx_ws h cA) A s.heap σ H locs) (lk : Cond.methodLink own ix y_Tree_isLike ∈ fx_g) (hdg : decode cc pc = .ok (.invokevirtual ix, 3)) (hsize : ls.size = nL) (hW : 2 * (F0 m pc ls (.ref (h 26) :: .ref (h 33) :: rest)).monitorRoom + (rest.map fun v => v.category).sum ≤ 8) (hR : 2 + 1 ≤ R.frames ∧ 8 + (3 + 11) + 42 ≤ R.locals) (hf : cells ≤ R.cells ∧ slots ≤ R.slots) {k : Int32 → fx_M β} (hF : fx_bnd (F_Tree1_isLike_Tree0) k σ = some res) (kk : ∀ (r : Int32) (σ' : fx_S) (H' : Heap) (locs' : List Loc), k r σ' = some res → fx_B D fx_cl (fx_ws h cA) A s.heap σ' H' locs' → W p l e R s m args below meth c H' locs' cells slots Q (F0 m (pc + 3) ls (.int r :: rest))) : W p l e R s m args below meth c H locs cells slots Q (F0 m pc ls (.ref (h 26) :: .ref (h 33) :: rest)) :=
  fx_call_i X hw (c_Tree1_isLike_Tree0 l D h cA) (fx_cwV X lk hg_Tree_isLike fx_gok (rm := { frames := 2, cells := 0, slots := 0, locals := 42 }) rfl rfl (by decide +kernel) hR) (va_recv X.2.1 hw.1 (ci := 6) (q0 := 33) rfl rfl) (n := 1) rfl hdg hsize rfl hW hf hF kk
end
set_option maxHeartbeats 4000000 in
set_option maxRecDepth 100000 in
theorem c_Scopes_size (l : Launch) (D : va_G) (h : Nat → Nat) (cA : Nat → ClassId) : fx_Mi l y_Scopes_size b_Scopes_size 1 (some .int) { frames := 0, cells := 0, slots := 0, locals := 0 } D fx_cl (fx_tys cA) fx_g fx_G (fx_ws h cA) [.ref (h 1)] (F_Scopes_size) := by
  refine fx_start_i fx_G_ok (by decide) (Nat.le_of_ble_eq_true rfl) ?_
  intro p e s m args below meth c A ls σ res Q hF X hw hl hend
  have hx := X.1.1
  have hb := X.1.2.1
  have hl : lv_has ls 1 [(0, .ref (h 1))] := hl
  unfold F_Scopes_size at hF
  refine lv_aload_n hx hb d_Scopes_size_0 rfl (lv_at hl 0 rfl) ?_
  refine gI_Scopes_size X hw lk_Scopes_18 d_Scopes_size_1 hF (fun x1 hF => ?_)
  exact hend _ _ _ _ _ _ d_Scopes_size_4 hF hw
section
variable {p : Program} {l : Launch} {e : Env} {R : Room} {s : State} {m : MethodId} {args : Array Value} {below : List Frame} {meth : Method} {c : Code} {H : Heap} {locs : List Loc} {cells slots : Nat} {Q : State → Prop}
variable {cc : ByteArray} {pc nL ix : Nat} {ls : Array Slot} {rest : List Value} {own : String} {D : va_G} {A : Nat → Prop} {h : Nat → Nat} {cA : Nat → ClassId} {σ : fx_S} {β : Type} {res : β × fx_S}
theorem k_Scopes_size (X : fx_X p m c cc nL s args own D fx_cl (fx_tys cA) fx_g fx_G A) (hw : fx_B D fx_cl (fx_ws h cA) A s.heap σ H locs) (lk : Cond.methodLink own ix y_Scopes_size ∈ fx_g) (hdg : decode cc pc = .ok (.invokevirtual ix, 3)) (hsize : ls.size = nL) (hW : 2 * (F0 m pc ls (.ref (h 1) :: rest)).monitorRoom + (rest.map fun v => v.category).sum ≤ 8) (hR : 0 + 1 ≤ R.frames ∧ 8 + (1 + 11) + 0 ≤ R.locals) (hf : cells ≤ R.cells ∧ slots ≤ R.slots) {k : Int32 → fx_M β} (hF : fx_bnd (F_Scopes_size) k σ = some res) (kk : ∀ (r : Int32) (σ' : fx_S) (H' : Heap) (locs' : List Loc), k r σ' = some res → fx_B D fx_cl (fx_ws h cA) A s.heap σ' H' locs' → W p l e R s m args below meth c H' locs' cells slots Q (F0 m (pc + 3) ls (.int r :: rest))) : W p l e R s m args below meth c H locs cells slots Q (F0 m pc ls (.ref (h 1) :: rest)) :=
  fx_call_i X hw (c_Scopes_size l D h cA) (fx_cwV X lk hg_Scopes_size fx_gok (rm := { frames := 0, cells := 0, slots := 0, locals := 0 }) rfl rfl (by decide +kernel) hR) (va_recv X.2.1 hw.1 (ci := 1) (q0 := 1) rfl rfl) (n := 0) rfl hdg hsize rfl hW hf hF kk
end
set_option maxHeartbeats 4000000 in
set_option maxRecDepth 100000 in
theorem c_Tree0_height (l : Launch) (D : va_G) (h : Nat → Nat) (cA : Nat → ClassId) : fx_Mi l y_Tree_height b_Tree_height 1 (some .int) { frames := 0, cells := 0, slots := 0, locals := 0 } D fx_cl (fx_tys cA) fx_g fx_G (fx_ws h cA) [.ref (h 26)] (F_Tree0_height) := by
  refine fx_start_i fx_G_ok (by decide) (Nat.le_of_ble_eq_true rfl) ?_
  intro p e s m args below meth c A ls σ res Q hF X hw hl hend
  have hx := X.1.1
  have hb := X.1.2.1
  have hl : lv_has ls 1 [(0, .ref (h 26))] := hl
  unfold F_Tree0_height at hF
  refine lv_aload_n hx hb d_Tree_height_0 rfl (lv_at hl 0 rfl) ?_
  refine gI_Tree0_height X hw lk_Tree_35 d_Tree_height_1 hF (fun x1 hF => ?_)
  exact hend _ _ _ _ _ _ d_Tree_height_4 hF hw
section
variable {p : Program} {l : Launch} {e : Env} {R : Room} {s : State} {m : MethodId} {args : Array Value} {below : List Frame} {meth : Method} {c : Code} {H : Heap} {locs : List Loc} {cells slots : Nat} {Q : State → Prop}
variable {cc : ByteArray} {pc nL ix : Nat} {ls : Array Slot} {rest : List Value} {own : String} {D : va_G} {A : Nat → Prop} {h : Nat → Nat} {cA : Nat → ClassId} {σ : fx_S} {β : Type} {res : β × fx_S}
theorem k_Tree0_height (X : fx_X p m c cc nL s args own D fx_cl (fx_tys cA) fx_g fx_G A) (hw : fx_B D fx_cl (fx_ws h cA) A s.heap σ H locs) (lk : Cond.methodLink own ix y_Tree_height ∈ fx_g) (hdg : decode cc pc = .ok (.invokevirtual ix, 3)) (hsize : ls.size = nL) (hW : 2 * (F0 m pc ls (.ref (h 26) :: rest)).monitorRoom + (rest.map fun v => v.category).sum ≤ 8) (hR : 0 + 1 ≤ R.frames ∧ 8 + (1 + 11) + 0 ≤ R.locals) (hf : cells ≤ R.cells ∧ slots ≤ R.slots) {k : Int32 → fx_M β} (hF : fx_bnd (F_Tree0_height) k σ = some res) (kk : ∀ (r : Int32) (σ' : fx_S) (H' : Heap) (locs' : List Loc), k r σ' = some res → fx_B D fx_cl (fx_ws h cA) A s.heap σ' H' locs' → W p l e R s m args below meth c H' locs' cells slots Q (F0 m (pc + 3) ls (.int r :: rest))) : W p l e R s m args below meth c H locs cells slots Q (F0 m pc ls (.ref (h 26) :: rest)) :=
  fx_call_i X hw (c_Tree0_height l D h cA) (fx_cwV X lk hg_Tree_height fx_gok (rm := { frames := 0, cells := 0, slots := 0, locals := 0 }) rfl rfl (by decide +kernel) hR) (va_recv X.2.1 hw.1 (ci := 6) (q0 := 26) rfl rfl) (n := 0) rfl hdg hsize rfl hW hf hF kk
end
