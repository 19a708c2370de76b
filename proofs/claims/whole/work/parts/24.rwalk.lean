set_option maxHeartbeats 4000000 in
set_option maxRecDepth 100000 in
theorem c_Md_goThrough (l : Launch) (D : va_G) (h : Nat → Nat) (cA : Nat → ClassId) (v1 : Int32) : fx_Mi l y_Md_goThrough b_Md_goThrough 5 (some .boolean) { frames := 3, cells := 0, slots := 0, locals := 74 } D fx_cl (fx_tys cA) fx_g fx_G (rf_ws h cA) [.ref (h 0), .int v1] (F_Md_goThrough v1) := by
  refine fx_start_z fx_G_ok (by decide) (Nat.le_of_ble_eq_true rfl) ?_
  intro p e s m args below meth c A ls σ res Q hF X hw hl hend
  have hx := X.1.1
  have hb := X.1.2.1
  have hl : lv_has ls 5 [(0, .ref (h 0)), (1, .int v1)] := hl
  unfold F_Md_goThrough at hF
  have h163 : ∀ (σ : fx_S) (H : Heap) (locs : List Loc) (ls : Array Slot), F_Md_goThrough_J163 σ = some res → fx_B D fx_cl (rf_ws h cA) A s.heap σ H locs → lv_has ls 5 [(0, .ref (h 0))] → W p l e { frames := 3, cells := 0, slots := 0, locals := 74 } s m args below meth c H locs 0 0 Q (F0 m 163 ls []) := by
    intro σ H locs ls hF hw hl
    unfold F_Md_goThrough_J163 at hF
    refine lv_aload_n hx hb d_Md_goThrough_163 rfl (lv_at hl 0 rfl) ?_
    refine gI_Md_foundKind X hw lk_Md_165 d_Md_goThrough_164 hF (fun x2 hF => ?_)
    refine lv_iconst (v := (-1)) hx hb d_Md_goThrough_167 (by decide) ?_
    refine lv_icmp_ne (tgt := 175) hx hb d_Md_goThrough_168 (by decide) (fun hc => ?_) (fun hc => ?_)
    · have hF := fx_if hc hF
      refine lv_iconst (v := 0) hx hb d_Md_goThrough_175 (by decide) ?_
      exact hend _ _ _ _ _ _ d_Md_goThrough_176 hF hw
    · have hF := fx_it hc hF
      refine lv_iconst (v := 1) hx hb d_Md_goThrough_171 (by decide) ?_
      refine lv_goto (tgt := 176) hx hb d_Md_goThrough_172 (by decide) ?_
      exact hend _ _ _ _ _ _ d_Md_goThrough_176 hF hw
  have h26 : ∀ (n26 : Nat) (v1 : Int32) (v2 : Int32) (σ : fx_S) (H : Heap) (locs : List Loc) (ls : Array Slot), fx_loop2 (F_Md_goThrough_B26) n26 v1 v2 σ = some res → fx_B D fx_cl (rf_ws h cA) A s.heap σ H locs → lv_has ls 5 [(0, .ref (h 0)), (1, .int v1), (2, .int v2)] → W p l e { frames := 3, cells := 0, slots := 0, locals := 74 } s m args below meth c H locs 0 0 Q (F0 m 26 ls []) := by
    intro n26
    induction n26 with
    | zero => intro v1 v2 σ H locs ls hF; cases hF
    | succ n26 ih26 =>
      obtain ⟨K26, eK26⟩ : ∃ K, K = fx_loop2 (F_Md_goThrough_B26) n26 := ⟨_, rfl⟩
      rw [← eK26] at ih26
      have h154 : ∀ (v1 : Int32) (v2 : Int32) (t0 : Int32) (σ : fx_S) (H : Heap) (locs : List Loc) (ls : Array Slot), F_Md_goThrough_J154 K26 v1 v2 t0 σ = some res → fx_B D fx_cl (rf_ws h cA) A s.heap σ H locs → lv_has ls 5 [(0, .ref (h 0)), (1, .int v1), (2, .int v2)] → W p l e { frames := 3, cells := 0, slots := 0, locals := 74 } s m args below meth c H locs 0 0 Q (F0 m 154 ls [.int t0, .ref (h 0)]) := by
        intro v1 v2 t0 σ H locs ls hF hw hl
        unfold F_Md_goThrough_J154 at hF
        refine pI_Md_foundMost X hw lk_Md_177 d_Md_goThrough_154 hF (fun σ H locs hF hw => ?_)
        refine fx_iinc (lv' := fun x9 => [(2, .int x9), (0, .ref (h 0)), (1, .int v1)]) hx hb d_Md_goThrough_157 hl (k := 2) rfl rfl (by decide) (fun _ => rfl) hF (fun x9 ls hF hl => ?_)
        refine lv_goto (tgt := 26) hx hb d_Md_goThrough_160 (by decide) ?_
        exact ih26 v1 x9 _ _ _ _ hF hw (lv_sub hl [1, 2, 0] rfl)
      have h107 : ∀ (n107 : Nat) (v1 : Int32) (v2 : Int32) (v3 : Int32) (v4 : Int32) (σ : fx_S) (H : Heap) (locs : List Loc) (ls : Array Slot), fx_loop4 (F_Md_goThrough_B107 K26) n107 v1 v2 v3 v4 σ = some res → fx_B D fx_cl (rf_ws h cA) A s.heap σ H locs → lv_has ls 5 [(0, .ref (h 0)), (1, .int v1), (2, .int v2), (3, .int v3), (4, .int v4)] → W p l e { frames := 3, cells := 0, slots := 0, locals := 74 } s m args below meth c H locs 0 0 Q (F0 m 107 ls []) := by
        intro n107
        induction n107 with
        | zero => intro v1 v2 v3 v4 σ H locs ls hF; cases hF
        | succ n107 ih107 =>
          obtain ⟨K107, eK107⟩ : ∃ K, K = fx_loop4 (F_Md_goThrough_B107 K26) n107 := ⟨_, rfl⟩
          rw [← eK107] at ih107
          have h129 : ∀ (v1 : Int32) (v2 : Int32) (v4 : Int32) (t0 : Int32) (t1 : Int32) (σ : fx_S) (H : Heap) (locs : List Loc) (ls : Array Slot), F_Md_goThrough_J129 K26 K107 v1 v2 v4 t0 t1 σ = some res → fx_B D fx_cl (rf_ws h cA) A s.heap σ H locs → lv_has ls 5 [(0, .ref (h 0)), (1, .int v1), (2, .int v2), (4, .int v4)] → W p l e { frames := 3, cells := 0, slots := 0, locals := 74 } s m args below meth c H locs 0 0 Q (F0 m 129 ls [.int t0, .int t1]) := by
            intro v1 v2 v4 t0 t1 σ H locs ls hF hw hl
            unfold F_Md_goThrough_J129 at hF
            refine lv_iadd hx hb d_Md_goThrough_129 ?_
            refine fx_topi hF (fun x11 hF => ?_)
            refine lv_istore_n (lv' := [(3, .int x11), (0, .ref (h 0)), (1, .int v1), (2, .int v2), (4, .int v4)]) hx hb d_Md_goThrough_130 rfl hl (by decide) rfl (fun ls hl => ?_)
            refine fx_iinc (lv' := fun x12 => [(4, .int x12), (3, .int x11), (0, .ref (h 0)), (1, .int v1), (2, .int v2)]) hx hb d_Md_goThrough_131 hl (k := 4) rfl rfl (by decide) (fun _ => rfl) hF (fun x12 ls hF hl => ?_)
            refine lv_goto (tgt := 107) hx hb d_Md_goThrough_134 (by decide) ?_
            exact ih107 v1 v2 x11 x12 _ _ _ _ hF hw (lv_sub hl [2, 3, 4, 1, 0] rfl)
          intro v1 v2 v3 v4 σ H locs ls hF hw hl
          replace hF : F_Md_goThrough_B107 K26 (fx_loop4 (F_Md_goThrough_B107 K26) n107) v1 v2 v3 v4 σ = some res := hF
          rw [← eK107] at hF
          unfold F_Md_goThrough_B107 at hF
          refine lv_iload hx hb d_Md_goThrough_107 (lv_at hl 4 rfl) ?_
          refine lv_iload_n hx hb d_Md_goThrough_109 rfl (lv_at hl 2 rfl) ?_
          refine lv_icmp_gt (tgt := 137) hx hb d_Md_goThrough_110 (by decide) (fun hc => ?_) (fun hc => ?_)
          · have hF := fx_it hc hF
            refine lv_aload_n hx hb d_Md_goThrough_137 rfl (lv_at hl 0 rfl) ?_
            refine lv_iload_n hx hb d_Md_goThrough_138 rfl (lv_at hl 3 rfl) ?_
            refine lv_aload_n hx hb d_Md_goThrough_139 rfl (lv_at hl 0 rfl) ?_
            refine gI_Md_foundMost X hw lk_Md_177 d_Md_goThrough_140 hF (fun x7 hF => ?_)
            refine lv_icmp_le (tgt := 150) hx hb d_Md_goThrough_143 (by decide) (fun hc => ?_) (fun hc => ?_)
            · have hF := fx_it hc hF
              refine lv_aload_n hx hb d_Md_goThrough_150 rfl (lv_at hl 0 rfl) ?_
              refine gI_Md_foundMost X hw lk_Md_177 d_Md_goThrough_151 hF (fun x8 hF => ?_)
              exact h154 v1 v2 x8 _ _ _ _ hF hw (lv_sub hl [0, 1, 2] rfl)
            · have hF := fx_if hc hF
              refine lv_iload_n hx hb d_Md_goThrough_146 rfl (lv_at hl 3 rfl) ?_
              refine lv_goto (tgt := 154) hx hb d_Md_goThrough_147 (by decide) ?_
              exact h154 v1 v2 v3 _ _ _ _ hF hw (lv_sub hl [0, 1, 2] rfl)
          · have hF := fx_if hc hF
            refine lv_iload_n hx hb d_Md_goThrough_113 rfl (lv_at hl 3 rfl) ?_
            refine lv_aload_n hx hb d_Md_goThrough_114 rfl (lv_at hl 0 rfl) ?_
            refine gR_Md_waits X hw lk_Md_69 d_Md_goThrough_115 ?_
            refine lv_iload hx hb d_Md_goThrough_118 (lv_at hl 4 rfl) ?_
            refine lA_Md_waits X hw d_Md_goThrough_120 hF (fun x10 hF => ?_)
            refine lv_if_eq (tgt := 128) hx hb d_Md_goThrough_121 (by decide) (fun hc => ?_) (fun hc => ?_)
            · have hF := fx_it hc hF
              refine lv_iconst (v := 0) hx hb d_Md_goThrough_128 (by decide) ?_
              exact h129 v1 v2 v4 0 v3 _ _ _ _ hF hw (lv_sub hl [0, 1, 2, 4] rfl)
            · have hF := fx_if hc hF
              refine lv_iconst (v := 1) hx hb d_Md_goThrough_124 (by decide) ?_
              refine lv_goto (tgt := 129) hx hb d_Md_goThrough_125 (by decide) ?_
              exact h129 v1 v2 v4 1 v3 _ _ _ _ hF hw (lv_sub hl [0, 1, 2, 4] rfl)
      have h102 : ∀ (v1 : Int32) (v2 : Int32) (σ : fx_S) (H : Heap) (locs : List Loc) (ls : Array Slot), F_Md_goThrough_J102 K26 v1 v2 σ = some res → fx_B D fx_cl (rf_ws h cA) A s.heap σ H locs → lv_has ls 5 [(0, .ref (h 0)), (1, .int v1), (2, .int v2)] → W p l e { frames := 3, cells := 0, slots := 0, locals := 74 } s m args below meth c H locs 0 0 Q (F0 m 102 ls []) := by
        intro v1 v2 σ H locs ls hF hw hl
        unfold F_Md_goThrough_J102 at hF
        refine lv_iconst (v := 0) hx hb d_Md_goThrough_102 (by decide) ?_
        refine lv_istore_n (lv' := [(3, .int 0), (0, .ref (h 0)), (1, .int v1), (2, .int v2)]) hx hb d_Md_goThrough_103 rfl hl (by decide) rfl (fun ls hl => ?_)
        refine lv_iconst (v := 0) hx hb d_Md_goThrough_104 (by decide) ?_
        refine lv_istore (lv' := [(4, .int 0), (3, .int 0), (0, .ref (h 0)), (1, .int v1), (2, .int v2)]) hx hb d_Md_goThrough_105 hl (by decide) rfl (fun ls hl => ?_)
        exact h107 fx_fuel v1 v2 0 0 _ _ _ _ hF hw (lv_sub hl [2, 3, 4, 1, 0] rfl)
      intro v1 v2 σ H locs ls hF hw hl
      replace hF : F_Md_goThrough_B26 (fx_loop2 (F_Md_goThrough_B26) n26) v1 v2 σ = some res := hF
      rw [← eK26] at hF
      unfold F_Md_goThrough_B26 at hF
      refine lv_iload_n hx hb d_Md_goThrough_26 rfl (lv_at hl 2 rfl) ?_
      refine lv_aload_n hx hb d_Md_goThrough_27 rfl (lv_at hl 0 rfl) ?_
      refine gI_Md_count X hw lk_Md_140 d_Md_goThrough_28 hF (fun x1 hF => ?_)
      refine lv_icmp_ge (tgt := 163) hx hb d_Md_goThrough_31 (by decide) (fun hc => ?_) (fun hc => ?_)
      · have hF := fx_it hc hF
        exact h163 _ _ _ _ hF hw (lv_sub hl [0] rfl)
      · have hF := fx_if hc hF
        refine lv_aload_n hx hb d_Md_goThrough_34 rfl (lv_at hl 0 rfl) ?_
        refine gI_Md_foundKind X hw lk_Md_165 d_Md_goThrough_35 hF (fun x3 hF => ?_)
        refine lv_iconst (v := (-1)) hx hb d_Md_goThrough_38 (by decide) ?_
        refine lv_icmp_ne (tgt := 163) hx hb d_Md_goThrough_39 (by decide) (fun hc => ?_) (fun hc => ?_)
        · have hF := fx_if hc hF
          exact h163 _ _ _ _ hF hw (lv_sub hl [0] rfl)
        · have hF := fx_it hc hF
          refine lv_aload_n hx hb d_Md_goThrough_42 rfl (lv_at hl 0 rfl) ?_
          refine gR_Md_waits X hw lk_Md_69 d_Md_goThrough_43 ?_
          refine lv_iload_n hx hb d_Md_goThrough_46 rfl (lv_at hl 2 rfl) ?_
          refine lv_iconst (v := 0) hx hb d_Md_goThrough_47 (by decide) ?_
          refine sA_Md_waits X hw d_Md_goThrough_48 hF (fun σ H locs hF hw => ?_)
          refine lv_aload_n hx hb d_Md_goThrough_49 rfl (lv_at hl 0 rfl) ?_
          refine gR_Md_kinds X hw lk_Md_19 d_Md_goThrough_50 ?_
          refine lv_iload_n hx hb d_Md_goThrough_53 rfl (lv_at hl 2 rfl) ?_
          refine lA_Md_kinds X hw d_Md_goThrough_54 hF (fun x4 hF => ?_)
          refine lv_iconst (v := 2) hx hb d_Md_goThrough_55 (by decide) ?_
          refine lv_icmp_ne (tgt := 68) hx hb d_Md_goThrough_56 (by decide) (fun hc => ?_) (fun hc => ?_)
          · have hF := fx_if hc hF
            refine lv_aload_n hx hb d_Md_goThrough_68 rfl (lv_at hl 0 rfl) ?_
            refine gR_Md_kinds X hw lk_Md_19 d_Md_goThrough_69 ?_
            refine lv_iload_n hx hb d_Md_goThrough_72 rfl (lv_at hl 2 rfl) ?_
            refine lA_Md_kinds X hw d_Md_goThrough_73 hF (fun x5 hF => ?_)
            refine lv_iconst (v := 1) hx hb d_Md_goThrough_74 (by decide) ?_
            refine lv_icmp_ne (tgt := 87) hx hb d_Md_goThrough_75 (by decide) (fun hc => ?_) (fun hc => ?_)
            · have hF := fx_if hc hF
              refine lv_aload_n hx hb d_Md_goThrough_87 rfl (lv_at hl 0 rfl) ?_
              refine gR_Md_kinds X hw lk_Md_19 d_Md_goThrough_88 ?_
              refine lv_iload_n hx hb d_Md_goThrough_91 rfl (lv_at hl 2 rfl) ?_
              refine lA_Md_kinds X hw d_Md_goThrough_92 hF (fun x6 hF => ?_)
              refine lv_iconst (v := 4) hx hb d_Md_goThrough_93 (by decide) ?_
              refine lv_icmp_ne (tgt := 102) hx hb d_Md_goThrough_94 (by decide) (fun hc => ?_) (fun hc => ?_)
              · have hF := fx_if hc hF
                exact h102 v1 v2 _ _ _ _ hF hw (lv_sub hl [0, 1, 2] rfl)
              · have hF := fx_it hc hF
                refine lv_aload_n hx hb d_Md_goThrough_97 rfl (lv_at hl 0 rfl) ?_
                refine lv_iload_n hx hb d_Md_goThrough_98 rfl (lv_at hl 2 rfl) ?_
                refine k_Md_closes X hw lk_Md_187 d_Md_goThrough_99 hl.1 (lv_room (Nat.le_of_ble_eq_true rfl)) ⟨Nat.le_of_ble_eq_true rfl, Nat.le_of_ble_eq_true rfl⟩ ⟨Nat.zero_le _, Nat.zero_le _⟩ hF (fun σ H locs hF hw => ?_)
                exact h102 v1 v2 _ _ _ _ hF hw (lv_sub hl [0, 1, 2] rfl)
            · have hF := fx_it hc hF
              refine lv_aload_n hx hb d_Md_goThrough_78 rfl (lv_at hl 0 rfl) ?_
              refine lv_iload_n hx hb d_Md_goThrough_79 rfl (lv_at hl 1 rfl) ?_
              refine lv_iload_n hx hb d_Md_goThrough_80 rfl (lv_at hl 2 rfl) ?_
              refine k_Md_comes X hw lk_Md_184 d_Md_goThrough_81 hl.1 (lv_room (Nat.le_of_ble_eq_true rfl)) ⟨Nat.le_of_ble_eq_true rfl, Nat.le_of_ble_eq_true rfl⟩ ⟨Nat.zero_le _, Nat.zero_le _⟩ hF (fun σ H locs hF hw => ?_)
              refine lv_goto (tgt := 102) hx hb d_Md_goThrough_84 (by decide) ?_
              exact h102 v1 v2 _ _ _ _ hF hw (lv_sub hl [0, 1, 2] rfl)
          · have hF := fx_it hc hF
            refine lv_aload_n hx hb d_Md_goThrough_59 rfl (lv_at hl 0 rfl) ?_
            refine lv_iload_n hx hb d_Md_goThrough_60 rfl (lv_at hl 1 rfl) ?_
            refine lv_iload_n hx hb d_Md_goThrough_61 rfl (lv_at hl 2 rfl) ?_
            refine k_Md_negates X hw lk_Md_180 d_Md_goThrough_62 hl.1 (lv_room (Nat.le_of_ble_eq_true rfl)) ⟨Nat.le_of_ble_eq_true rfl, Nat.le_of_ble_eq_true rfl⟩ ⟨Nat.zero_le _, Nat.zero_le _⟩ hF (fun σ H locs hF hw => ?_)
            refine lv_goto (tgt := 102) hx hb d_Md_goThrough_65 (by decide) ?_
            exact h102 v1 v2 _ _ _ _ hF hw (lv_sub hl [0, 1, 2] rfl)
  refine lv_aload_n hx hb d_Md_goThrough_0 rfl (lv_at hl 0 rfl) ?_
  refine k_Md_learn X hw lk_Md_174 d_Md_goThrough_1 hl.1 (lv_room (Nat.le_of_ble_eq_true rfl)) ⟨Nat.le_of_ble_eq_true rfl, Nat.le_of_ble_eq_true rfl⟩ ⟨Nat.zero_le _, Nat.zero_le _⟩ hF (fun σ H locs hF hw => ?_)
  refine lv_aload_n hx hb d_Md_goThrough_4 rfl (lv_at hl 0 rfl) ?_
  refine lv_iconst (v := (-1)) hx hb d_Md_goThrough_5 (by decide) ?_
  refine pI_Md_foundKind X hw lk_Md_165 d_Md_goThrough_6 hF (fun σ H locs hF hw => ?_)
  refine lv_aload_n hx hb d_Md_goThrough_9 rfl (lv_at hl 0 rfl) ?_
  refine lv_iconst (v := (-1)) hx hb d_Md_goThrough_10 (by decide) ?_
  refine pI_Md_foundFirst X hw lk_Md_168 d_Md_goThrough_11 hF (fun σ H locs hF hw => ?_)
  refine lv_aload_n hx hb d_Md_goThrough_14 rfl (lv_at hl 0 rfl) ?_
  refine lv_iconst (v := (-1)) hx hb d_Md_goThrough_15 (by decide) ?_
  refine pI_Md_foundSecond X hw lk_Md_171 d_Md_goThrough_16 hF (fun σ H locs hF hw => ?_)
  refine lv_aload_n hx hb d_Md_goThrough_19 rfl (lv_at hl 0 rfl) ?_
  refine lv_iconst (v := 0) hx hb d_Md_goThrough_20 (by decide) ?_
  refine pI_Md_foundMost X hw lk_Md_177 d_Md_goThrough_21 hF (fun σ H locs hF hw => ?_)
  refine lv_iconst (v := 0) hx hb d_Md_goThrough_24 (by decide) ?_
  refine lv_istore_n (lv' := [(2, .int 0), (0, .ref (h 0)), (1, .int v1)]) hx hb d_Md_goThrough_25 rfl hl (by decide) rfl (fun ls hl => ?_)
  exact h26 fx_fuel v1 0 _ _ _ _ hF hw (lv_sub hl [1, 2, 0] rfl)
section
variable {p : Program} {l : Launch} {e : Env} {R : Room} {s : State} {m : MethodId} {args : Array Value} {below : List Frame} {meth : Method} {c : Code} {H : Heap} {locs : List Loc} {cells slots : Nat} {Q : State → Prop}
variable {cc : ByteArray} {pc nL ix : Nat} {ls : Array Slot} {rest : List Value} {own : String} {D : va_G} {A : Nat → Prop} {h : Nat → Nat} {cA : Nat → ClassId} {σ : fx_S} {β : Type} {res : β × fx_S}
theorem k_Md_goThrough {v1 : Int32} (X : fx_X p m c cc nL s args own D fx_cl (fx_tys cA) fx_g fx_G A) (hw : fx_B D fx_cl (rf_ws h cA) A s.heap σ H locs) (lk : Cond.methodLink own ix y_Md_goThrough ∈ fx_g) (hdg : decode cc pc = .ok (.invokevirtual ix, 3)) (hsize : ls.size = nL) (hW : 2 * (F0 m pc ls (.int v1 :: .ref (h 0) :: rest)).monitorRoom + (rest.map fun v => v.category).sum ≤ 8) (hR : 3 + 1 ≤ R.frames ∧ 8 + (5 + 11) + 74 ≤ R.locals) (hf : cells ≤ R.cells ∧ slots ≤ R.slots) {k : Int32 → fx_M β} (hF : fx_bnd (F_Md_goThrough v1) k σ = some res) (kk : ∀ (r : Int32) (σ' : fx_S) (H' : Heap) (locs' : List Loc), k r σ' = some res → fx_B D fx_cl (rf_ws h cA) A s.heap σ' H' locs' → W p l e R s m args below meth c H' locs' cells slots Q (F0 m (pc + 3) ls (.int r :: rest))) : W p l e R s m args below meth c H locs cells slots Q (F0 m pc ls (.int v1 :: .ref (h 0) :: rest)) :=
  fx_call_i X hw (c_Md_goThrough l D h cA v1) (fx_cwV X lk hg_Md_goThrough fx_gok (rm := { frames := 3, cells := 0, slots := 0, locals := 74 }) rfl rfl (by decide +kernel) hR) (va_recv X.2.1 hw.1 (ci := 8) (q0 := 0) rfl rfl) (n := 1) rfl hdg hsize rfl hW hf hF kk
end
set_option maxHeartbeats 4000000 in
set_option maxRecDepth 100000 in
theorem c_Md_part (l : Launch) (D : va_G) (h : Nat → Nat) (cA : Nat → ClassId) (v1 : Int32) (v2 : Int32) (v3 : Int32) (v4 : Int32) : fx_Mv l y_Md_part b_Md_part 5 none { frames := 0, cells := 0, slots := 0, locals := 0 } D fx_cl (fx_tys cA) fx_g fx_G (rf_ws h cA) [.ref (h 0), .int v1, .int v2, .int v3, .int v4] (F_Md_part v1 v2 v3 v4) := by
  refine fx_start_v fx_G_ok (by decide) (Nat.le_of_ble_eq_true rfl) ?_
  intro p e s m args below meth c A ls σ res Q hF X hw hl hend
  have hx := X.1.1
  have hb := X.1.2.1
  have hl : lv_has ls 5 [(0, .ref (h 0)), (1, .int v1), (2, .int v2), (3, .int v3), (4, .int v4)] := hl
  unfold F_Md_part at hF
  refine lv_aload_n hx hb d_Md_part_0 rfl (lv_at hl 0 rfl) ?_
  refine gR_Md_partFrom X hw lk_Md_76 d_Md_part_1 ?_
  refine lv_aload_n hx hb d_Md_part_4 rfl (lv_at hl 0 rfl) ?_
  refine gI_Md_parts X hw lk_Md_197 d_Md_part_5 hF (fun x1 hF => ?_)
  refine lv_iload_n hx hb d_Md_part_8 rfl (lv_at hl 1 rfl) ?_
  refine sA_Md_partFrom X hw d_Md_part_9 hF (fun σ H locs hF hw => ?_)
  refine lv_aload_n hx hb d_Md_part_10 rfl (lv_at hl 0 rfl) ?_
  refine gR_Md_partTo X hw lk_Md_79 d_Md_part_11 ?_
  refine lv_aload_n hx hb d_Md_part_14 rfl (lv_at hl 0 rfl) ?_
  refine gI_Md_parts X hw lk_Md_197 d_Md_part_15 hF (fun x2 hF => ?_)
  refine lv_iload_n hx hb d_Md_part_18 rfl (lv_at hl 2 rfl) ?_
  refine sA_Md_partTo X hw d_Md_part_19 hF (fun σ H locs hF hw => ?_)
  refine lv_aload_n hx hb d_Md_part_20 rfl (lv_at hl 0 rfl) ?_
  refine gR_Md_partParent X hw lk_Md_82 d_Md_part_21 ?_
  refine lv_aload_n hx hb d_Md_part_24 rfl (lv_at hl 0 rfl) ?_
  refine gI_Md_parts X hw lk_Md_197 d_Md_part_25 hF (fun x3 hF => ?_)
  refine lv_iload_n hx hb d_Md_part_28 rfl (lv_at hl 3 rfl) ?_
  refine sA_Md_partParent X hw d_Md_part_29 hF (fun σ H locs hF hw => ?_)
  refine lv_aload_n hx hb d_Md_part_30 rfl (lv_at hl 0 rfl) ?_
  refine gR_Md_partSide X hw lk_Md_85 d_Md_part_31 ?_
  refine lv_aload_n hx hb d_Md_part_34 rfl (lv_at hl 0 rfl) ?_
  refine gI_Md_parts X hw lk_Md_197 d_Md_part_35 hF (fun x4 hF => ?_)
  refine lv_iload hx hb d_Md_part_38 (lv_at hl 4 rfl) ?_
  refine sA_Md_partSide X hw d_Md_part_40 hF (fun σ H locs hF hw => ?_)
  refine lv_aload_n hx hb d_Md_part_41 rfl (lv_at hl 0 rfl) ?_
  refine lv_dup hx hb d_Md_part_42 rfl ?_
  refine gI_Md_parts X hw lk_Md_197 d_Md_part_43 hF (fun x5 hF => ?_)
  refine lv_iconst (v := 1) hx hb d_Md_part_46 (by decide) ?_
  refine lv_iadd hx hb d_Md_part_47 ?_
  refine pI_Md_parts X hw lk_Md_197 d_Md_part_48 hF (fun σ H locs hF hw => ?_)
  exact hend _ _ _ _ _ d_Md_part_51 hF hw
section
variable {p : Program} {l : Launch} {e : Env} {R : Room} {s : State} {m : MethodId} {args : Array Value} {below : List Frame} {meth : Method} {c : Code} {H : Heap} {locs : List Loc} {cells slots : Nat} {Q : State → Prop}
variable {cc : ByteArray} {pc nL ix : Nat} {ls : Array Slot} {rest : List Value} {own : String} {D : va_G} {A : Nat → Prop} {h : Nat → Nat} {cA : Nat → ClassId} {σ : fx_S} {β : Type} {res : β × fx_S}
theorem k_Md_part {v1 : Int32} {v2 : Int32} {v3 : Int32} {v4 : Int32} (X : fx_X p m c cc nL s args own D fx_cl (fx_tys cA) fx_g fx_G A) (hw : fx_B D fx_cl (rf_ws h cA) A s.heap σ H locs) (lk : Cond.methodLink own ix y_Md_part ∈ fx_g) (hdg : decode cc pc = .ok (.invokevirtual ix, 3)) (hsize : ls.size = nL) (hW : 2 * (F0 m pc ls (.int v4 :: .int v3 :: .int v2 :: .int v1 :: .ref (h 0) :: rest)).monitorRoom + (rest.map fun v => v.category).sum ≤ 8) (hR : 0 + 1 ≤ R.frames ∧ 8 + (5 + 11) + 0 ≤ R.locals) (hf : cells ≤ R.cells ∧ slots ≤ R.slots) {k : Unit → fx_M β} (hF : fx_bnd (F_Md_part v1 v2 v3 v4) k σ = some res) (kk : ∀ (σ' : fx_S) (H' : Heap) (locs' : List Loc), k () σ' = some res → fx_B D fx_cl (rf_ws h cA) A s.heap σ' H' locs' → W p l e R s m args below meth c H' locs' cells slots Q (F0 m (pc + 3) ls rest)) : W p l e R s m args below meth c H locs cells slots Q (F0 m pc ls (.int v4 :: .int v3 :: .int v2 :: .int v1 :: .ref (h 0) :: rest)) :=
  fx_call_v X hw (c_Md_part l D h cA v1 v2 v3 v4) (fx_cwV X lk hg_Md_part fx_gok (rm := { frames := 0, cells := 0, slots := 0, locals := 0 }) rfl rfl (by decide +kernel) hR) (va_recv X.2.1 hw.1 (ci := 8) (q0 := 0) rfl rfl) (n := 4) rfl hdg hsize rfl hW hf hF kk
end
set_option maxHeartbeats 4000000 in
set_option maxRecDepth 100000 in
theorem c_Md_loosest (l : Launch) (D : va_G) (h : Nat → Nat) (cA : Nat → ClassId) (v1 : Int32) (v2 : Int32) (v3 : Int32) : fx_Mi l y_Md_loosest b_Md_loosest 8 (some .int) { frames := 2, cells := 0, slots := 0, locals := 46 } D fx_cl (fx_tys cA) fx_g fx_G (rf_ws h cA) [.ref (h 0), .int v1, .int v2, .int v3] (F_Md_loosest v1 v2 v3) := by
  refine fx_start_i fx_G_ok (by decide) (Nat.le_of_ble_eq_true rfl) ?_
  intro p e s m args below meth c A ls σ res Q hF X hw hl hend
  have hx := X.1.1
  have hb := X.1.2.1
  have hl : lv_has ls 8 [(0, .ref (h 0)), (1, .int v1), (2, .int v2), (3, .int v3)] := hl
  unfold F_Md_loosest at hF
  have h10 : ∀ (n10 : Nat) (v1 : Int32) (v3 : Int32) (v4 : Int32) (v5 : Int32) (v6 : Int32) (σ : fx_S) (H : Heap) (locs : List Loc) (ls : Array Slot), fx_loop5 (F_Md_loosest_B10) n10 v1 v3 v4 v5 v6 σ = some res → fx_B D fx_cl (rf_ws h cA) A s.heap σ H locs → lv_has ls 8 [(0, .ref (h 0)), (1, .int v1), (3, .int v3), (4, .int v4), (5, .int v5), (6, .int v6)] → W p l e { frames := 2, cells := 0, slots := 0, locals := 46 } s m args below meth c H locs 0 0 Q (F0 m 10 ls []) := by
    intro n10
    induction n10 with
    | zero => intro v1 v3 v4 v5 v6 σ H locs ls hF; cases hF
    | succ n10 ih10 =>
      obtain ⟨K10, eK10⟩ : ∃ K, K = fx_loop5 (F_Md_loosest_B10) n10 := ⟨_, rfl⟩
      rw [← eK10] at ih10
      have h100 : ∀ (v1 : Int32) (v3 : Int32) (v4 : Int32) (v5 : Int32) (v6 : Int32) (σ : fx_S) (H : Heap) (locs : List Loc) (ls : Array Slot), F_Md_loosest_J100 K10 v1 v3 v4 v5 v6 σ = some res → fx_B D fx_cl (rf_ws h cA) A s.heap σ H locs → lv_has ls 8 [(0, .ref (h 0)), (1, .int v1), (3, .int v3), (4, .int v4), (5, .int v5), (6, .int v6)] → W p l e { frames := 2, cells := 0, slots := 0, locals := 46 } s m args below meth c H locs 0 0 Q (F0 m 100 ls []) := by
        intro v1 v3 v4 v5 v6 σ H locs ls hF hw hl
        unfold F_Md_loosest_J100 at hF
        refine fx_iinc (lv' := fun x3 => [(6, .int x3), (0, .ref (h 0)), (1, .int v1), (3, .int v3), (4, .int v4), (5, .int v5)]) hx hb d_Md_loosest_100 hl (k := 5) rfl rfl (by decide) (fun _ => rfl) hF (fun x3 ls hF hl => ?_)
        refine lv_goto (tgt := 10) hx hb d_Md_loosest_103 (by decide) ?_
        exact ih10 v1 v3 v4 v5 x3 _ _ _ _ hF hw (lv_sub hl [1, 2, 3, 4, 5, 0] rfl)
      have h92 : ∀ (v1 : Int32) (v3 : Int32) (v6 : Int32) (v7 : Int32) (σ : fx_S) (H : Heap) (locs : List Loc) (ls : Array Slot), F_Md_loosest_J92 K10 v1 v3 v6 v7 σ = some res → fx_B D fx_cl (rf_ws h cA) A s.heap σ H locs → lv_has ls 8 [(0, .ref (h 0)), (1, .int v1), (3, .int v3), (6, .int v6), (7, .int v7)] → W p l e { frames := 2, cells := 0, slots := 0, locals := 46 } s m args below meth c H locs 0 0 Q (F0 m 92 ls []) := by
        intro v1 v3 v6 v7 σ H locs ls hF hw hl
        unfold F_Md_loosest_J92 at hF
        refine lv_iload hx hb d_Md_loosest_92 (lv_at hl 3 rfl) ?_
        refine lv_istore (lv' := [(4, .int v6), (0, .ref (h 0)), (1, .int v1), (3, .int v3), (6, .int v6), (7, .int v7)]) hx hb d_Md_loosest_94 hl (by decide) rfl (fun ls hl => ?_)
        refine lv_iload hx hb d_Md_loosest_96 (lv_at hl 5 rfl) ?_
        refine lv_istore (lv' := [(5, .int v7), (4, .int v6), (0, .ref (h 0)), (1, .int v1), (3, .int v3), (6, .int v6), (7, .int v7)]) hx hb d_Md_loosest_98 hl (by decide) rfl (fun ls hl => ?_)
        exact h100 v1 v3 v6 v7 v6 _ _ _ _ hF hw (lv_sub hl [2, 3, 4, 1, 0, 5] rfl)
      intro v1 v3 v4 v5 v6 σ H locs ls hF hw hl
      replace hF : F_Md_loosest_B10 (fx_loop5 (F_Md_loosest_B10) n10) v1 v3 v4 v5 v6 σ = some res := hF
      rw [← eK10] at hF
      unfold F_Md_loosest_B10 at hF
      refine lv_iload hx hb d_Md_loosest_10 (lv_at hl 5 rfl) ?_
      refine lv_iload_n hx hb d_Md_loosest_12 rfl (lv_at hl 2 rfl) ?_
      refine lv_icmp_gt (tgt := 106) hx hb d_Md_loosest_13 (by decide) (fun hc => ?_) (fun hc => ?_)
      · have hF := fx_it hc hF
        refine lv_iload hx hb d_Md_loosest_106 (lv_at hl 3 rfl) ?_
        exact hend _ _ _ _ _ _ d_Md_loosest_108 hF hw
      · have hF := fx_if hc hF
        refine lv_aload_n hx hb d_Md_loosest_16 rfl (lv_at hl 0 rfl) ?_
        refine gR_Md_kinds X hw lk_Md_19 d_Md_loosest_17 ?_
        refine lv_iload hx hb d_Md_loosest_20 (lv_at hl 5 rfl) ?_
        refine lA_Md_kinds X hw d_Md_loosest_22 hF (fun x1 hF => ?_)
        refine lv_iconst (v := 3) hx hb d_Md_loosest_23 (by decide) ?_
        refine lv_icmp_ne (tgt := 39) hx hb d_Md_loosest_24 (by decide) (fun hc => ?_) (fun hc => ?_)
        · have hF := fx_if hc hF
          refine lv_aload_n hx hb d_Md_loosest_39 rfl (lv_at hl 0 rfl) ?_
          refine gR_Md_kinds X hw lk_Md_19 d_Md_loosest_40 ?_
          refine lv_iload hx hb d_Md_loosest_43 (lv_at hl 5 rfl) ?_
          refine lA_Md_kinds X hw d_Md_loosest_45 hF (fun x2 hF => ?_)
          refine lv_if_eq (tgt := 100) hx hb d_Md_loosest_46 (by decide) (fun hc => ?_) (fun hc => ?_)
          · have hF := fx_it hc hF
            exact h100 v1 v3 v4 v5 v6 _ _ _ _ hF hw (lv_sub hl [0, 1, 2, 3, 4, 5] rfl)
          · have hF := fx_if hc hF
            refine lv_aload_n hx hb d_Md_loosest_49 rfl (lv_at hl 0 rfl) ?_
            refine lv_iload_n hx hb d_Md_loosest_50 rfl (lv_at hl 1 rfl) ?_
            refine lv_aload_n hx hb d_Md_loosest_51 rfl (lv_at hl 0 rfl) ?_
            refine gR_Md_operators X hw lk_Md_22 d_Md_loosest_52 ?_
            refine lv_iload hx hb d_Md_loosest_55 (lv_at hl 5 rfl) ?_
            refine lA_Md_operators X hw d_Md_loosest_57 hF (fun x4 hF => ?_)
            refine k_Md_rankOf X hw lk_Md_137 d_Md_loosest_58 hl.1 (lv_room (Nat.le_of_ble_eq_true rfl)) ⟨Nat.le_of_ble_eq_true rfl, Nat.le_of_ble_eq_true rfl⟩ ⟨Nat.zero_le _, Nat.zero_le _⟩ hF (fun x5 σ H locs hF hw => ?_)
            refine lv_istore (lv' := [(7, .int x5), (0, .ref (h 0)), (1, .int v1), (3, .int v3), (4, .int v4), (5, .int v5), (6, .int v6)]) hx hb d_Md_loosest_61 hl (by decide) rfl (fun ls hl => ?_)
            refine lv_iload hx hb d_Md_loosest_63 (lv_at hl 0 rfl) ?_
            refine lv_iload hx hb d_Md_loosest_65 (lv_at hl 5 rfl) ?_
            refine lv_icmp_lt (tgt := 92) hx hb d_Md_loosest_67 (by decide) (fun hc => ?_) (fun hc => ?_)
            · have hF := fx_it hc hF
              exact h92 v1 v3 v6 x5 _ _ _ _ hF hw (lv_sub hl [1, 2, 3, 6, 0] rfl)
            · have hF := fx_if hc hF
              refine lv_iload hx hb d_Md_loosest_70 (lv_at hl 0 rfl) ?_
              refine lv_iload hx hb d_Md_loosest_72 (lv_at hl 5 rfl) ?_
              refine lv_icmp_ne (tgt := 100) hx hb d_Md_loosest_74 (by decide) (fun hc => ?_) (fun hc => ?_)
              · have hF := fx_if hc hF
                exact h100 v1 v3 v4 v5 v6 _ _ _ _ hF hw (lv_sub hl [1, 2, 3, 4, 5, 6] rfl)
              · have hF := fx_it hc hF
                refine lv_aload_n hx hb d_Md_loosest_77 rfl (lv_at hl 1 rfl) ?_
                refine lv_iload_n hx hb d_Md_loosest_78 rfl (lv_at hl 2 rfl) ?_
                refine lv_aload_n hx hb d_Md_loosest_79 rfl (lv_at hl 1 rfl) ?_
                refine gR_Md_operators X hw lk_Md_22 d_Md_loosest_80 ?_
                refine lv_iload hx hb d_Md_loosest_83 (lv_at hl 6 rfl) ?_
                refine lA_Md_operators X hw d_Md_loosest_85 hF (fun x6 hF => ?_)
                refine k_Md_sideOf X hw lk_Md_134 d_Md_loosest_86 hl.1 (lv_room (Nat.le_of_ble_eq_true rfl)) ⟨Nat.le_of_ble_eq_true rfl, Nat.le_of_ble_eq_true rfl⟩ ⟨Nat.zero_le _, Nat.zero_le _⟩ hF (fun x7 σ H locs hF hw => ?_)
                refine lv_if_ne (tgt := 100) hx hb d_Md_loosest_89 (by decide) (fun hc => ?_) (fun hc => ?_)
                · have hF := fx_if hc hF
                  exact h100 v1 v3 v4 v5 v6 _ _ _ _ hF hw (lv_sub hl [1, 2, 3, 4, 5, 6] rfl)
                · have hF := fx_it hc hF
                  exact h92 v1 v3 v6 x5 _ _ _ _ hF hw (lv_sub hl [1, 2, 3, 6, 0] rfl)
        · have hF := fx_it hc hF
          refine lv_aload_n hx hb d_Md_loosest_27 rfl (lv_at hl 0 rfl) ?_
          refine gR_Md_match X hw lk_Md_66 d_Md_loosest_28 ?_
          refine lv_iload hx hb d_Md_loosest_31 (lv_at hl 5 rfl) ?_
          refine lA_Md_match X hw d_Md_loosest_33 hF (fun x8 hF => ?_)
          refine lv_istore (lv' := [(6, .int x8), (0, .ref (h 0)), (1, .int v1), (3, .int v3), (4, .int v4), (5, .int v5)]) hx hb d_Md_loosest_34 hl (by decide) rfl (fun ls hl => ?_)
          refine lv_goto (tgt := 100) hx hb d_Md_loosest_36 (by decide) ?_
          exact h100 v1 v3 v4 v5 x8 _ _ _ _ hF hw (lv_sub hl [1, 2, 3, 4, 5, 0] rfl)
  refine lv_iconst (v := (-1)) hx hb d_Md_loosest_0 (by decide) ?_
  refine lv_istore (lv' := [(4, .int (-1)), (0, .ref (h 0)), (1, .int v1), (2, .int v2), (3, .int v3)]) hx hb d_Md_loosest_1 hl (by decide) rfl (fun ls hl => ?_)
  refine lv_bipush (v := 10) hx hb d_Md_loosest_3 (by decide) ?_
  refine lv_istore (lv' := [(5, .int 10), (4, .int (-1)), (0, .ref (h 0)), (1, .int v1), (2, .int v2), (3, .int v3)]) hx hb d_Md_loosest_5 hl (by decide) rfl (fun ls hl => ?_)
  refine lv_iload_n hx hb d_Md_loosest_7 rfl (lv_at hl 4 rfl) ?_
  refine lv_istore (lv' := [(6, .int v2), (5, .int 10), (4, .int (-1)), (0, .ref (h 0)), (1, .int v1), (2, .int v2), (3, .int v3)]) hx hb d_Md_loosest_8 hl (by decide) rfl (fun ls hl => ?_)
  exact h10 fx_fuel v1 v3 (-1) 10 v2 _ _ _ _ hF hw (lv_sub hl [3, 4, 6, 2, 1, 0] rfl)
section
variable {p : Program} {l : Launch} {e : Env} {R : Room} {s : State} {m : MethodId} {args : Array Value} {below : List Frame} {meth : Method} {c : Code} {H : Heap} {locs : List Loc} {cells slots : Nat} {Q : State → Prop}
variable {cc : ByteArray} {pc nL ix : Nat} {ls : Array Slot} {rest : List Value} {own : String} {D : va_G} {A : Nat → Prop} {h : Nat → Nat} {cA : Nat → ClassId} {σ : fx_S} {β : Type} {res : β × fx_S}
theorem k_Md_loosest {v1 : Int32} {v2 : Int32} {v3 : Int32} (X : fx_X p m c cc nL s args own D fx_cl (fx_tys cA) fx_g fx_G A) (hw : fx_B D fx_cl (rf_ws h cA) A s.heap σ H locs) (lk : Cond.methodLink own ix y_Md_loosest ∈ fx_g) (hdg : decode cc pc = .ok (.invokevirtual ix, 3)) (hsize : ls.size = nL) (hW : 2 * (F0 m pc ls (.int v3 :: .int v2 :: .int v1 :: .ref (h 0) :: rest)).monitorRoom + (rest.map fun v => v.category).sum ≤ 8) (hR : 2 + 1 ≤ R.frames ∧ 8 + (8 + 11) + 46 ≤ R.locals) (hf : cells ≤ R.cells ∧ slots ≤ R.slots) {k : Int32 → fx_M β} (hF : fx_bnd (F_Md_loosest v1 v2 v3) k σ = some res) (kk : ∀ (r : Int32) (σ' : fx_S) (H' : Heap) (locs' : List Loc), k r σ' = some res → fx_B D fx_cl (rf_ws h cA) A s.heap σ' H' locs' → W p l e R s m args below meth c H' locs' cells slots Q (F0 m (pc + 3) ls (.int r :: rest))) : W p l e R s m args below meth c H locs cells slots Q (F0 m pc ls (.int v3 :: .int v2 :: .int v1 :: .ref (h 0) :: rest)) :=
  fx_call_i X hw (c_Md_loosest l D h cA v1 v2 v3) (fx_cwV X lk hg_Md_loosest fx_gok (rm := { frames := 2, cells := 0, slots := 0, locals := 46 }) rfl rfl (by decide +kernel) hR) (va_recv X.2.1 hw.1 (ci := 8) (q0 := 0) rfl rfl) (n := 3) rfl hdg hsize rfl hW hf hF kk
end
set_option maxHeartbeats 4000000 in
set_option maxRecDepth 100000 in
theorem c_Md_tell (l : Launch) (D : va_G) (h : Nat → Nat) (cA : Nat → ClassId) (v1 : Int32) (v2 : Int32) (v3 : Int32) : fx_Mv l y_Md_tell b_Md_tell 4 none { frames := 0, cells := 0, slots := 0, locals := 0 } D fx_cl (fx_tys cA) fx_g fx_G (rf_ws h cA) [.ref (h 0), .int v1, .int v2, .int v3] (F_Md_tell v1 v2 v3) := by
  refine fx_start_v fx_G_ok (by decide) (Nat.le_of_ble_eq_true rfl) ?_
  intro p e s m args below meth c A ls σ res Q hF X hw hl hend
  have hx := X.1.1
  have hb := X.1.2.1
  have hl : lv_has ls 4 [(0, .ref (h 0)), (1, .int v1), (2, .int v2), (3, .int v3)] := hl
  unfold F_Md_tell at hF
  refine lv_aload_n hx hb d_Md_tell_0 rfl (lv_at hl 0 rfl) ?_
  refine gR_Md_nodeKind X hw lk_Md_32 d_Md_tell_1 ?_
  refine lv_iload_n hx hb d_Md_tell_4 rfl (lv_at hl 1 rfl) ?_
  refine lv_iload_n hx hb d_Md_tell_5 rfl (lv_at hl 2 rfl) ?_
  refine sA_Md_nodeKind X hw d_Md_tell_6 hF (fun σ H locs hF hw => ?_)
  refine lv_aload_n hx hb d_Md_tell_7 rfl (lv_at hl 0 rfl) ?_
  refine gR_Md_nodePlace X hw lk_Md_44 d_Md_tell_8 ?_
  refine lv_iload_n hx hb d_Md_tell_11 rfl (lv_at hl 1 rfl) ?_
  refine lv_iload_n hx hb d_Md_tell_12 rfl (lv_at hl 3 rfl) ?_
  refine sA_Md_nodePlace X hw d_Md_tell_13 hF (fun σ H locs hF hw => ?_)
  refine lv_aload_n hx hb d_Md_tell_14 rfl (lv_at hl 0 rfl) ?_
  refine gR_Md_nodeOperator X hw lk_Md_35 d_Md_tell_15 ?_
  refine lv_iload_n hx hb d_Md_tell_18 rfl (lv_at hl 1 rfl) ?_
  refine lv_aload_n hx hb d_Md_tell_19 rfl (lv_at hl 0 rfl) ?_
  refine gR_Md_operators X hw lk_Md_22 d_Md_tell_20 ?_
  refine lv_iload_n hx hb d_Md_tell_23 rfl (lv_at hl 3 rfl) ?_
  refine lA_Md_operators X hw d_Md_tell_24 hF (fun x1 hF => ?_)
  refine sA_Md_nodeOperator X hw d_Md_tell_25 hF (fun σ H locs hF hw => ?_)
  refine lv_aload_n hx hb d_Md_tell_26 rfl (lv_at hl 0 rfl) ?_
  refine gR_Md_nodeNumber X hw lk_Md_50 d_Md_tell_27 ?_
  refine lv_iload_n hx hb d_Md_tell_30 rfl (lv_at hl 1 rfl) ?_
  refine lv_aload_n hx hb d_Md_tell_31 rfl (lv_at hl 0 rfl) ?_
  refine gR_Md_numbers X hw lk_Md_25 d_Md_tell_32 ?_
  refine lv_iload_n hx hb d_Md_tell_35 rfl (lv_at hl 3 rfl) ?_
  refine lA_Md_numbers X hw d_Md_tell_36 hF (fun x2 hF => ?_)
  refine sA_Md_nodeNumber X hw d_Md_tell_37 hF (fun σ H locs hF hw => ?_)
  exact hend _ _ _ _ _ d_Md_tell_38 hF hw
section
variable {p : Program} {l : Launch} {e : Env} {R : Room} {s : State} {m : MethodId} {args : Array Value} {below : List Frame} {meth : Method} {c : Code} {H : Heap} {locs : List Loc} {cells slots : Nat} {Q : State → Prop}
variable {cc : ByteArray} {pc nL ix : Nat} {ls : Array Slot} {rest : List Value} {own : String} {D : va_G} {A : Nat → Prop} {h : Nat → Nat} {cA : Nat → ClassId} {σ : fx_S} {β : Type} {res : β × fx_S}
theorem k_Md_tell {v1 : Int32} {v2 : Int32} {v3 : Int32} (X : fx_X p m c cc nL s args own D fx_cl (fx_tys cA) fx_g fx_G A) (hw : fx_B D fx_cl (rf_ws h cA) A s.heap σ H locs) (lk : Cond.methodLink own ix y_Md_tell ∈ fx_g) (hdg : decode cc pc = .ok (.invokevirtual ix, 3)) (hsize : ls.size = nL) (hW : 2 * (F0 m pc ls (.int v3 :: .int v2 :: .int v1 :: .ref (h 0) :: rest)).monitorRoom + (rest.map fun v => v.category).sum ≤ 8) (hR : 0 + 1 ≤ R.frames ∧ 8 + (4 + 11) + 0 ≤ R.locals) (hf : cells ≤ R.cells ∧ slots ≤ R.slots) {k : Unit → fx_M β} (hF : fx_bnd (F_Md_tell v1 v2 v3) k σ = some res) (kk : ∀ (σ' : fx_S) (H' : Heap) (locs' : List Loc), k () σ' = some res → fx_B D fx_cl (rf_ws h cA) A s.heap σ' H' locs' → W p l e R s m args below meth c H' locs' cells slots Q (F0 m (pc + 3) ls rest)) : W p l e R s m args below meth c H locs cells slots Q (F0 m pc ls (.int v3 :: .int v2 :: .int v1 :: .ref (h 0) :: rest)) :=
  fx_call_v X hw (c_Md_tell l D h cA v1 v2 v3) (fx_cwV X lk hg_Md_tell fx_gok (rm := { frames := 0, cells := 0, slots := 0, locals := 0 }) rfl rfl (by decide +kernel) hR) (va_recv X.2.1 hw.1 (ci := 8) (q0 := 0) rfl rfl) (n := 3) rfl hdg hsize rfl hW hf hF kk
end
set_option maxHeartbeats 4000000 in
set_option maxRecDepth 100000 in
theorem c_Md_root (l : Launch) (D : va_G) (h : Nat → Nat) (cA : Nat → ClassId) (v1 : Int32) (v2 : Int32) (v3 : Int32) (v4 : Int32) (v5 : Int32) : fx_Mv l y_Md_root b_Md_root 9 none { frames := 3, cells := 0, slots := 0, locals := 73 } D fx_cl (fx_tys cA) fx_g fx_G (rf_ws h cA) [.ref (h 0), .int v1, .int v2, .int v3, .int v4, .int v5] (F_Md_root v1 v2 v3 v4 v5) := by
  refine fx_start_v fx_G_ok (by decide) (Nat.le_of_ble_eq_true rfl) ?_
  intro p e s m args below meth c A ls σ res Q hF X hw hl hend
  have hx := X.1.1
  have hb := X.1.2.1
  have hl : lv_has ls 9 [(0, .ref (h 0)), (1, .int v1), (2, .int v2), (3, .int v3), (4, .int v4), (5, .int v5)] := hl
  unfold F_Md_root at hF
  have h199 : ∀ (v1 : Int32) (v2 : Int32) (v3 : Int32) (v6 : Int32) (v7 : Int32) (σ : fx_S) (H : Heap) (locs : List Loc) (ls : Array Slot), F_Md_root_J199 v1 v2 v3 v6 v7 σ = some res → fx_B D fx_cl (rf_ws h cA) A s.heap σ H locs → lv_has ls 9 [(0, .ref (h 0)), (1, .int v1), (2, .int v2), (3, .int v3), (6, .int v6), (7, .int v7)] → W p l e { frames := 3, cells := 0, slots := 0, locals := 73 } s m args below meth c H locs 0 0 Q (F0 m 199 ls []) := by
    intro v1 v2 v3 v6 v7 σ H locs ls hF hw hl
    unfold F_Md_root_J199 at hF
    refine lv_aload_n hx hb d_Md_root_199 rfl (lv_at hl 0 rfl) ?_
    refine lv_iload_n hx hb d_Md_root_200 rfl (lv_at hl 1 rfl) ?_
    refine lv_iload hx hb d_Md_root_201 (lv_at hl 4 rfl) ?_
    refine lv_iload hx hb d_Md_root_203 (lv_at hl 5 rfl) ?_
    refine k_Md_loosest X hw lk_Md_211 d_Md_root_205 hl.1 (lv_room (Nat.le_of_ble_eq_true rfl)) ⟨Nat.le_of_ble_eq_true rfl, Nat.le_of_ble_eq_true rfl⟩ ⟨Nat.zero_le _, Nat.zero_le _⟩ hF (fun x4 σ H locs hF hw => ?_)
    refine lv_istore (lv' := [(8, .int x4), (0, .ref (h 0)), (1, .int v1), (2, .int v2), (3, .int v3), (6, .int v6), (7, .int v7)]) hx hb d_Md_root_208 hl (by decide) rfl (fun ls hl => ?_)
    refine lv_aload_n hx hb d_Md_root_210 rfl (lv_at hl 1 rfl) ?_
    refine lv_iload_n hx hb d_Md_root_211 rfl (lv_at hl 3 rfl) ?_
    refine lv_iload_n hx hb d_Md_root_212 rfl (lv_at hl 4 rfl) ?_
    refine lv_iadd hx hb d_Md_root_213 ?_
    refine lv_aload_n hx hb d_Md_root_214 rfl (lv_at hl 1 rfl) ?_
    refine gR_Md_kinds X hw lk_Md_19 d_Md_root_215 ?_
    refine lv_iload hx hb d_Md_root_218 (lv_at hl 0 rfl) ?_
    refine lA_Md_kinds X hw d_Md_root_220 hF (fun x5 hF => ?_)
    refine lv_iload hx hb d_Md_root_221 (lv_at hl 0 rfl) ?_
    refine k_Md_tell X hw lk_Md_208 d_Md_root_223 hl.1 (lv_room (Nat.le_of_ble_eq_true rfl)) ⟨Nat.le_of_ble_eq_true rfl, Nat.le_of_ble_eq_true rfl⟩ ⟨Nat.zero_le _, Nat.zero_le _⟩ hF (fun σ H locs hF hw => ?_)
    refine lv_aload_n hx hb d_Md_root_226 rfl (lv_at hl 1 rfl) ?_
    refine gR_Md_kinds X hw lk_Md_19 d_Md_root_227 ?_
    refine lv_iload hx hb d_Md_root_230 (lv_at hl 0 rfl) ?_
    refine lA_Md_kinds X hw d_Md_root_232 hF (fun x6 hF => ?_)
    refine lv_iconst (v := 1) hx hb d_Md_root_233 (by decide) ?_
    refine lv_icmp_ne (tgt := 264) hx hb d_Md_root_234 (by decide) (fun hc => ?_) (fun hc => ?_)
    · have hF := fx_if hc hF
      refine lv_aload_n hx hb d_Md_root_264 rfl (lv_at hl 1 rfl) ?_
      refine lv_iload hx hb d_Md_root_265 (lv_at hl 0 rfl) ?_
      refine lv_iconst (v := 1) hx hb d_Md_root_267 (by decide) ?_
      refine lv_iadd hx hb d_Md_root_268 ?_
      refine lv_iload hx hb d_Md_root_269 (lv_at hl 6 rfl) ?_
      refine lv_iload_n hx hb d_Md_root_271 rfl (lv_at hl 4 rfl) ?_
      refine lv_iconst (v := 0) hx hb d_Md_root_272 (by decide) ?_
      refine k_Md_part X hw lk_Md_200 d_Md_root_273 hl.1 (lv_room (Nat.le_of_ble_eq_true rfl)) ⟨Nat.le_of_ble_eq_true rfl, Nat.le_of_ble_eq_true rfl⟩ ⟨Nat.zero_le _, Nat.zero_le _⟩ hF (fun σ H locs hF hw => ?_)
      exact hend _ _ _ _ _ d_Md_root_276 hF hw
    · have hF := fx_it hc hF
      refine lv_aload_n hx hb d_Md_root_237 rfl (lv_at hl 1 rfl) ?_
      refine lv_iload hx hb d_Md_root_238 (lv_at hl 0 rfl) ?_
      refine lv_iconst (v := 1) hx hb d_Md_root_240 (by decide) ?_
      refine lv_iadd hx hb d_Md_root_241 ?_
      refine lv_iload hx hb d_Md_root_242 (lv_at hl 6 rfl) ?_
      refine lv_iload_n hx hb d_Md_root_244 rfl (lv_at hl 4 rfl) ?_
      refine lv_iconst (v := 1) hx hb d_Md_root_245 (by decide) ?_
      refine k_Md_part X hw lk_Md_200 d_Md_root_246 hl.1 (lv_room (Nat.le_of_ble_eq_true rfl)) ⟨Nat.le_of_ble_eq_true rfl, Nat.le_of_ble_eq_true rfl⟩ ⟨Nat.zero_le _, Nat.zero_le _⟩ hF (fun σ H locs hF hw => ?_)
      refine lv_aload_n hx hb d_Md_root_249 rfl (lv_at hl 1 rfl) ?_
      refine lv_iload hx hb d_Md_root_250 (lv_at hl 5 rfl) ?_
      refine lv_iload hx hb d_Md_root_252 (lv_at hl 0 rfl) ?_
      refine lv_iconst (v := 1) hx hb d_Md_root_254 (by decide) ?_
      refine lv_isub hx hb d_Md_root_255 ?_
      refine lv_iload_n hx hb d_Md_root_256 rfl (lv_at hl 4 rfl) ?_
      refine lv_iconst (v := 0) hx hb d_Md_root_257 (by decide) ?_
      refine k_Md_part X hw lk_Md_200 d_Md_root_258 hl.1 (lv_room (Nat.le_of_ble_eq_true rfl)) ⟨Nat.le_of_ble_eq_true rfl, Nat.le_of_ble_eq_true rfl⟩ ⟨Nat.zero_le _, Nat.zero_le _⟩ hF (fun σ H locs hF hw => ?_)
      refine lv_goto (tgt := 276) hx hb d_Md_root_261 (by decide) ?_
      exact hend _ _ _ _ _ d_Md_root_276 hF hw
  have h147 : ∀ (v1 : Int32) (v2 : Int32) (v3 : Int32) (v6 : Int32) (v7 : Int32) (σ : fx_S) (H : Heap) (locs : List Loc) (ls : Array Slot), F_Md_root_J147 v1 v2 v3 v6 v7 σ = some res → fx_B D fx_cl (rf_ws h cA) A s.heap σ H locs → lv_has ls 9 [(0, .ref (h 0)), (1, .int v1), (2, .int v2), (3, .int v3), (6, .int v6), (7, .int v7)] → W p l e { frames := 3, cells := 0, slots := 0, locals := 73 } s m args below meth c H locs 0 0 Q (F0 m 147 ls []) := by
    intro v1 v2 v3 v6 v7 σ H locs ls hF hw hl
    unfold F_Md_root_J147 at hF
    refine lv_aload_n hx hb d_Md_root_147 rfl (lv_at hl 0 rfl) ?_
    refine gR_Md_kinds X hw lk_Md_19 d_Md_root_148 ?_
    refine lv_iload hx hb d_Md_root_151 (lv_at hl 4 rfl) ?_
    refine lA_Md_kinds X hw d_Md_root_153 hF (fun x3 hF => ?_)
    refine lv_iconst (v := 3) hx hb d_Md_root_154 (by decide) ?_
    refine lv_icmp_ne (tgt := 199) hx hb d_Md_root_155 (by decide) (fun hc => ?_) (fun hc => ?_)
    · have hF := fx_if hc hF
      exact h199 v1 v2 v3 v6 v7 _ _ _ _ hF hw (lv_sub hl [0, 1, 2, 3, 4, 5] rfl)
    · have hF := fx_it hc hF
      refine lv_aload_n hx hb d_Md_root_158 rfl (lv_at hl 0 rfl) ?_
      refine gR_Md_match X hw lk_Md_66 d_Md_root_159 ?_
      refine lv_iload hx hb d_Md_root_162 (lv_at hl 4 rfl) ?_
      refine lA_Md_match X hw d_Md_root_164 hF (fun x7 hF => ?_)
      refine lv_iload hx hb d_Md_root_165 (lv_at hl 5 rfl) ?_
      refine lv_icmp_ne (tgt := 199) hx hb d_Md_root_167 (by decide) (fun hc => ?_) (fun hc => ?_)
      · have hF := fx_if hc hF
        exact h199 v1 v2 v3 v6 v7 _ _ _ _ hF hw (lv_sub hl [0, 1, 2, 3, 4, 5] rfl)
      · have hF := fx_it hc hF
        refine lv_aload_n hx hb d_Md_root_170 rfl (lv_at hl 0 rfl) ?_
        refine lv_iload_n hx hb d_Md_root_171 rfl (lv_at hl 2 rfl) ?_
        refine lv_iload_n hx hb d_Md_root_172 rfl (lv_at hl 3 rfl) ?_
        refine lv_iadd hx hb d_Md_root_173 ?_
        refine lv_iconst (v := 3) hx hb d_Md_root_174 (by decide) ?_
        refine lv_iload hx hb d_Md_root_175 (lv_at hl 5 rfl) ?_
        refine lv_iconst (v := 1) hx hb d_Md_root_177 (by decide) ?_
        refine lv_isub hx hb d_Md_root_178 ?_
        refine k_Md_tell X hw lk_Md_208 d_Md_root_179 hl.1 (lv_room (Nat.le_of_ble_eq_true rfl)) ⟨Nat.le_of_ble_eq_true rfl, Nat.le_of_ble_eq_true rfl⟩ ⟨Nat.zero_le _, Nat.zero_le _⟩ hF (fun σ H locs hF hw => ?_)
        refine lv_aload_n hx hb d_Md_root_182 rfl (lv_at hl 0 rfl) ?_
        refine lv_iload hx hb d_Md_root_183 (lv_at hl 4 rfl) ?_
        refine lv_iconst (v := 1) hx hb d_Md_root_185 (by decide) ?_
        refine lv_iadd hx hb d_Md_root_186 ?_
        refine lv_iload hx hb d_Md_root_187 (lv_at hl 5 rfl) ?_
        refine lv_iconst (v := 2) hx hb d_Md_root_189 (by decide) ?_
        refine lv_isub hx hb d_Md_root_190 ?_
        refine lv_iload_n hx hb d_Md_root_191 rfl (lv_at hl 3 rfl) ?_
        refine lv_iconst (v := 0) hx hb d_Md_root_192 (by decide) ?_
        refine k_Md_part X hw lk_Md_200 d_Md_root_193 hl.1 (lv_room (Nat.le_of_ble_eq_true rfl)) ⟨Nat.le_of_ble_eq_true rfl, Nat.le_of_ble_eq_true rfl⟩ ⟨Nat.zero_le _, Nat.zero_le _⟩ hF (fun σ H locs hF hw => ?_)
        refine lv_goto (tgt := 276) hx hb d_Md_root_196 (by decide) ?_
        exact hend _ _ _ _ _ d_Md_root_276 hF hw
  have h64 : ∀ (v1 : Int32) (v2 : Int32) (v3 : Int32) (v6 : Int32) (v7 : Int32) (σ : fx_S) (H : Heap) (locs : List Loc) (ls : Array Slot), F_Md_root_J64 v1 v2 v3 v6 v7 σ = some res → fx_B D fx_cl (rf_ws h cA) A s.heap σ H locs → lv_has ls 9 [(0, .ref (h 0)), (1, .int v1), (2, .int v2), (3, .int v3), (6, .int v6), (7, .int v7)] → W p l e { frames := 3, cells := 0, slots := 0, locals := 73 } s m args below meth c H locs 0 0 Q (F0 m 64 ls []) := by
    intro v1 v2 v3 v6 v7 σ H locs ls hF hw hl
    unfold F_Md_root_J64 at hF
    refine lv_iload hx hb d_Md_root_64 (lv_at hl 4 rfl) ?_
    refine lv_iload hx hb d_Md_root_66 (lv_at hl 5 rfl) ?_
    refine lv_icmp_ne (tgt := 84) hx hb d_Md_root_68 (by decide) (fun hc => ?_) (fun hc => ?_)
    · have hF := fx_if hc hF
      refine lv_aload_n hx hb d_Md_root_84 rfl (lv_at hl 0 rfl) ?_
      refine gR_Md_kinds X hw lk_Md_19 d_Md_root_85 ?_
      refine lv_iload hx hb d_Md_root_88 (lv_at hl 4 rfl) ?_
      refine lA_Md_kinds X hw d_Md_root_90 hF (fun x2 hF => ?_)
      refine lv_iconst (v := 3) hx hb d_Md_root_91 (by decide) ?_
      refine lv_icmp_ne (tgt := 147) hx hb d_Md_root_92 (by decide) (fun hc => ?_) (fun hc => ?_)
      · have hF := fx_if hc hF
        exact h147 v1 v2 v3 v6 v7 _ _ _ _ hF hw (lv_sub hl [0, 1, 2, 3, 4, 5] rfl)
      · have hF := fx_it hc hF
        refine lv_aload_n hx hb d_Md_root_95 rfl (lv_at hl 0 rfl) ?_
        refine gR_Md_match X hw lk_Md_66 d_Md_root_96 ?_
        refine lv_iload hx hb d_Md_root_99 (lv_at hl 4 rfl) ?_
        refine lA_Md_match X hw d_Md_root_101 hF (fun x8 hF => ?_)
        refine lv_iload hx hb d_Md_root_102 (lv_at hl 5 rfl) ?_
        refine lv_icmp_ne (tgt := 147) hx hb d_Md_root_104 (by decide) (fun hc => ?_) (fun hc => ?_)
        · have hF := fx_if hc hF
          exact h147 v1 v2 v3 v6 v7 _ _ _ _ hF hw (lv_sub hl [0, 1, 2, 3, 4, 5] rfl)
        · have hF := fx_it hc hF
          refine lv_aload_n hx hb d_Md_root_107 rfl (lv_at hl 0 rfl) ?_
          refine lv_iload hx hb d_Md_root_108 (lv_at hl 4 rfl) ?_
          refine lv_iconst (v := 1) hx hb d_Md_root_110 (by decide) ?_
          refine lv_iadd hx hb d_Md_root_111 ?_
          refine k_Md_begins X hw lk_Md_162 d_Md_root_112 hl.1 (lv_room (Nat.le_of_ble_eq_true rfl)) ⟨Nat.le_of_ble_eq_true rfl, Nat.le_of_ble_eq_true rfl⟩ ⟨Nat.zero_le _, Nat.zero_le _⟩ hF (fun x9 σ H locs hF hw => ?_)
          refine lv_if_eq (tgt := 147) hx hb d_Md_root_115 (by decide) (fun hc => ?_) (fun hc => ?_)
          · have hF := fx_it hc hF
            exact h147 v1 v2 v3 v6 v7 _ _ _ _ hF hw (lv_sub hl [0, 1, 2, 3, 4, 5] rfl)
          · have hF := fx_if hc hF
            refine lv_aload_n hx hb d_Md_root_118 rfl (lv_at hl 0 rfl) ?_
            refine lv_iload_n hx hb d_Md_root_119 rfl (lv_at hl 2 rfl) ?_
            refine lv_iload_n hx hb d_Md_root_120 rfl (lv_at hl 3 rfl) ?_
            refine lv_iadd hx hb d_Md_root_121 ?_
            refine lv_iconst (v := 4) hx hb d_Md_root_122 (by decide) ?_
            refine lv_iload hx hb d_Md_root_123 (lv_at hl 4 rfl) ?_
            refine lv_iconst (v := 1) hx hb d_Md_root_125 (by decide) ?_
            refine lv_iadd hx hb d_Md_root_126 ?_
            refine k_Md_tell X hw lk_Md_208 d_Md_root_127 hl.1 (lv_room (Nat.le_of_ble_eq_true rfl)) ⟨Nat.le_of_ble_eq_true rfl, Nat.le_of_ble_eq_true rfl⟩ ⟨Nat.zero_le _, Nat.zero_le _⟩ hF (fun σ H locs hF hw => ?_)
            refine lv_aload_n hx hb d_Md_root_130 rfl (lv_at hl 0 rfl) ?_
            refine lv_iload hx hb d_Md_root_131 (lv_at hl 4 rfl) ?_
            refine lv_iconst (v := 2) hx hb d_Md_root_133 (by decide) ?_
            refine lv_iadd hx hb d_Md_root_134 ?_
            refine lv_iload hx hb d_Md_root_135 (lv_at hl 5 rfl) ?_
            refine lv_iconst (v := 1) hx hb d_Md_root_137 (by decide) ?_
            refine lv_isub hx hb d_Md_root_138 ?_
            refine lv_iload_n hx hb d_Md_root_139 rfl (lv_at hl 3 rfl) ?_
            refine lv_iconst (v := 0) hx hb d_Md_root_140 (by decide) ?_
            refine k_Md_part X hw lk_Md_200 d_Md_root_141 hl.1 (lv_room (Nat.le_of_ble_eq_true rfl)) ⟨Nat.le_of_ble_eq_true rfl, Nat.le_of_ble_eq_true rfl⟩ ⟨Nat.zero_le _, Nat.zero_le _⟩ hF (fun σ H locs hF hw => ?_)
            refine lv_goto (tgt := 276) hx hb d_Md_root_144 (by decide) ?_
            exact hend _ _ _ _ _ d_Md_root_276 hF hw
    · have hF := fx_it hc hF
      refine lv_aload_n hx hb d_Md_root_71 rfl (lv_at hl 0 rfl) ?_
      refine lv_iload_n hx hb d_Md_root_72 rfl (lv_at hl 2 rfl) ?_
      refine lv_iload_n hx hb d_Md_root_73 rfl (lv_at hl 3 rfl) ?_
      refine lv_iadd hx hb d_Md_root_74 ?_
      refine lv_iconst (v := 0) hx hb d_Md_root_75 (by decide) ?_
      refine lv_iload hx hb d_Md_root_76 (lv_at hl 4 rfl) ?_
      refine k_Md_tell X hw lk_Md_208 d_Md_root_78 hl.1 (lv_room (Nat.le_of_ble_eq_true rfl)) ⟨Nat.le_of_ble_eq_true rfl, Nat.le_of_ble_eq_true rfl⟩ ⟨Nat.zero_le _, Nat.zero_le _⟩ hF (fun σ H locs hF hw => ?_)
      refine lv_goto (tgt := 276) hx hb d_Md_root_81 (by decide) ?_
      exact hend _ _ _ _ _ d_Md_root_276 hF hw
  have h8 : ∀ (n8 : Nat) (v1 : Int32) (v2 : Int32) (v3 : Int32) (v6 : Int32) (v7 : Int32) (σ : fx_S) (H : Heap) (locs : List Loc) (ls : Array Slot), fx_loop5 (F_Md_root_B8) n8 v1 v2 v3 v6 v7 σ = some res → fx_B D fx_cl (rf_ws h cA) A s.heap σ H locs → lv_has ls 9 [(0, .ref (h 0)), (1, .int v1), (2, .int v2), (3, .int v3), (6, .int v6), (7, .int v7)] → W p l e { frames := 3, cells := 0, slots := 0, locals := 73 } s m args below meth c H locs 0 0 Q (F0 m 8 ls []) := by
    intro n8
    induction n8 with
    | zero => intro v1 v2 v3 v6 v7 σ H locs ls hF; cases hF
    | succ n8 ih8 =>
      obtain ⟨K8, eK8⟩ : ∃ K, K = fx_loop5 (F_Md_root_B8) n8 := ⟨_, rfl⟩
      rw [← eK8] at ih8
      intro v1 v2 v3 v6 v7 σ H locs ls hF hw hl
      replace hF : F_Md_root_B8 (fx_loop5 (F_Md_root_B8) n8) v1 v2 v3 v6 v7 σ = some res := hF
      rw [← eK8] at hF
      unfold F_Md_root_B8 at hF
      refine lv_aload_n hx hb d_Md_root_8 rfl (lv_at hl 0 rfl) ?_
      refine gR_Md_kinds X hw lk_Md_19 d_Md_root_9 ?_
      refine lv_iload hx hb d_Md_root_12 (lv_at hl 4 rfl) ?_
      refine lA_Md_kinds X hw d_Md_root_14 hF (fun x1 hF => ?_)
      refine lv_iconst (v := 3) hx hb d_Md_root_15 (by decide) ?_
      refine lv_icmp_ne (tgt := 64) hx hb d_Md_root_16 (by decide) (fun hc => ?_) (fun hc => ?_)
      · have hF := fx_if hc hF
        exact h64 v1 v2 v3 v6 v7 _ _ _ _ hF hw (lv_sub hl [0, 1, 2, 3, 4, 5] rfl)
      · have hF := fx_it hc hF
        refine lv_aload_n hx hb d_Md_root_19 rfl (lv_at hl 0 rfl) ?_
        refine gR_Md_match X hw lk_Md_66 d_Md_root_20 ?_
        refine lv_iload hx hb d_Md_root_23 (lv_at hl 4 rfl) ?_
        refine lA_Md_match X hw d_Md_root_25 hF (fun x10 hF => ?_)
        refine lv_iload hx hb d_Md_root_26 (lv_at hl 5 rfl) ?_
        refine lv_icmp_ne (tgt := 64) hx hb d_Md_root_28 (by decide) (fun hc => ?_) (fun hc => ?_)
        · have hF := fx_if hc hF
          exact h64 v1 v2 v3 v6 v7 _ _ _ _ hF hw (lv_sub hl [0, 1, 2, 3, 4, 5] rfl)
        · have hF := fx_it hc hF
          refine lv_aload_n hx hb d_Md_root_31 rfl (lv_at hl 0 rfl) ?_
          refine lv_iload hx hb d_Md_root_32 (lv_at hl 4 rfl) ?_
          refine lv_iconst (v := 1) hx hb d_Md_root_34 (by decide) ?_
          refine lv_iadd hx hb d_Md_root_35 ?_
          refine k_Md_begins X hw lk_Md_162 d_Md_root_36 hl.1 (lv_room (Nat.le_of_ble_eq_true rfl)) ⟨Nat.le_of_ble_eq_true rfl, Nat.le_of_ble_eq_true rfl⟩ ⟨Nat.zero_le _, Nat.zero_le _⟩ hF (fun x11 σ H locs hF hw => ?_)
          refine lv_if_ne (tgt := 64) hx hb d_Md_root_39 (by decide) (fun hc => ?_) (fun hc => ?_)
          · have hF := fx_if hc hF
            exact h64 v1 v2 v3 v6 v7 _ _ _ _ hF hw (lv_sub hl [0, 1, 2, 3, 4, 5] rfl)
          · have hF := fx_it hc hF
            refine lv_aload_n hx hb d_Md_root_42 rfl (lv_at hl 0 rfl) ?_
            refine gR_Md_kinds X hw lk_Md_19 d_Md_root_43 ?_
            refine lv_iload hx hb d_Md_root_46 (lv_at hl 5 rfl) ?_
            refine lv_iconst (v := 1) hx hb d_Md_root_48 (by decide) ?_
            refine lv_isub hx hb d_Md_root_49 ?_
            refine lA_Md_kinds X hw d_Md_root_50 hF (fun x12 hF => ?_)
            refine lv_iconst (v := 1) hx hb d_Md_root_51 (by decide) ?_
            refine lv_icmp_eq (tgt := 64) hx hb d_Md_root_52 (by decide) (fun hc => ?_) (fun hc => ?_)
            · have hF := fx_it hc hF
              exact h64 v1 v2 v3 v6 v7 _ _ _ _ hF hw (lv_sub hl [0, 1, 2, 3, 4, 5] rfl)
            · have hF := fx_if hc hF
              refine fx_iinc (lv' := fun x13 => [(6, .int x13), (0, .ref (h 0)), (1, .int v1), (2, .int v2), (3, .int v3), (7, .int v7)]) hx hb d_Md_root_55 hl (k := 4) rfl rfl (by decide) (fun _ => rfl) hF (fun x13 ls hF hl => ?_)
              refine fx_iinc (lv' := fun x14 => [(7, .int x14), (6, .int x13), (0, .ref (h 0)), (1, .int v1), (2, .int v2), (3, .int v3)]) hx hb d_Md_root_58 hl (k := 5) rfl rfl (by decide) (fun _ => rfl) hF (fun x14 ls hF hl => ?_)
              refine lv_goto (tgt := 8) hx hb d_Md_root_61 (by decide) ?_
              exact ih8 v1 v2 v3 x13 x14 _ _ _ _ hF hw (lv_sub hl [2, 3, 4, 5, 1, 0] rfl)
  refine lv_iload hx hb d_Md_root_0 (lv_at hl 4 rfl) ?_
  refine lv_istore (lv' := [(6, .int v4), (0, .ref (h 0)), (1, .int v1), (2, .int v2), (3, .int v3), (4, .int v4), (5, .int v5)]) hx hb d_Md_root_2 hl (by decide) rfl (fun ls hl => ?_)
  refine lv_iload hx hb d_Md_root_4 (lv_at hl 6 rfl) ?_
  refine lv_istore (lv' := [(7, .int v5), (6, .int v4), (0, .ref (h 0)), (1, .int v1), (2, .int v2), (3, .int v3), (4, .int v4), (5, .int v5)]) hx hb d_Md_root_6 hl (by decide) rfl (fun ls hl => ?_)
  exact h8 fx_fuel v1 v2 v3 v4 v5 _ _ _ _ hF hw (lv_sub hl [2, 3, 4, 5, 1, 0] rfl)
section
variable {p : Program} {l : Launch} {e : Env} {R : Room} {s : State} {m : MethodId} {args : Array Value} {below : List Frame} {meth : Method} {c : Code} {H : Heap} {locs : List Loc} {cells slots : Nat} {Q : State → Prop}
variable {cc : ByteArray} {pc nL ix : Nat} {ls : Array Slot} {rest : List Value} {own : String} {D : va_G} {A : Nat → Prop} {h : Nat → Nat} {cA : Nat → ClassId} {σ : fx_S} {β : Type} {res : β × fx_S}
theorem k_Md_root {v1 : Int32} {v2 : Int32} {v3 : Int32} {v4 : Int32} {v5 : Int32} (X : fx_X p m c cc nL s args own D fx_cl (fx_tys cA) fx_g fx_G A) (hw : fx_B D fx_cl (rf_ws h cA) A s.heap σ H locs) (lk : Cond.methodLink own ix y_Md_root ∈ fx_g) (hdg : decode cc pc = .ok (.invokevirtual ix, 3)) (hsize : ls.size = nL) (hW : 2 * (F0 m pc ls (.int v5 :: .int v4 :: .int v3 :: .int v2 :: .int v1 :: .ref (h 0) :: rest)).monitorRoom + (rest.map fun v => v.category).sum ≤ 8) (hR : 3 + 1 ≤ R.frames ∧ 8 + (9 + 11) + 73 ≤ R.locals) (hf : cells ≤ R.cells ∧ slots ≤ R.slots) {k : Unit → fx_M β} (hF : fx_bnd (F_Md_root v1 v2 v3 v4 v5) k σ = some res) (kk : ∀ (σ' : fx_S) (H' : Heap) (locs' : List Loc), k () σ' = some res → fx_B D fx_cl (rf_ws h cA) A s.heap σ' H' locs' → W p l e R s m args below meth c H' locs' cells slots Q (F0 m (pc + 3) ls rest)) : W p l e R s m args below meth c H locs cells slots Q (F0 m pc ls (.int v5 :: .int v4 :: .int v3 :: .int v2 :: .int v1 :: .ref (h 0) :: rest)) :=
  fx_call_v X hw (c_Md_root l D h cA v1 v2 v3 v4 v5) (fx_cwV X lk hg_Md_root fx_gok (rm := { frames := 3, cells := 0, slots := 0, locals := 73 }) rfl rfl (by decide +kernel) hR) (va_recv X.2.1 hw.1 (ci := 8) (q0 := 0) rfl rfl) (n := 5) rfl hdg hsize rfl hW hf hF kk
end
set_option maxHeartbeats 4000000 in
set_option maxRecDepth 100000 in
theorem c_Md_grow (l : Launch) (D : va_G) (h : Nat → Nat) (cA : Nat → ClassId) (v1 : Int32) (v2 : Int32) : fx_Mi l y_Md_grow b_Md_grow 8 (some .int) { frames := 4, cells := 0, slots := 0, locals := 101 } D fx_cl (fx_tys cA) fx_g fx_G (rf_ws h cA) [.ref (h 0), .int v1, .int v2] (F_Md_grow v1 v2) := by
  refine fx_start_i fx_G_ok (by decide) (Nat.le_of_ble_eq_true rfl) ?_
  intro p e s m args below meth c A ls σ res Q hF X hw hl hend
  have hx := X.1.1
  have hb := X.1.2.1
  have hl : lv_has ls 8 [(0, .ref (h 0)), (1, .int v1), (2, .int v2)] := hl
  unfold F_Md_grow at hF
  have h20 : ∀ (n20 : Nat) (v1 : Int32) (v2 : Int32) (v3 : Int32) (σ : fx_S) (H : Heap) (locs : List Loc) (ls : Array Slot), fx_loop3 (F_Md_grow_B20) n20 v1 v2 v3 σ = some res → fx_B D fx_cl (rf_ws h cA) A s.heap σ H locs → lv_has ls 8 [(0, .ref (h 0)), (1, .int v1), (2, .int v2), (3, .int v3)] → W p l e { frames := 4, cells := 0, slots := 0, locals := 101 } s m args below meth c H locs 0 0 Q (F0 m 20 ls []) := by
    intro n20
    induction n20 with
    | zero => intro v1 v2 v3 σ H locs ls hF; cases hF
    | succ n20 ih20 =>
      obtain ⟨K20, eK20⟩ : ∃ K, K = fx_loop3 (F_Md_grow_B20) n20 := ⟨_, rfl⟩
      rw [← eK20] at ih20
      have h168 : ∀ (v1 : Int32) (v2 : Int32) (v3 : Int32) (v4 : Int32) (v5 : Int32) (σ : fx_S) (H : Heap) (locs : List Loc) (ls : Array Slot), F_Md_grow_J168 K20 v1 v2 v3 v4 v5 σ = some res → fx_B D fx_cl (rf_ws h cA) A s.heap σ H locs → lv_has ls 8 [(0, .ref (h 0)), (1, .int v1), (2, .int v2), (3, .int v3), (4, .int v4), (5, .int v5)] → W p l e { frames := 4, cells := 0, slots := 0, locals := 101 } s m args below meth c H locs 0 0 Q (F0 m 168 ls []) := by
        intro v1 v2 v3 v4 v5 σ H locs ls hF hw hl
        unfold F_Md_grow_J168 at hF
        refine lv_aload_n hx hb d_Md_grow_168 rfl (lv_at hl 0 rfl) ?_
        refine lv_iload_n hx hb d_Md_grow_169 rfl (lv_at hl 1 rfl) ?_
        refine lv_iload_n hx hb d_Md_grow_170 rfl (lv_at hl 2 rfl) ?_
        refine lv_iload_n hx hb d_Md_grow_171 rfl (lv_at hl 3 rfl) ?_
        refine lv_iload hx hb d_Md_grow_172 (lv_at hl 4 rfl) ?_
        refine lv_iload hx hb d_Md_grow_174 (lv_at hl 5 rfl) ?_
        refine k_Md_root X hw lk_Md_204 d_Md_grow_176 hl.1 (lv_room (Nat.le_of_ble_eq_true rfl)) ⟨Nat.le_of_ble_eq_true rfl, Nat.le_of_ble_eq_true rfl⟩ ⟨Nat.zero_le _, Nat.zero_le _⟩ hF (fun σ H locs hF hw => ?_)
        refine fx_iinc (lv' := fun x13 => [(3, .int x13), (0, .ref (h 0)), (1, .int v1), (2, .int v2), (4, .int v4), (5, .int v5)]) hx hb d_Md_grow_179 hl (k := 3) rfl rfl (by decide) (fun _ => rfl) hF (fun x13 ls hF hl => ?_)
        refine lv_goto (tgt := 20) hx hb d_Md_grow_182 (by decide) ?_
        exact ih20 v1 v2 x13 _ _ _ _ hF hw (lv_sub hl [1, 2, 3, 0] rfl)
      have h152 : ∀ (v1 : Int32) (v2 : Int32) (v3 : Int32) (v4 : Int32) (v5 : Int32) (v6 : Int32) (σ : fx_S) (H : Heap) (locs : List Loc) (ls : Array Slot), F_Md_grow_J152 K20 v1 v2 v3 v4 v5 v6 σ = some res → fx_B D fx_cl (rf_ws h cA) A s.heap σ H locs → lv_has ls 8 [(0, .ref (h 0)), (1, .int v1), (2, .int v2), (3, .int v3), (4, .int v4), (5, .int v5), (6, .int v6)] → W p l e { frames := 4, cells := 0, slots := 0, locals := 101 } s m args below meth c H locs 0 0 Q (F0 m 152 ls []) := by
        intro v1 v2 v3 v4 v5 v6 σ H locs ls hF hw hl
        unfold F_Md_grow_J152 at hF
        refine lv_iload hx hb d_Md_grow_152 (lv_at hl 6 rfl) ?_
        refine lv_iconst (v := (-1)) hx hb d_Md_grow_154 (by decide) ?_
        refine lv_icmp_eq (tgt := 168) hx hb d_Md_grow_155 (by decide) (fun hc => ?_) (fun hc => ?_)
        · have hF := fx_it hc hF
          exact h168 v1 v2 v3 v4 v5 _ _ _ _ hF hw (lv_sub hl [0, 1, 2, 3, 4, 5] rfl)
        · have hF := fx_if hc hF
          refine lv_aload_n hx hb d_Md_grow_158 rfl (lv_at hl 0 rfl) ?_
          refine gR_Md_nodeSecond X hw lk_Md_41 d_Md_grow_159 ?_
          refine lv_iload_n hx hb d_Md_grow_162 rfl (lv_at hl 2 rfl) ?_
          refine lv_iload hx hb d_Md_grow_163 (lv_at hl 6 rfl) ?_
          refine lv_iadd hx hb d_Md_grow_165 ?_
          refine lv_iload_n hx hb d_Md_grow_166 rfl (lv_at hl 3 rfl) ?_
          refine sA_Md_nodeSecond X hw d_Md_grow_167 hF (fun σ H locs hF hw => ?_)
          exact h168 v1 v2 v3 v4 v5 _ _ _ _ hF hw (lv_sub hl [0, 1, 2, 3, 4, 5] rfl)
      have h127 : ∀ (v1 : Int32) (v2 : Int32) (v3 : Int32) (v4 : Int32) (v5 : Int32) (v6 : Int32) (v7 : Int32) (t0 : Int32) (t1 : Int32) (σ : fx_S) (H : Heap) (locs : List Loc) (ls : Array Slot), F_Md_grow_J127 K20 v1 v2 v3 v4 v5 v6 v7 t0 t1 σ = some res → fx_B D fx_cl (rf_ws h cA) A s.heap σ H locs → lv_has ls 8 [(0, .ref (h 0)), (1, .int v1), (2, .int v2), (3, .int v3), (4, .int v4), (5, .int v5), (6, .int v6), (7, .int v7)] → W p l e { frames := 4, cells := 0, slots := 0, locals := 101 } s m args below meth c H locs 0 0 Q (F0 m 127 ls [.int t0, .int t1, .ref (h 13)]) := by
        intro v1 v2 v3 v4 v5 v6 v7 t0 t1 σ H locs ls hF hw hl
        unfold F_Md_grow_J127 at hF
        refine sA_Md_nodeDeep X hw d_Md_grow_127 hF (fun σ H locs hF hw => ?_)
        refine lv_iload hx hb d_Md_grow_128 (lv_at hl 6 rfl) ?_
        refine lv_iconst (v := (-1)) hx hb d_Md_grow_130 (by decide) ?_
        refine lv_icmp_eq (tgt := 152) hx hb d_Md_grow_131 (by decide) (fun hc => ?_) (fun hc => ?_)
        · have hF := fx_it hc hF
          exact h152 v1 v2 v3 v4 v5 v6 _ _ _ _ hF hw (lv_sub hl [0, 1, 2, 3, 4, 5, 6] rfl)
        · have hF := fx_if hc hF
          refine lv_iload hx hb d_Md_grow_134 (lv_at hl 7 rfl) ?_
          refine lv_if_ne (tgt := 152) hx hb d_Md_grow_136 (by decide) (fun hc => ?_) (fun hc => ?_)
          · have hF := fx_if hc hF
            exact h152 v1 v2 v3 v4 v5 v6 _ _ _ _ hF hw (lv_sub hl [0, 1, 2, 3, 4, 5, 6] rfl)
          · have hF := fx_it hc hF
            refine lv_aload_n hx hb d_Md_grow_139 rfl (lv_at hl 0 rfl) ?_
            refine gR_Md_nodeFirst X hw lk_Md_38 d_Md_grow_140 ?_
            refine lv_iload_n hx hb d_Md_grow_143 rfl (lv_at hl 2 rfl) ?_
            refine lv_iload hx hb d_Md_grow_144 (lv_at hl 6 rfl) ?_
            refine lv_iadd hx hb d_Md_grow_146 ?_
            refine lv_iload_n hx hb d_Md_grow_147 rfl (lv_at hl 3 rfl) ?_
            refine sA_Md_nodeFirst X hw d_Md_grow_148 hF (fun σ H locs hF hw => ?_)
            refine lv_goto (tgt := 168) hx hb d_Md_grow_149 (by decide) ?_
            exact h168 v1 v2 v3 v4 v5 _ _ _ _ hF hw (lv_sub hl [0, 1, 2, 3, 4, 5] rfl)
      intro v1 v2 v3 σ H locs ls hF hw hl
      replace hF : F_Md_grow_B20 (fx_loop3 (F_Md_grow_B20) n20) v1 v2 v3 σ = some res := hF
      rw [← eK20] at hF
      unfold F_Md_grow_B20 at hF
      refine lv_aload_n hx hb d_Md_grow_20 rfl (lv_at hl 0 rfl) ?_
      refine gI_Md_parts X hw lk_Md_197 d_Md_grow_21 hF (fun x2 hF => ?_)
      refine lv_if_le (tgt := 185) hx hb d_Md_grow_24 (by decide) (fun hc => ?_) (fun hc => ?_)
      · have hF := fx_it hc hF
        refine lv_iload_n hx hb d_Md_grow_185 rfl (lv_at hl 3 rfl) ?_
        exact hend _ _ _ _ _ _ d_Md_grow_186 hF hw
      · have hF := fx_if hc hF
        refine lv_aload_n hx hb d_Md_grow_27 rfl (lv_at hl 0 rfl) ?_
        refine lv_dup hx hb d_Md_grow_28 rfl ?_
        refine gI_Md_parts X hw lk_Md_197 d_Md_grow_29 hF (fun x3 hF => ?_)
        refine lv_iconst (v := 1) hx hb d_Md_grow_32 (by decide) ?_
        refine lv_isub hx hb d_Md_grow_33 ?_
        refine pI_Md_parts X hw lk_Md_197 d_Md_grow_34 hF (fun σ H locs hF hw => ?_)
        refine lv_aload_n hx hb d_Md_grow_37 rfl (lv_at hl 0 rfl) ?_
        refine gR_Md_partFrom X hw lk_Md_76 d_Md_grow_38 ?_
        refine lv_aload_n hx hb d_Md_grow_41 rfl (lv_at hl 0 rfl) ?_
        refine gI_Md_parts X hw lk_Md_197 d_Md_grow_42 hF (fun x4 hF => ?_)
        refine lA_Md_partFrom X hw d_Md_grow_45 hF (fun x5 hF => ?_)
        refine lv_istore (lv' := [(4, .int x5), (0, .ref (h 0)), (1, .int v1), (2, .int v2), (3, .int v3)]) hx hb d_Md_grow_46 hl (by decide) rfl (fun ls hl => ?_)
        refine lv_aload_n hx hb d_Md_grow_48 rfl (lv_at hl 1 rfl) ?_
        refine gR_Md_partTo X hw lk_Md_79 d_Md_grow_49 ?_
        refine lv_aload_n hx hb d_Md_grow_52 rfl (lv_at hl 1 rfl) ?_
        refine gI_Md_parts X hw lk_Md_197 d_Md_grow_53 hF (fun x6 hF => ?_)
        refine lA_Md_partTo X hw d_Md_grow_56 hF (fun x7 hF => ?_)
        refine lv_istore (lv' := [(5, .int x7), (4, .int x5), (0, .ref (h 0)), (1, .int v1), (2, .int v2), (3, .int v3)]) hx hb d_Md_grow_57 hl (by decide) rfl (fun ls hl => ?_)
        refine lv_aload_n hx hb d_Md_grow_59 rfl (lv_at hl 2 rfl) ?_
        refine gR_Md_partParent X hw lk_Md_82 d_Md_grow_60 ?_
        refine lv_aload_n hx hb d_Md_grow_63 rfl (lv_at hl 2 rfl) ?_
        refine gI_Md_parts X hw lk_Md_197 d_Md_grow_64 hF (fun x8 hF => ?_)
        refine lA_Md_partParent X hw d_Md_grow_67 hF (fun x9 hF => ?_)
        refine lv_istore (lv' := [(6, .int x9), (5, .int x7), (4, .int x5), (0, .ref (h 0)), (1, .int v1), (2, .int v2), (3, .int v3)]) hx hb d_Md_grow_68 hl (by decide) rfl (fun ls hl => ?_)
        refine lv_aload_n hx hb d_Md_grow_70 rfl (lv_at hl 3 rfl) ?_
        refine gR_Md_partSide X hw lk_Md_85 d_Md_grow_71 ?_
        refine lv_aload_n hx hb d_Md_grow_74 rfl (lv_at hl 3 rfl) ?_
        refine gI_Md_parts X hw lk_Md_197 d_Md_grow_75 hF (fun x10 hF => ?_)
        refine lA_Md_partSide X hw d_Md_grow_78 hF (fun x11 hF => ?_)
        refine lv_istore (lv' := [(7, .int x11), (6, .int x9), (5, .int x7), (4, .int x5), (0, .ref (h 0)), (1, .int v1), (2, .int v2), (3, .int v3)]) hx hb d_Md_grow_79 hl (by decide) rfl (fun ls hl => ?_)
        refine lv_aload_n hx hb d_Md_grow_81 rfl (lv_at hl 4 rfl) ?_
        refine gR_Md_nodeFirst X hw lk_Md_38 d_Md_grow_82 ?_
        refine lv_iload_n hx hb d_Md_grow_85 rfl (lv_at hl 6 rfl) ?_
        refine lv_iload_n hx hb d_Md_grow_86 rfl (lv_at hl 7 rfl) ?_
        refine lv_iadd hx hb d_Md_grow_87 ?_
        refine lv_iconst (v := (-1)) hx hb d_Md_grow_88 (by decide) ?_
        refine sA_Md_nodeFirst X hw d_Md_grow_89 hF (fun σ H locs hF hw => ?_)
        refine lv_aload_n hx hb d_Md_grow_90 rfl (lv_at hl 4 rfl) ?_
        refine gR_Md_nodeSecond X hw lk_Md_41 d_Md_grow_91 ?_
        refine lv_iload_n hx hb d_Md_grow_94 rfl (lv_at hl 6 rfl) ?_
        refine lv_iload_n hx hb d_Md_grow_95 rfl (lv_at hl 7 rfl) ?_
        refine lv_iadd hx hb d_Md_grow_96 ?_
        refine lv_iconst (v := (-1)) hx hb d_Md_grow_97 (by decide) ?_
        refine sA_Md_nodeSecond X hw d_Md_grow_98 hF (fun σ H locs hF hw => ?_)
        refine lv_aload_n hx hb d_Md_grow_99 rfl (lv_at hl 4 rfl) ?_
        refine gR_Md_nodeDeep X hw lk_Md_47 d_Md_grow_100 ?_
        refine lv_iload_n hx hb d_Md_grow_103 rfl (lv_at hl 6 rfl) ?_
        refine lv_iload_n hx hb d_Md_grow_104 rfl (lv_at hl 7 rfl) ?_
        refine lv_iadd hx hb d_Md_grow_105 ?_
        refine lv_iload hx hb d_Md_grow_106 (lv_at hl 1 rfl) ?_
        refine lv_iconst (v := (-1)) hx hb d_Md_grow_108 (by decide) ?_
        refine lv_icmp_ne (tgt := 116) hx hb d_Md_grow_109 (by decide) (fun hc => ?_) (fun hc => ?_)
        · have hF := fx_if hc hF
          refine lv_aload_n hx hb d_Md_grow_116 rfl (lv_at hl 4 rfl) ?_
          refine gR_Md_nodeDeep X hw lk_Md_47 d_Md_grow_117 ?_
          refine lv_iload_n hx hb d_Md_grow_120 rfl (lv_at hl 6 rfl) ?_
          refine lv_iload hx hb d_Md_grow_121 (lv_at hl 1 rfl) ?_
          refine lv_iadd hx hb d_Md_grow_123 ?_
          refine lA_Md_nodeDeep X hw d_Md_grow_124 hF (fun x12 hF => ?_)
          refine lv_iconst (v := 1) hx hb d_Md_grow_125 (by decide) ?_
          refine lv_iadd hx hb d_Md_grow_126 ?_
          exact h127 v1 v2 v3 x5 x7 x9 x11 (x12 + 1) (v2 + v3) _ _ _ _ hF hw (lv_sub hl [4, 5, 6, 7, 3, 2, 1, 0] rfl)
        · have hF := fx_it hc hF
          refine lv_iconst (v := 1) hx hb d_Md_grow_112 (by decide) ?_
          refine lv_goto (tgt := 127) hx hb d_Md_grow_113 (by decide) ?_
          exact h127 v1 v2 v3 x5 x7 x9 x11 1 (v2 + v3) _ _ _ _ hF hw (lv_sub hl [4, 5, 6, 7, 3, 2, 1, 0] rfl)
  refine lv_iconst (v := 0) hx hb d_Md_grow_0 (by decide) ?_
  refine lv_istore_n (lv' := [(3, .int 0), (0, .ref (h 0)), (1, .int v1), (2, .int v2)]) hx hb d_Md_grow_1 rfl hl (by decide) rfl (fun ls hl => ?_)
  refine lv_aload_n hx hb d_Md_grow_2 rfl (lv_at hl 1 rfl) ?_
  refine lv_iconst (v := 0) hx hb d_Md_grow_3 (by decide) ?_
  refine pI_Md_parts X hw lk_Md_197 d_Md_grow_4 hF (fun σ H locs hF hw => ?_)
  refine lv_aload_n hx hb d_Md_grow_7 rfl (lv_at hl 1 rfl) ?_
  refine lv_iconst (v := 0) hx hb d_Md_grow_8 (by decide) ?_
  refine lv_aload_n hx hb d_Md_grow_9 rfl (lv_at hl 1 rfl) ?_
  refine gI_Md_count X hw lk_Md_140 d_Md_grow_10 hF (fun x1 hF => ?_)
  refine lv_iconst (v := 1) hx hb d_Md_grow_13 (by decide) ?_
  refine lv_isub hx hb d_Md_grow_14 ?_
  refine lv_iconst (v := (-1)) hx hb d_Md_grow_15 (by decide) ?_
  refine lv_iconst (v := 0) hx hb d_Md_grow_16 (by decide) ?_
  refine k_Md_part X hw lk_Md_200 d_Md_grow_17 hl.1 (lv_room (Nat.le_of_ble_eq_true rfl)) ⟨Nat.le_of_ble_eq_true rfl, Nat.le_of_ble_eq_true rfl⟩ ⟨Nat.zero_le _, Nat.zero_le _⟩ hF (fun σ H locs hF hw => ?_)
  exact h20 fx_fuel v1 v2 0 _ _ _ _ hF hw (lv_sub hl [1, 2, 3, 0] rfl)
section
variable {p : Program} {l : Launch} {e : Env} {R : Room} {s : State} {m : MethodId} {args : Array Value} {below : List Frame} {meth : Method} {c : Code} {H : Heap} {locs : List Loc} {cells slots : Nat} {Q : State → Prop}
variable {cc : ByteArray} {pc nL ix : Nat} {ls : Array Slot} {rest : List Value} {own : String} {D : va_G} {A : Nat → Prop} {h : Nat → Nat} {cA : Nat → ClassId} {σ : fx_S} {β : Type} {res : β × fx_S}
theorem k_Md_grow {v1 : Int32} {v2 : Int32} (X : fx_X p m c cc nL s args own D fx_cl (fx_tys cA) fx_g fx_G A) (hw : fx_B D fx_cl (rf_ws h cA) A s.heap σ H locs) (lk : Cond.methodLink own ix y_Md_grow ∈ fx_g) (hdg : decode cc pc = .ok (.invokevirtual ix, 3)) (hsize : ls.size = nL) (hW : 2 * (F0 m pc ls (.int v2 :: .int v1 :: .ref (h 0) :: rest)).monitorRoom + (rest.map fun v => v.category).sum ≤ 8) (hR : 4 + 1 ≤ R.frames ∧ 8 + (8 + 11) + 101 ≤ R.locals) (hf : cells ≤ R.cells ∧ slots ≤ R.slots) {k : Int32 → fx_M β} (hF : fx_bnd (F_Md_grow v1 v2) k σ = some res) (kk : ∀ (r : Int32) (σ' : fx_S) (H' : Heap) (locs' : List Loc), k r σ' = some res → fx_B D fx_cl (rf_ws h cA) A s.heap σ' H' locs' → W p l e R s m args below meth c H' locs' cells slots Q (F0 m (pc + 3) ls (.int r :: rest))) : W p l e R s m args below meth c H locs cells slots Q (F0 m pc ls (.int v2 :: .int v1 :: .ref (h 0) :: rest)) :=
  fx_call_i X hw (c_Md_grow l D h cA v1 v2) (fx_cwV X lk hg_Md_grow fx_gok (rm := { frames := 4, cells := 0, slots := 0, locals := 101 }) rfl rfl (by decide +kernel) hR) (va_recv X.2.1 hw.1 (ci := 8) (q0 := 0) rfl rfl) (n := 2) rfl hdg hsize rfl hW hf hF kk
end
set_option maxHeartbeats 4000000 in
set_option maxRecDepth 100000 in
theorem c_Md_resolve (l : Launch) (D : va_G) (h : Nat → Nat) (cA : Nat → ClassId) (v1 : Int32) : fx_Mi l y_Md_resolve b_Md_resolve 4 (some .int) { frames := 5, cells := 0, slots := 0, locals := 128 } D fx_cl (fx_tys cA) fx_g fx_G (rf_ws h cA) [.ref (h 0), .int v1] (F_Md_resolve v1) := by
  refine fx_start_i fx_G_ok (by decide) (Nat.le_of_ble_eq_true rfl) ?_
  intro p e s m args below meth c A ls σ res Q hF X hw hl hend
  have hx := X.1.1
  have hb := X.1.2.1
  have hl : lv_has ls 4 [(0, .ref (h 0)), (1, .int v1)] := hl
  unfold F_Md_resolve at hF
  have h80 : ∀ (n80 : Nat) (v3 : Int32) (σ : fx_S) (H : Heap) (locs : List Loc) (ls : Array Slot), fx_loop1 (F_Md_resolve_B80) n80 v3 σ = some res → fx_B D fx_cl (rf_ws h cA) A s.heap σ H locs → lv_has ls 4 [(0, .ref (h 0)), (3, .int v3)] → W p l e { frames := 5, cells := 0, slots := 0, locals := 128 } s m args below meth c H locs 0 0 Q (F0 m 80 ls []) := by
    intro n80
    induction n80 with
    | zero => intro v3 σ H locs ls hF; cases hF
    | succ n80 ih80 =>
      obtain ⟨K80, eK80⟩ : ∃ K, K = fx_loop1 (F_Md_resolve_B80) n80 := ⟨_, rfl⟩
      rw [← eK80] at ih80
      have h115 : ∀ (v3 : Int32) (t0 : Int32) (σ : fx_S) (H : Heap) (locs : List Loc) (ls : Array Slot), F_Md_resolve_J115 K80 v3 t0 σ = some res → fx_B D fx_cl (rf_ws h cA) A s.heap σ H locs → lv_has ls 4 [(0, .ref (h 0)), (3, .int v3)] → W p l e { frames := 5, cells := 0, slots := 0, locals := 128 } s m args below meth c H locs 0 0 Q (F0 m 115 ls [.int t0, .ref (h 0)]) := by
        intro v3 t0 σ H locs ls hF hw hl
        unfold F_Md_resolve_J115 at hF
        refine pI_Md_deepest X hw lk_Md_231 d_Md_resolve_115 hF (fun σ H locs hF hw => ?_)
        refine fx_iinc (lv' := fun x14 => [(3, .int x14), (0, .ref (h 0))]) hx hb d_Md_resolve_118 hl (k := 1) rfl rfl (by decide) (fun _ => rfl) hF (fun x14 ls hF hl => ?_)
        refine lv_goto (tgt := 80) hx hb d_Md_resolve_121 (by decide) ?_
        exact ih80 x14 _ _ _ _ hF hw (lv_sub hl [1, 0] rfl)
      intro v3 σ H locs ls hF hw hl
      replace hF : F_Md_resolve_B80 (fx_loop1 (F_Md_resolve_B80) n80) v3 σ = some res := hF
      rw [← eK80] at hF
      unfold F_Md_resolve_B80 at hF
      refine lv_iload_n hx hb d_Md_resolve_80 rfl (lv_at hl 1 rfl) ?_
      refine lv_aload_n hx hb d_Md_resolve_81 rfl (lv_at hl 0 rfl) ?_
      refine gI_Md_treeSize X hw lk_Md_222 d_Md_resolve_82 hF (fun x9 hF => ?_)
      refine lv_icmp_ge (tgt := 124) hx hb d_Md_resolve_85 (by decide) (fun hc => ?_) (fun hc => ?_)
      · have hF := fx_it hc hF
        refine lv_aload_n hx hb d_Md_resolve_124 rfl (lv_at hl 0 rfl) ?_
        refine gI_Md_treeSize X hw lk_Md_222 d_Md_resolve_125 hF (fun x10 hF => ?_)
        exact hend _ _ _ _ _ _ d_Md_resolve_128 hF hw
      · have hF := fx_if hc hF
        refine lv_aload_n hx hb d_Md_resolve_88 rfl (lv_at hl 0 rfl) ?_
        refine lv_aload_n hx hb d_Md_resolve_89 rfl (lv_at hl 0 rfl) ?_
        refine gR_Md_nodeDeep X hw lk_Md_47 d_Md_resolve_90 ?_
        refine lv_iload_n hx hb d_Md_resolve_93 rfl (lv_at hl 1 rfl) ?_
        refine lA_Md_nodeDeep X hw d_Md_resolve_94 hF (fun x11 hF => ?_)
        refine lv_aload_n hx hb d_Md_resolve_95 rfl (lv_at hl 0 rfl) ?_
        refine gI_Md_deepest X hw lk_Md_231 d_Md_resolve_96 hF (fun x12 hF => ?_)
        refine lv_icmp_le (tgt := 111) hx hb d_Md_resolve_99 (by decide) (fun hc => ?_) (fun hc => ?_)
        · have hF := fx_it hc hF
          refine lv_aload_n hx hb d_Md_resolve_111 rfl (lv_at hl 0 rfl) ?_
          refine gI_Md_deepest X hw lk_Md_231 d_Md_resolve_112 hF (fun x13 hF => ?_)
          exact h115 v3 x13 _ _ _ _ hF hw (lv_sub hl [0, 1] rfl)
        · have hF := fx_if hc hF
          refine lv_aload_n hx hb d_Md_resolve_102 rfl (lv_at hl 0 rfl) ?_
          refine gR_Md_nodeDeep X hw lk_Md_47 d_Md_resolve_103 ?_
          refine lv_iload_n hx hb d_Md_resolve_106 rfl (lv_at hl 1 rfl) ?_
          refine lA_Md_nodeDeep X hw d_Md_resolve_107 hF (fun x15 hF => ?_)
          refine lv_goto (tgt := 115) hx hb d_Md_resolve_108 (by decide) ?_
          exact h115 v3 x15 _ _ _ _ hF hw (lv_sub hl [0, 1] rfl)
  refine lv_aload_n hx hb d_Md_resolve_0 rfl (lv_at hl 0 rfl) ?_
  refine lv_aload_n hx hb d_Md_resolve_1 rfl (lv_at hl 0 rfl) ?_
  refine lv_iload_n hx hb d_Md_resolve_2 rfl (lv_at hl 1 rfl) ?_
  refine k_Md_whyNot X hw lk_Md_215 d_Md_resolve_3 hl.1 (lv_room (Nat.le_of_ble_eq_true rfl)) ⟨Nat.le_of_ble_eq_true rfl, Nat.le_of_ble_eq_true rfl⟩ ⟨Nat.zero_le _, Nat.zero_le _⟩ hF (fun x1 σ H locs hF hw => ?_)
  refine k_Md_isGood X hw lk_Md_124 d_Md_resolve_6 hl.1 (lv_room (Nat.le_of_ble_eq_true rfl)) ⟨Nat.le_of_ble_eq_true rfl, Nat.le_of_ble_eq_true rfl⟩ ⟨Nat.zero_le _, Nat.zero_le _⟩ hF (fun x2 σ H locs hF hw => ?_)
  refine lv_if_ne (tgt := 14) hx hb d_Md_resolve_9 (by decide) (fun hc => ?_) (fun hc => ?_)
  · have hF := fx_if hc hF
    refine lv_aload_n hx hb d_Md_resolve_14 rfl (lv_at hl 0 rfl) ?_
    refine lv_iload_n hx hb d_Md_resolve_15 rfl (lv_at hl 1 rfl) ?_
    refine k_Md_goThrough X hw lk_Md_219 d_Md_resolve_16 hl.1 (lv_room (Nat.le_of_ble_eq_true rfl)) ⟨Nat.le_of_ble_eq_true rfl, Nat.le_of_ble_eq_true rfl⟩ ⟨Nat.zero_le _, Nat.zero_le _⟩ hF (fun x3 σ H locs hF hw => ?_)
    refine lv_istore_n (lv' := [(2, .int x3), (0, .ref (h 0)), (1, .int v1)]) hx hb d_Md_resolve_19 rfl hl (by decide) rfl (fun ls hl => ?_)
    refine lv_aload_n hx hb d_Md_resolve_20 rfl (lv_at hl 1 rfl) ?_
    refine lv_aload_n hx hb d_Md_resolve_21 rfl (lv_at hl 1 rfl) ?_
    refine gI_Md_foundKind X hw lk_Md_165 d_Md_resolve_22 hF (fun x4 hF => ?_)
    refine pI_Md_clashKind X hw lk_Md_53 d_Md_resolve_25 hF (fun σ H locs hF hw => ?_)
    refine lv_aload_n hx hb d_Md_resolve_28 rfl (lv_at hl 1 rfl) ?_
    refine lv_aload_n hx hb d_Md_resolve_29 rfl (lv_at hl 1 rfl) ?_
    refine gI_Md_foundFirst X hw lk_Md_168 d_Md_resolve_30 hF (fun x5 hF => ?_)
    refine pI_Md_clashFirst X hw lk_Md_57 d_Md_resolve_33 hF (fun σ H locs hF hw => ?_)
    refine lv_aload_n hx hb d_Md_resolve_36 rfl (lv_at hl 1 rfl) ?_
    refine lv_aload_n hx hb d_Md_resolve_37 rfl (lv_at hl 1 rfl) ?_
    refine gI_Md_foundSecond X hw lk_Md_171 d_Md_resolve_38 hF (fun x6 hF => ?_)
    refine pI_Md_clashSecond X hw lk_Md_60 d_Md_resolve_41 hF (fun σ H locs hF hw => ?_)
    refine lv_iload_n hx hb d_Md_resolve_44 rfl (lv_at hl 0 rfl) ?_
    refine lv_if_ne (tgt := 55) hx hb d_Md_resolve_45 (by decide) (fun hc => ?_) (fun hc => ?_)
    · have hF := fx_if hc hF
      refine lv_aload_n hx hb d_Md_resolve_55 rfl (lv_at hl 1 rfl) ?_
      refine lv_aload_n hx hb d_Md_resolve_56 rfl (lv_at hl 1 rfl) ?_
      refine gI_Md_foundMost X hw lk_Md_177 d_Md_resolve_57 hF (fun x7 hF => ?_)
      refine pI_Md_mostWaiting X hw lk_Md_225 d_Md_resolve_60 hF (fun σ H locs hF hw => ?_)
      refine lv_aload_n hx hb d_Md_resolve_63 rfl (lv_at hl 1 rfl) ?_
      refine lv_aload_n hx hb d_Md_resolve_64 rfl (lv_at hl 1 rfl) ?_
      refine lv_iload_n hx hb d_Md_resolve_65 rfl (lv_at hl 2 rfl) ?_
      refine lv_iconst (v := 0) hx hb d_Md_resolve_66 (by decide) ?_
      refine k_Md_grow X hw lk_Md_228 d_Md_resolve_67 hl.1 (lv_room (Nat.le_of_ble_eq_true rfl)) ⟨Nat.le_of_ble_eq_true rfl, Nat.le_of_ble_eq_true rfl⟩ ⟨Nat.zero_le _, Nat.zero_le _⟩ hF (fun x8 σ H locs hF hw => ?_)
      refine pI_Md_treeSize X hw lk_Md_222 d_Md_resolve_70 hF (fun σ H locs hF hw => ?_)
      refine lv_aload_n hx hb d_Md_resolve_73 rfl (lv_at hl 1 rfl) ?_
      refine lv_iconst (v := 0) hx hb d_Md_resolve_74 (by decide) ?_
      refine pI_Md_deepest X hw lk_Md_231 d_Md_resolve_75 hF (fun σ H locs hF hw => ?_)
      refine lv_iconst (v := 0) hx hb d_Md_resolve_78 (by decide) ?_
      refine lv_istore_n (lv' := [(3, .int 0), (2, .int x3), (0, .ref (h 0)), (1, .int v1)]) hx hb d_Md_resolve_79 rfl hl (by decide) rfl (fun ls hl => ?_)
      exact h80 fx_fuel 0 _ _ _ _ hF hw (lv_sub hl [2, 0] rfl)
    · have hF := fx_it hc hF
      refine lv_aload_n hx hb d_Md_resolve_48 rfl (lv_at hl 1 rfl) ?_
      refine lv_iconst (v := 0) hx hb d_Md_resolve_49 (by decide) ?_
      refine pI_Md_treeSize X hw lk_Md_222 d_Md_resolve_50 hF (fun σ H locs hF hw => ?_)
      refine lv_iconst (v := (-1)) hx hb d_Md_resolve_53 (by decide) ?_
      exact hend _ _ _ _ _ _ d_Md_resolve_54 hF hw
  · have hF := fx_it hc hF
    refine lv_iconst (v := 0) hx hb d_Md_resolve_12 (by decide) ?_
    exact hend _ _ _ _ _ _ d_Md_resolve_13 hF hw
section
variable {p : Program} {l : Launch} {e : Env} {R : Room} {s : State} {m : MethodId} {args : Array Value} {below : List Frame} {meth : Method} {c : Code} {H : Heap} {locs : List Loc} {cells slots : Nat} {Q : State → Prop}
variable {cc : ByteArray} {pc nL ix : Nat} {ls : Array Slot} {rest : List Value} {own : String} {D : va_G} {A : Nat → Prop} {h : Nat → Nat} {cA : Nat → ClassId} {σ : fx_S} {β : Type} {res : β × fx_S}
theorem k_Md_resolve {v1 : Int32} (X : fx_X p m c cc nL s args own D fx_cl (fx_tys cA) fx_g fx_G A) (hw : fx_B D fx_cl (rf_ws h cA) A s.heap σ H locs) (lk : Cond.methodLink own ix y_Md_resolve ∈ fx_g) (hdg : decode cc pc = .ok (.invokevirtual ix, 3)) (hsize : ls.size = nL) (hW : 2 * (F0 m pc ls (.int v1 :: .ref (h 0) :: rest)).monitorRoom + (rest.map fun v => v.category).sum ≤ 8) (hR : 5 + 1 ≤ R.frames ∧ 8 + (4 + 11) + 128 ≤ R.locals) (hf : cells ≤ R.cells ∧ slots ≤ R.slots) {k : Int32 → fx_M β} (hF : fx_bnd (F_Md_resolve v1) k σ = some res) (kk : ∀ (r : Int32) (σ' : fx_S) (H' : Heap) (locs' : List Loc), k r σ' = some res → fx_B D fx_cl (rf_ws h cA) A s.heap σ' H' locs' → W p l e R s m args below meth c H' locs' cells slots Q (F0 m (pc + 3) ls (.int r :: rest))) : W p l e R s m args below meth c H locs cells slots Q (F0 m pc ls (.int v1 :: .ref (h 0) :: rest)) :=
  fx_call_i X hw (c_Md_resolve l D h cA v1) (fx_cwV X lk hg_Md_resolve fx_gok (rm := { frames := 5, cells := 0, slots := 0, locals := 128 }) rfl rfl (by decide +kernel) hR) (va_recv X.2.1 hw.1 (ci := 8) (q0 := 0) rfl rfl) (n := 1) rfl hdg hsize rfl hW hf hF kk
end
set_option maxHeartbeats 4000000 in
set_option maxRecDepth 100000 in
theorem c_Md_clash (l : Launch) (D : va_G) (h : Nat → Nat) (cA : Nat → ClassId) (v1 : Int32) : fx_Mi l y_Md_clash b_Md_clash 2 (some .int) { frames := 1, cells := 0, slots := 0, locals := 22 } D fx_cl (fx_tys cA) fx_g fx_G (rf_ws h cA) [.ref (h 0), .int v1] (F_Md_clash v1) := by
  refine fx_start_i fx_G_ok (by decide) (Nat.le_of_ble_eq_true rfl) ?_
  intro p e s m args below meth c A ls σ res Q hF X hw hl hend
  have hx := X.1.1
  have hb := X.1.2.1
  have hl : lv_has ls 2 [(0, .ref (h 0)), (1, .int v1)] := hl
  unfold F_Md_clash at hF
  have h15 : ∀ (v1 : Int32) (t0 : Int32) (σ : fx_S) (H : Heap) (locs : List Loc) (ls : Array Slot), F_Md_clash_J15 v1 t0 σ = some res → fx_B D fx_cl (rf_ws h cA) A s.heap σ H locs → lv_has ls 2 [(0, .ref (h 0)), (1, .int v1)] → W p l e { frames := 1, cells := 0, slots := 0, locals := 22 } s m args below meth c H locs 0 0 Q (F0 m 15 ls [.int t0, .ref (h 0)]) := by
    intro v1 t0 σ H locs ls hF hw hl
    unfold F_Md_clash_J15 at hF
    refine k_Md_isGood X hw lk_Md_124 d_Md_clash_15 hl.1 (lv_room (Nat.le_of_ble_eq_true rfl)) ⟨Nat.le_of_ble_eq_true rfl, Nat.le_of_ble_eq_true rfl⟩ ⟨Nat.zero_le _, Nat.zero_le _⟩ hF (fun x2 σ H locs hF hw => ?_)
    refine lv_if_ne (tgt := 23) hx hb d_Md_clash_18 (by decide) (fun hc => ?_) (fun hc => ?_)
    · have hF := fx_if hc hF
      refine lv_iload_n hx hb d_Md_clash_23 rfl (lv_at hl 1 rfl) ?_
      refine lv_if_ne (tgt := 34) hx hb d_Md_clash_24 (by decide) (fun hc => ?_) (fun hc => ?_)
      · have hF := fx_if hc hF
        refine lv_iload_n hx hb d_Md_clash_34 rfl (lv_at hl 1 rfl) ?_
        refine lv_iconst (v := 1) hx hb d_Md_clash_35 (by decide) ?_
        refine lv_icmp_ne (tgt := 46) hx hb d_Md_clash_36 (by decide) (fun hc => ?_) (fun hc => ?_)
        · have hF := fx_if hc hF
          refine lv_aload_n hx hb d_Md_clash_46 rfl (lv_at hl 0 rfl) ?_
          refine gI_Md_clashSecond X hw lk_Md_60 d_Md_clash_47 hF (fun x3 hF => ?_)
          exact hend _ _ _ _ _ _ d_Md_clash_50 hF hw
        · have hF := fx_it hc hF
          refine lv_aload_n hx hb d_Md_clash_39 rfl (lv_at hl 0 rfl) ?_
          refine gI_Md_clashFirst X hw lk_Md_57 d_Md_clash_40 hF (fun x4 hF => ?_)
          refine lv_goto (tgt := 50) hx hb d_Md_clash_43 (by decide) ?_
          exact hend _ _ _ _ _ _ d_Md_clash_50 hF hw
      · have hF := fx_it hc hF
        refine lv_aload_n hx hb d_Md_clash_27 rfl (lv_at hl 0 rfl) ?_
        refine gI_Md_clashKind X hw lk_Md_53 d_Md_clash_28 hF (fun x5 hF => ?_)
        refine lv_goto (tgt := 50) hx hb d_Md_clash_31 (by decide) ?_
        exact hend _ _ _ _ _ _ d_Md_clash_50 hF hw
    · have hF := fx_it hc hF
      refine lv_iconst (v := 0) hx hb d_Md_clash_21 (by decide) ?_
      exact hend _ _ _ _ _ _ d_Md_clash_22 hF hw
  refine lv_aload_n hx hb d_Md_clash_0 rfl (lv_at hl 0 rfl) ?_
  refine lv_iload_n hx hb d_Md_clash_1 rfl (lv_at hl 1 rfl) ?_
  refine lv_iconst (v := 0) hx hb d_Md_clash_2 (by decide) ?_
  refine lv_iconst (v := 2) hx hb d_Md_clash_3 (by decide) ?_
  refine k_Md_isIn X hw lk_Md_116 d_Md_clash_4 hl.1 (lv_room (Nat.le_of_ble_eq_true rfl)) ⟨Nat.le_of_ble_eq_true rfl, Nat.le_of_ble_eq_true rfl⟩ ⟨Nat.zero_le _, Nat.zero_le _⟩ hF (fun x1 σ H locs hF hw => ?_)
  refine lv_if_eq (tgt := 14) hx hb d_Md_clash_7 (by decide) (fun hc => ?_) (fun hc => ?_)
  · have hF := fx_it hc hF
    refine lv_iconst (v := 1) hx hb d_Md_clash_14 (by decide) ?_
    exact h15 v1 1 _ _ _ _ hF hw (lv_sub hl [0, 1] rfl)
  · have hF := fx_if hc hF
    refine lv_iconst (v := 0) hx hb d_Md_clash_10 (by decide) ?_
    refine lv_goto (tgt := 15) hx hb d_Md_clash_11 (by decide) ?_
    exact h15 v1 0 _ _ _ _ hF hw (lv_sub hl [0, 1] rfl)
section
variable {p : Program} {l : Launch} {e : Env} {R : Room} {s : State} {m : MethodId} {args : Array Value} {below : List Frame} {meth : Method} {c : Code} {H : Heap} {locs : List Loc} {cells slots : Nat} {Q : State → Prop}
variable {cc : ByteArray} {pc nL ix : Nat} {ls : Array Slot} {rest : List Value} {own : String} {D : va_G} {A : Nat → Prop} {h : Nat → Nat} {cA : Nat → ClassId} {σ : fx_S} {β : Type} {res : β × fx_S}
theorem k_Md_clash {v1 : Int32} (X : fx_X p m c cc nL s args own D fx_cl (fx_tys cA) fx_g fx_G A) (hw : fx_B D fx_cl (rf_ws h cA) A s.heap σ H locs) (lk : Cond.methodLink own ix y_Md_clash ∈ fx_g) (hdg : decode cc pc = .ok (.invokevirtual ix, 3)) (hsize : ls.size = nL) (hW : 2 * (F0 m pc ls (.int v1 :: .ref (h 0) :: rest)).monitorRoom + (rest.map fun v => v.category).sum ≤ 8) (hR : 1 + 1 ≤ R.frames ∧ 8 + (2 + 11) + 22 ≤ R.locals) (hf : cells ≤ R.cells ∧ slots ≤ R.slots) {k : Int32 → fx_M β} (hF : fx_bnd (F_Md_clash v1) k σ = some res) (kk : ∀ (r : Int32) (σ' : fx_S) (H' : Heap) (locs' : List Loc), k r σ' = some res → fx_B D fx_cl (rf_ws h cA) A s.heap σ' H' locs' → W p l e R s m args below meth c H' locs' cells slots Q (F0 m (pc + 3) ls (.int r :: rest))) : W p l e R s m args below meth c H locs cells slots Q (F0 m pc ls (.int v1 :: .ref (h 0) :: rest)) :=
  fx_call_i X hw (c_Md_clash l D h cA v1) (fx_cwV X lk hg_Md_clash fx_gok (rm := { frames := 1, cells := 0, slots := 0, locals := 22 }) rfl rfl (by decide +kernel) hR) (va_recv X.2.1 hw.1 (ci := 8) (q0 := 0) rfl rfl) (n := 1) rfl hdg hsize rfl hW hf hF kk
end
set_option maxHeartbeats 4000000 in
set_option maxRecDepth 100000 in
theorem c_Md_node (l : Launch) (D : va_G) (h : Nat → Nat) (cA : Nat → ClassId) (v1 : Int32) (v2 : Int32) : fx_Mi l y_Md_node b_Md_node 3 (some .int) { frames := 1, cells := 0, slots := 0, locals := 22 } D fx_cl (fx_tys cA) fx_g fx_G (rf_ws h cA) [.ref (h 0), .int v1, .int v2] (F_Md_node v1 v2) := by
  refine fx_start_i fx_G_ok (by decide) (Nat.le_of_ble_eq_true rfl) ?_
  intro p e s m args below meth c A ls σ res Q hF X hw hl hend
  have hx := X.1.1
  have hb := X.1.2.1
  have hl : lv_has ls 3 [(0, .ref (h 0)), (1, .int v1), (2, .int v2)] := hl
  unfold F_Md_node at hF
  have h33 : ∀ (v1 : Int32) (v2 : Int32) (t0 : Int32) (σ : fx_S) (H : Heap) (locs : List Loc) (ls : Array Slot), F_Md_node_J33 v1 v2 t0 σ = some res → fx_B D fx_cl (rf_ws h cA) A s.heap σ H locs → lv_has ls 3 [(0, .ref (h 0)), (1, .int v1), (2, .int v2)] → W p l e { frames := 1, cells := 0, slots := 0, locals := 22 } s m args below meth c H locs 0 0 Q (F0 m 33 ls [.int t0, .ref (h 0)]) := by
    intro v1 v2 t0 σ H locs ls hF hw hl
    unfold F_Md_node_J33 at hF
    refine k_Md_isGood X hw lk_Md_124 d_Md_node_33 hl.1 (lv_room (Nat.le_of_ble_eq_true rfl)) ⟨Nat.le_of_ble_eq_true rfl, Nat.le_of_ble_eq_true rfl⟩ ⟨Nat.zero_le _, Nat.zero_le _⟩ hF (fun x4 σ H locs hF hw => ?_)
    refine lv_if_ne (tgt := 41) hx hb d_Md_node_36 (by decide) (fun hc => ?_) (fun hc => ?_)
    · have hF := fx_if hc hF
      refine lv_iload_n hx hb d_Md_node_41 rfl (lv_at hl 2 rfl) ?_
      by_cases hc0 : v2 = 0
      · have hF := fx_it hc0 hF
        refine lv_tableIn (off := 30) (tgt := 72) hx hb d_Md_node_42 (by rw [hc0]; decide) (by rw [hc0]; decide) (by rw [hc0]; rfl) (by decide) ?_
        refine lv_aload_n hx hb d_Md_node_72 rfl (lv_at hl 0 rfl) ?_
        refine gR_Md_nodeKind X hw lk_Md_32 d_Md_node_73 ?_
        refine lv_iload_n hx hb d_Md_node_76 rfl (lv_at hl 1 rfl) ?_
        refine lA_Md_nodeKind X hw d_Md_node_77 hF (fun x5 hF => ?_)
        exact hend _ _ _ _ _ _ d_Md_node_78 hF hw
      have hF := fx_if hc0 hF
      by_cases hc1 : v2 = 1
      · have hF := fx_it hc1 hF
        refine lv_tableIn (off := 37) (tgt := 79) hx hb d_Md_node_42 (by rw [hc1]; decide) (by rw [hc1]; decide) (by rw [hc1]; rfl) (by decide) ?_
        refine lv_aload_n hx hb d_Md_node_79 rfl (lv_at hl 0 rfl) ?_
        refine gR_Md_nodeOperator X hw lk_Md_35 d_Md_node_80 ?_
        refine lv_iload_n hx hb d_Md_node_83 rfl (lv_at hl 1 rfl) ?_
        refine lA_Md_nodeOperator X hw d_Md_node_84 hF (fun x6 hF => ?_)
        exact hend _ _ _ _ _ _ d_Md_node_85 hF hw
      have hF := fx_if hc1 hF
      by_cases hc2 : v2 = 2
      · have hF := fx_it hc2 hF
        refine lv_tableIn (off := 44) (tgt := 86) hx hb d_Md_node_42 (by rw [hc2]; decide) (by rw [hc2]; decide) (by rw [hc2]; rfl) (by decide) ?_
        refine lv_aload_n hx hb d_Md_node_86 rfl (lv_at hl 0 rfl) ?_
        refine gR_Md_nodeFirst X hw lk_Md_38 d_Md_node_87 ?_
        refine lv_iload_n hx hb d_Md_node_90 rfl (lv_at hl 1 rfl) ?_
        refine lA_Md_nodeFirst X hw d_Md_node_91 hF (fun x7 hF => ?_)
        exact hend _ _ _ _ _ _ d_Md_node_92 hF hw
      have hF := fx_if hc2 hF
      by_cases hc3 : v2 = 3
      · have hF := fx_it hc3 hF
        refine lv_tableIn (off := 51) (tgt := 93) hx hb d_Md_node_42 (by rw [hc3]; decide) (by rw [hc3]; decide) (by rw [hc3]; rfl) (by decide) ?_
        refine lv_aload_n hx hb d_Md_node_93 rfl (lv_at hl 0 rfl) ?_
        refine gR_Md_nodeSecond X hw lk_Md_41 d_Md_node_94 ?_
        refine lv_iload_n hx hb d_Md_node_97 rfl (lv_at hl 1 rfl) ?_
        refine lA_Md_nodeSecond X hw d_Md_node_98 hF (fun x8 hF => ?_)
        exact hend _ _ _ _ _ _ d_Md_node_99 hF hw
      have hF := fx_if hc3 hF
      refine lv_tableOut (tgt := 100) hx hb d_Md_node_42 (fx_sw0_3 hc0 hc1 hc2 hc3) (by decide) ?_
      refine lv_aload_n hx hb d_Md_node_100 rfl (lv_at hl 0 rfl) ?_
      refine gR_Md_nodePlace X hw lk_Md_44 d_Md_node_101 ?_
      refine lv_iload_n hx hb d_Md_node_104 rfl (lv_at hl 1 rfl) ?_
      refine lA_Md_nodePlace X hw d_Md_node_105 hF (fun x9 hF => ?_)
      exact hend _ _ _ _ _ _ d_Md_node_106 hF hw
    · have hF := fx_it hc hF
      refine lv_iconst (v := 0) hx hb d_Md_node_39 (by decide) ?_
      exact hend _ _ _ _ _ _ d_Md_node_40 hF hw
  refine lv_aload_n hx hb d_Md_node_0 rfl (lv_at hl 0 rfl) ?_
  refine lv_iload_n hx hb d_Md_node_1 rfl (lv_at hl 1 rfl) ?_
  refine lv_iconst (v := 0) hx hb d_Md_node_2 (by decide) ?_
  refine lv_aload_n hx hb d_Md_node_3 rfl (lv_at hl 0 rfl) ?_
  refine gI_Md_treeSize X hw lk_Md_222 d_Md_node_4 hF (fun x1 hF => ?_)
  refine lv_iconst (v := 1) hx hb d_Md_node_7 (by decide) ?_
  refine lv_isub hx hb d_Md_node_8 ?_
  refine k_Md_isIn X hw lk_Md_116 d_Md_node_9 hl.1 (lv_room (Nat.le_of_ble_eq_true rfl)) ⟨Nat.le_of_ble_eq_true rfl, Nat.le_of_ble_eq_true rfl⟩ ⟨Nat.zero_le _, Nat.zero_le _⟩ hF (fun x2 σ H locs hF hw => ?_)
  refine lv_if_ne (tgt := 19) hx hb d_Md_node_12 (by decide) (fun hc => ?_) (fun hc => ?_)
  · have hF := fx_if hc hF
    refine lv_iload_n hx hb d_Md_node_19 rfl (lv_at hl 2 rfl) ?_
    refine lv_iconst (v := 0) hx hb d_Md_node_20 (by decide) ?_
    refine lv_iconst (v := 4) hx hb d_Md_node_21 (by decide) ?_
    refine k_Md_isIn X hw lk_Md_116 d_Md_node_22 hl.1 (lv_room (Nat.le_of_ble_eq_true rfl)) ⟨Nat.le_of_ble_eq_true rfl, Nat.le_of_ble_eq_true rfl⟩ ⟨Nat.zero_le _, Nat.zero_le _⟩ hF (fun x3 σ H locs hF hw => ?_)
    refine lv_if_ne (tgt := 32) hx hb d_Md_node_25 (by decide) (fun hc => ?_) (fun hc => ?_)
    · have hF := fx_if hc hF
      refine lv_iconst (v := 0) hx hb d_Md_node_32 (by decide) ?_
      exact h33 v1 v2 0 _ _ _ _ hF hw (lv_sub hl [0, 1, 2] rfl)
    · have hF := fx_it hc hF
      refine lv_iconst (v := 2) hx hb d_Md_node_28 (by decide) ?_
      refine lv_goto (tgt := 33) hx hb d_Md_node_29 (by decide) ?_
      exact h33 v1 v2 2 _ _ _ _ hF hw (lv_sub hl [0, 1, 2] rfl)
  · have hF := fx_it hc hF
    refine lv_iconst (v := 1) hx hb d_Md_node_15 (by decide) ?_
    refine lv_goto (tgt := 33) hx hb d_Md_node_16 (by decide) ?_
    exact h33 v1 v2 1 _ _ _ _ hF hw (lv_sub hl [0, 1, 2] rfl)
section
variable {p : Program} {l : Launch} {e : Env} {R : Room} {s : State} {m : MethodId} {args : Array Value} {below : List Frame} {meth : Method} {c : Code} {H : Heap} {locs : List Loc} {cells slots : Nat} {Q : State → Prop}
variable {cc : ByteArray} {pc nL ix : Nat} {ls : Array Slot} {rest : List Value} {own : String} {D : va_G} {A : Nat → Prop} {h : Nat → Nat} {cA : Nat → ClassId} {σ : fx_S} {β : Type} {res : β × fx_S}
theorem k_Md_node {v1 : Int32} {v2 : Int32} (X : fx_X p m c cc nL s args own D fx_cl (fx_tys cA) fx_g fx_G A) (hw : fx_B D fx_cl (rf_ws h cA) A s.heap σ H locs) (lk : Cond.methodLink own ix y_Md_node ∈ fx_g) (hdg : decode cc pc = .ok (.invokevirtual ix, 3)) (hsize : ls.size = nL) (hW : 2 * (F0 m pc ls (.int v2 :: .int v1 :: .ref (h 0) :: rest)).monitorRoom + (rest.map fun v => v.category).sum ≤ 8) (hR : 1 + 1 ≤ R.frames ∧ 8 + (3 + 11) + 22 ≤ R.locals) (hf : cells ≤ R.cells ∧ slots ≤ R.slots) {k : Int32 → fx_M β} (hF : fx_bnd (F_Md_node v1 v2) k σ = some res) (kk : ∀ (r : Int32) (σ' : fx_S) (H' : Heap) (locs' : List Loc), k r σ' = some res → fx_B D fx_cl (rf_ws h cA) A s.heap σ' H' locs' → W p l e R s m args below meth c H' locs' cells slots Q (F0 m (pc + 3) ls (.int r :: rest))) : W p l e R s m args below meth c H locs cells slots Q (F0 m pc ls (.int v2 :: .int v1 :: .ref (h 0) :: rest)) :=
  fx_call_i X hw (c_Md_node l D h cA v1 v2) (fx_cwV X lk hg_Md_node fx_gok (rm := { frames := 1, cells := 0, slots := 0, locals := 22 }) rfl rfl (by decide +kernel) hR) (va_recv X.2.1 hw.1 (ci := 8) (q0 := 0) rfl rfl) (n := 2) rfl hdg hsize rfl hW hf hF kk
end
set_option maxHeartbeats 4000000 in
set_option maxRecDepth 100000 in
theorem c_Md_number (l : Launch) (D : va_G) (h : Nat → Nat) (cA : Nat → ClassId) (v1 : Int32) : fx_Ml l y_Md_number b_Md_number 3 (some .long) { frames := 1, cells := 0, slots := 0, locals := 22 } D fx_cl (fx_tys cA) fx_g fx_G (rf_ws h cA) [.ref (h 0), .int v1] (F_Md_number v1) := by
  refine fx_start_l fx_G_ok (by decide) (Nat.le_of_ble_eq_true rfl) ?_
  intro p e s m args below meth c A ls σ res Q hF X hw hl hend
  have hx := X.1.1
  have hb := X.1.2.1
  have hl : lv_has ls 3 [(0, .ref (h 0)), (1, .int v1)] := hl
  unfold F_Md_number at hF
  have h39 : ∀ (v1 : Int32) (t0 : Int32) (σ : fx_S) (H : Heap) (locs : List Loc) (ls : Array Slot), F_Md_number_J39 v1 t0 σ = some res → fx_B D fx_cl (rf_ws h cA) A s.heap σ H locs → lv_has ls 3 [(0, .ref (h 0)), (1, .int v1)] → W p l e { frames := 1, cells := 0, slots := 0, locals := 22 } s m args below meth c H locs 0 0 Q (F0 m 39 ls [.int t0, .ref (h 0)]) := by
    intro v1 t0 σ H locs ls hF hw hl
    unfold F_Md_number_J39 at hF
    refine k_Md_isGood X hw lk_Md_124 d_Md_number_39 hl.1 (lv_room (Nat.le_of_ble_eq_true rfl)) ⟨Nat.le_of_ble_eq_true rfl, Nat.le_of_ble_eq_true rfl⟩ ⟨Nat.zero_le _, Nat.zero_le _⟩ hF (fun x3 σ H locs hF hw => ?_)
    refine lv_if_eq (tgt := 54) hx hb d_Md_number_42 (by decide) (fun hc => ?_) (fun hc => ?_)
    · have hF := fx_it hc hF
      refine lv_lconst (v := 0) hx hb d_Md_number_54 (by decide) ?_
      exact hend _ _ _ _ _ _ d_Md_number_55 hF hw
    · have hF := fx_if hc hF
      refine lv_aload_n hx hb d_Md_number_45 rfl (lv_at hl 0 rfl) ?_
      refine gR_Md_nodeNumber X hw lk_Md_50 d_Md_number_46 ?_
      refine lv_iload_n hx hb d_Md_number_49 rfl (lv_at hl 1 rfl) ?_
      refine lA_Md_nodeNumber X hw d_Md_number_50 hF (fun x4 hF => ?_)
      refine lv_goto (tgt := 55) hx hb d_Md_number_51 (by decide) ?_
      exact hend _ _ _ _ _ _ d_Md_number_55 hF hw
  have h28 : ∀ (v1 : Int32) (t0 : Int32) (σ : fx_S) (H : Heap) (locs : List Loc) (ls : Array Slot), F_Md_number_J28 v1 t0 σ = some res → fx_B D fx_cl (rf_ws h cA) A s.heap σ H locs → lv_has ls 3 [(0, .ref (h 0)), (1, .int v1)] → W p l e { frames := 1, cells := 0, slots := 0, locals := 22 } s m args below meth c H locs 0 0 Q (F0 m 28 ls [.int t0]) := by
    intro v1 t0 σ H locs ls hF hw hl
    unfold F_Md_number_J28 at hF
    refine lv_istore_n (lv' := [(2, .int t0), (0, .ref (h 0)), (1, .int v1)]) hx hb d_Md_number_28 rfl hl (by decide) rfl (fun ls hl => ?_)
    refine lv_aload_n hx hb d_Md_number_29 rfl (lv_at hl 1 rfl) ?_
    refine lv_iload_n hx hb d_Md_number_30 rfl (lv_at hl 0 rfl) ?_
    refine lv_if_eq (tgt := 38) hx hb d_Md_number_31 (by decide) (fun hc => ?_) (fun hc => ?_)
    · have hF := fx_it hc hF
      refine lv_iconst (v := 1) hx hb d_Md_number_38 (by decide) ?_
      exact h39 v1 1 _ _ _ _ hF hw (lv_sub hl [1, 2] rfl)
    · have hF := fx_if hc hF
      refine lv_iconst (v := 0) hx hb d_Md_number_34 (by decide) ?_
      refine lv_goto (tgt := 39) hx hb d_Md_number_35 (by decide) ?_
      exact h39 v1 0 _ _ _ _ hF hw (lv_sub hl [1, 2] rfl)
  have h27 : ∀ (v1 : Int32) (σ : fx_S) (H : Heap) (locs : List Loc) (ls : Array Slot), F_Md_number_J27 v1 σ = some res → fx_B D fx_cl (rf_ws h cA) A s.heap σ H locs → lv_has ls 3 [(0, .ref (h 0)), (1, .int v1)] → W p l e { frames := 1, cells := 0, slots := 0, locals := 22 } s m args below meth c H locs 0 0 Q (F0 m 27 ls []) := by
    intro v1 σ H locs ls hF hw hl
    unfold F_Md_number_J27 at hF
    refine lv_iconst (v := 0) hx hb d_Md_number_27 (by decide) ?_
    exact h28 v1 0 _ _ _ _ hF hw (lv_sub hl [0, 1] rfl)
  refine lv_iload_n hx hb d_Md_number_0 rfl (lv_at hl 1 rfl) ?_
  refine lv_iconst (v := 0) hx hb d_Md_number_1 (by decide) ?_
  refine lv_aload_n hx hb d_Md_number_2 rfl (lv_at hl 0 rfl) ?_
  refine gI_Md_treeSize X hw lk_Md_222 d_Md_number_3 hF (fun x1 hF => ?_)
  refine lv_iconst (v := 1) hx hb d_Md_number_6 (by decide) ?_
  refine lv_isub hx hb d_Md_number_7 ?_
  refine k_Md_isIn X hw lk_Md_116 d_Md_number_8 hl.1 (lv_room (Nat.le_of_ble_eq_true rfl)) ⟨Nat.le_of_ble_eq_true rfl, Nat.le_of_ble_eq_true rfl⟩ ⟨Nat.zero_le _, Nat.zero_le _⟩ hF (fun x2 σ H locs hF hw => ?_)
  refine lv_if_eq (tgt := 27) hx hb d_Md_number_11 (by decide) (fun hc => ?_) (fun hc => ?_)
  · have hF := fx_it hc hF
    exact h27 v1 _ _ _ _ hF hw (lv_sub hl [0, 1] rfl)
  · have hF := fx_if hc hF
    refine lv_aload_n hx hb d_Md_number_14 rfl (lv_at hl 0 rfl) ?_
    refine gR_Md_nodeKind X hw lk_Md_32 d_Md_number_15 ?_
    refine lv_iload_n hx hb d_Md_number_18 rfl (lv_at hl 1 rfl) ?_
    refine lA_Md_nodeKind X hw d_Md_number_19 hF (fun x5 hF => ?_)
    refine lv_if_ne (tgt := 27) hx hb d_Md_number_20 (by decide) (fun hc => ?_) (fun hc => ?_)
    · have hF := fx_if hc hF
      exact h27 v1 _ _ _ _ hF hw (lv_sub hl [0, 1] rfl)
    · have hF := fx_it hc hF
      refine lv_iconst (v := 1) hx hb d_Md_number_23 (by decide) ?_
      refine lv_goto (tgt := 28) hx hb d_Md_number_24 (by decide) ?_
      exact h28 v1 1 _ _ _ _ hF hw (lv_sub hl [0, 1] rfl)
section
variable {p : Program} {l : Launch} {e : Env} {R : Room} {s : State} {m : MethodId} {args : Array Value} {below : List Frame} {meth : Method} {c : Code} {H : Heap} {locs : List Loc} {cells slots : Nat} {Q : State → Prop}
variable {cc : ByteArray} {pc nL ix : Nat} {ls : Array Slot} {rest : List Value} {own : String} {D : va_G} {A : Nat → Prop} {h : Nat → Nat} {cA : Nat → ClassId} {σ : fx_S} {β : Type} {res : β × fx_S}
theorem k_Md_number {v1 : Int32} (X : fx_X p m c cc nL s args own D fx_cl (fx_tys cA) fx_g fx_G A) (hw : fx_B D fx_cl (rf_ws h cA) A s.heap σ H locs) (lk : Cond.methodLink own ix y_Md_number ∈ fx_g) (hdg : decode cc pc = .ok (.invokevirtual ix, 3)) (hsize : ls.size = nL) (hW : 2 * (F0 m pc ls (.int v1 :: .ref (h 0) :: rest)).monitorRoom + (rest.map fun v => v.category).sum ≤ 8) (hR : 1 + 1 ≤ R.frames ∧ 8 + (3 + 11) + 22 ≤ R.locals) (hf : cells ≤ R.cells ∧ slots ≤ R.slots) {k : Int64 → fx_M β} (hF : fx_bnd (F_Md_number v1) k σ = some res) (kk : ∀ (r : Int64) (σ' : fx_S) (H' : Heap) (locs' : List Loc), k r σ' = some res → fx_B D fx_cl (rf_ws h cA) A s.heap σ' H' locs' → W p l e R s m args below meth c H' locs' cells slots Q (F0 m (pc + 3) ls (.long r :: rest))) : W p l e R s m args below meth c H locs cells slots Q (F0 m pc ls (.int v1 :: .ref (h 0) :: rest)) :=
  fx_call_l X hw (c_Md_number l D h cA v1) (fx_cwV X lk hg_Md_number fx_gok (rm := { frames := 1, cells := 0, slots := 0, locals := 22 }) rfl rfl (by decide +kernel) hR) (va_recv X.2.1 hw.1 (ci := 8) (q0 := 0) rfl rfl) (n := 1) rfl hdg hsize rfl hW hf hF kk
end
set_option maxHeartbeats 4000000 in
set_option maxRecDepth 100000 in
theorem c_Md_due (l : Launch) (D : va_G) (h : Nat → Nat) (cA : Nat → ClassId) (v1 : Int32) (v2 : Int32) : fx_Mv l y_Md_due b_Md_due 3 none { frames := 0, cells := 0, slots := 0, locals := 0 } D fx_cl (fx_tys cA) fx_g fx_G (rf_ws h cA) [.ref (h 0), .int v1, .int v2] (F_Md_due v1 v2) := by
  refine fx_start_v fx_G_ok (by decide) (Nat.le_of_ble_eq_true rfl) ?_
  intro p e s m args below meth c A ls σ res Q hF X hw hl hend
  have hx := X.1.1
  have hb := X.1.2.1
  have hl : lv_has ls 3 [(0, .ref (h 0)), (1, .int v1), (2, .int v2)] := hl
  unfold F_Md_due at hF
  refine lv_aload_n hx hb d_Md_due_0 rfl (lv_at hl 0 rfl) ?_
  refine gR_Md_dueKind X hw lk_Md_100 d_Md_due_1 ?_
  refine lv_aload_n hx hb d_Md_due_4 rfl (lv_at hl 0 rfl) ?_
  refine gI_Md_dues X hw lk_Md_237 d_Md_due_5 hF (fun x1 hF => ?_)
  refine lv_iload_n hx hb d_Md_due_8 rfl (lv_at hl 1 rfl) ?_
  refine sA_Md_dueKind X hw d_Md_due_9 hF (fun σ H locs hF hw => ?_)
  refine lv_aload_n hx hb d_Md_due_10 rfl (lv_at hl 0 rfl) ?_
  refine gR_Md_dueNode X hw lk_Md_103 d_Md_due_11 ?_
  refine lv_aload_n hx hb d_Md_due_14 rfl (lv_at hl 0 rfl) ?_
  refine gI_Md_dues X hw lk_Md_237 d_Md_due_15 hF (fun x2 hF => ?_)
  refine lv_iload_n hx hb d_Md_due_18 rfl (lv_at hl 2 rfl) ?_
  refine sA_Md_dueNode X hw d_Md_due_19 hF (fun σ H locs hF hw => ?_)
  refine lv_aload_n hx hb d_Md_due_20 rfl (lv_at hl 0 rfl) ?_
  refine lv_dup hx hb d_Md_due_21 rfl ?_
  refine gI_Md_dues X hw lk_Md_237 d_Md_due_22 hF (fun x3 hF => ?_)
  refine lv_iconst (v := 1) hx hb d_Md_due_25 (by decide) ?_
  refine lv_iadd hx hb d_Md_due_26 ?_
  refine pI_Md_dues X hw lk_Md_237 d_Md_due_27 hF (fun σ H locs hF hw => ?_)
  exact hend _ _ _ _ _ d_Md_due_30 hF hw
section
variable {p : Program} {l : Launch} {e : Env} {R : Room} {s : State} {m : MethodId} {args : Array Value} {below : List Frame} {meth : Method} {c : Code} {H : Heap} {locs : List Loc} {cells slots : Nat} {Q : State → Prop}
variable {cc : ByteArray} {pc nL ix : Nat} {ls : Array Slot} {rest : List Value} {own : String} {D : va_G} {A : Nat → Prop} {h : Nat → Nat} {cA : Nat → ClassId} {σ : fx_S} {β : Type} {res : β × fx_S}
theorem k_Md_due {v1 : Int32} {v2 : Int32} (X : fx_X p m c cc nL s args own D fx_cl (fx_tys cA) fx_g fx_G A) (hw : fx_B D fx_cl (rf_ws h cA) A s.heap σ H locs) (lk : Cond.methodLink own ix y_Md_due ∈ fx_g) (hdg : decode cc pc = .ok (.invokevirtual ix, 3)) (hsize : ls.size = nL) (hW : 2 * (F0 m pc ls (.int v2 :: .int v1 :: .ref (h 0) :: rest)).monitorRoom + (rest.map fun v => v.category).sum ≤ 8) (hR : 0 + 1 ≤ R.frames ∧ 8 + (3 + 11) + 0 ≤ R.locals) (hf : cells ≤ R.cells ∧ slots ≤ R.slots) {k : Unit → fx_M β} (hF : fx_bnd (F_Md_due v1 v2) k σ = some res) (kk : ∀ (σ' : fx_S) (H' : Heap) (locs' : List Loc), k () σ' = some res → fx_B D fx_cl (rf_ws h cA) A s.heap σ' H' locs' → W p l e R s m args below meth c H' locs' cells slots Q (F0 m (pc + 3) ls rest)) : W p l e R s m args below meth c H locs cells slots Q (F0 m pc ls (.int v2 :: .int v1 :: .ref (h 0) :: rest)) :=
  fx_call_v X hw (c_Md_due l D h cA v1 v2) (fx_cwV X lk hg_Md_due fx_gok (rm := { frames := 0, cells := 0, slots := 0, locals := 0 }) rfl rfl (by decide +kernel) hR) (va_recv X.2.1 hw.1 (ci := 8) (q0 := 0) rfl rfl) (n := 2) rfl hdg hsize rfl hW hf hF kk
end
set_option maxHeartbeats 4000000 in
set_option maxRecDepth 100000 in
theorem c_Md_put (l : Launch) (D : va_G) (h : Nat → Nat) (cA : Nat → ClassId) (v1 : Int32) (v2 : Int32) : fx_Mv l y_Md_put b_Md_put 3 none { frames := 0, cells := 0, slots := 0, locals := 0 } D fx_cl (fx_tys cA) fx_g fx_G (rf_ws h cA) [.ref (h 0), .int v1, .int v2] (F_Md_put v1 v2) := by
  refine fx_start_v fx_G_ok (by decide) (Nat.le_of_ble_eq_true rfl) ?_
  intro p e s m args below meth c A ls σ res Q hF X hw hl hend
  have hx := X.1.1
  have hb := X.1.2.1
  have hl : lv_has ls 3 [(0, .ref (h 0)), (1, .int v1), (2, .int v2)] := hl
  unfold F_Md_put at hF
  have h38 : ∀ (v2 : Int32) (t0 : Int32) (t1 : Int32) (σ : fx_S) (H : Heap) (locs : List Loc) (ls : Array Slot), F_Md_put_J38 v2 t0 t1 σ = some res → fx_B D fx_cl (rf_ws h cA) A s.heap σ H locs → lv_has ls 3 [(0, .ref (h 0)), (2, .int v2)] → W p l e { frames := 0, cells := 0, slots := 0, locals := 0 } s m args below meth c H locs 0 0 Q (F0 m 38 ls [.int t0, .int t1, .ref (h 24)]) := by
    intro v2 t0 t1 σ H locs ls hF hw hl
    unfold F_Md_put_J38 at hF
    refine sA_Md_wroteOperator X hw d_Md_put_38 hF (fun σ H locs hF hw => ?_)
    refine lv_aload_n hx hb d_Md_put_39 rfl (lv_at hl 0 rfl) ?_
    refine gR_Md_wroteNode X hw lk_Md_94 d_Md_put_40 ?_
    refine lv_aload_n hx hb d_Md_put_43 rfl (lv_at hl 0 rfl) ?_
    refine gI_Md_wrote X hw lk_Md_234 d_Md_put_44 hF (fun x4 hF => ?_)
    refine lv_iload_n hx hb d_Md_put_47 rfl (lv_at hl 1 rfl) ?_
    refine sA_Md_wroteNode X hw d_Md_put_48 hF (fun σ H locs hF hw => ?_)
    refine lv_aload_n hx hb d_Md_put_49 rfl (lv_at hl 0 rfl) ?_
    refine gR_Md_wroteNumber X hw lk_Md_97 d_Md_put_50 ?_
    refine lv_aload_n hx hb d_Md_put_53 rfl (lv_at hl 0 rfl) ?_
    refine gI_Md_wrote X hw lk_Md_234 d_Md_put_54 hF (fun x5 hF => ?_)
    refine lv_aload_n hx hb d_Md_put_57 rfl (lv_at hl 0 rfl) ?_
    refine gR_Md_nodeNumber X hw lk_Md_50 d_Md_put_58 ?_
    refine lv_iload_n hx hb d_Md_put_61 rfl (lv_at hl 1 rfl) ?_
    refine lA_Md_nodeNumber X hw d_Md_put_62 hF (fun x6 hF => ?_)
    refine sA_Md_wroteNumber X hw d_Md_put_63 hF (fun σ H locs hF hw => ?_)
    refine lv_aload_n hx hb d_Md_put_64 rfl (lv_at hl 0 rfl) ?_
    refine lv_dup hx hb d_Md_put_65 rfl ?_
    refine gI_Md_wrote X hw lk_Md_234 d_Md_put_66 hF (fun x7 hF => ?_)
    refine lv_iconst (v := 1) hx hb d_Md_put_69 (by decide) ?_
    refine lv_iadd hx hb d_Md_put_70 ?_
    refine pI_Md_wrote X hw lk_Md_234 d_Md_put_71 hF (fun σ H locs hF hw => ?_)
    exact hend _ _ _ _ _ d_Md_put_74 hF hw
  have h28 : ∀ (v2 : Int32) (t0 : Int32) (σ : fx_S) (H : Heap) (locs : List Loc) (ls : Array Slot), F_Md_put_J28 v2 t0 σ = some res → fx_B D fx_cl (rf_ws h cA) A s.heap σ H locs → lv_has ls 3 [(0, .ref (h 0)), (2, .int v2)] → W p l e { frames := 0, cells := 0, slots := 0, locals := 0 } s m args below meth c H locs 0 0 Q (F0 m 28 ls [.int t0, .ref (h 24)]) := by
    intro v2 t0 σ H locs ls hF hw hl
    unfold F_Md_put_J28 at hF
    refine lv_aload_n hx hb d_Md_put_28 rfl (lv_at hl 0 rfl) ?_
    refine gR_Md_nodeOperator X hw lk_Md_35 d_Md_put_29 ?_
    refine lv_iload_n hx hb d_Md_put_32 rfl (lv_at hl 1 rfl) ?_
    refine lA_Md_nodeOperator X hw d_Md_put_33 hF (fun x3 hF => ?_)
    refine lv_goto (tgt := 38) hx hb d_Md_put_34 (by decide) ?_
    exact h38 v2 x3 t0 _ _ _ _ hF hw (lv_sub hl [0, 1] rfl)
  refine lv_aload_n hx hb d_Md_put_0 rfl (lv_at hl 0 rfl) ?_
  refine gR_Md_wroteKind X hw lk_Md_88 d_Md_put_1 ?_
  refine lv_aload_n hx hb d_Md_put_4 rfl (lv_at hl 0 rfl) ?_
  refine gI_Md_wrote X hw lk_Md_234 d_Md_put_5 hF (fun x1 hF => ?_)
  refine lv_iload_n hx hb d_Md_put_8 rfl (lv_at hl 1 rfl) ?_
  refine sA_Md_wroteKind X hw d_Md_put_9 hF (fun σ H locs hF hw => ?_)
  refine lv_aload_n hx hb d_Md_put_10 rfl (lv_at hl 0 rfl) ?_
  refine gR_Md_wroteOperator X hw lk_Md_91 d_Md_put_11 ?_
  refine lv_aload_n hx hb d_Md_put_14 rfl (lv_at hl 0 rfl) ?_
  refine gI_Md_wrote X hw lk_Md_234 d_Md_put_15 hF (fun x2 hF => ?_)
  refine lv_iload_n hx hb d_Md_put_18 rfl (lv_at hl 1 rfl) ?_
  refine lv_iconst (v := 1) hx hb d_Md_put_19 (by decide) ?_
  refine lv_icmp_eq (tgt := 28) hx hb d_Md_put_20 (by decide) (fun hc => ?_) (fun hc => ?_)
  · have hF := fx_it hc hF
    exact h28 v2 x2 _ _ _ _ hF hw (lv_sub hl [0, 2] rfl)
  · have hF := fx_if hc hF
    refine lv_iload_n hx hb d_Md_put_23 rfl (lv_at hl 1 rfl) ?_
    refine lv_iconst (v := 2) hx hb d_Md_put_24 (by decide) ?_
    refine lv_icmp_ne (tgt := 37) hx hb d_Md_put_25 (by decide) (fun hc => ?_) (fun hc => ?_)
    · have hF := fx_if hc hF
      refine lv_iconst (v := (-1)) hx hb d_Md_put_37 (by decide) ?_
      exact h38 v2 (-1) x2 _ _ _ _ hF hw (lv_sub hl [0, 2] rfl)
    · have hF := fx_it hc hF
      exact h28 v2 x2 _ _ _ _ hF hw (lv_sub hl [0, 2] rfl)
section
variable {p : Program} {l : Launch} {e : Env} {R : Room} {s : State} {m : MethodId} {args : Array Value} {below : List Frame} {meth : Method} {c : Code} {H : Heap} {locs : List Loc} {cells slots : Nat} {Q : State → Prop}
variable {cc : ByteArray} {pc nL ix : Nat} {ls : Array Slot} {rest : List Value} {own : String} {D : va_G} {A : Nat → Prop} {h : Nat → Nat} {cA : Nat → ClassId} {σ : fx_S} {β : Type} {res : β × fx_S}
theorem k_Md_put {v1 : Int32} {v2 : Int32} (X : fx_X p m c cc nL s args own D fx_cl (fx_tys cA) fx_g fx_G A) (hw : fx_B D fx_cl (rf_ws h cA) A s.heap σ H locs) (lk : Cond.methodLink own ix y_Md_put ∈ fx_g) (hdg : decode cc pc = .ok (.invokevirtual ix, 3)) (hsize : ls.size = nL) (hW : 2 * (F0 m pc ls (.int v2 :: .int v1 :: .ref (h 0) :: rest)).monitorRoom + (rest.map fun v => v.category).sum ≤ 8) (hR : 0 + 1 ≤ R.frames ∧ 8 + (3 + 11) + 0 ≤ R.locals) (hf : cells ≤ R.cells ∧ slots ≤ R.slots) {k : Unit → fx_M β} (hF : fx_bnd (F_Md_put v1 v2) k σ = some res) (kk : ∀ (σ' : fx_S) (H' : Heap) (locs' : List Loc), k () σ' = some res → fx_B D fx_cl (rf_ws h cA) A s.heap σ' H' locs' → W p l e R s m args below meth c H' locs' cells slots Q (F0 m (pc + 3) ls rest)) : W p l e R s m args below meth c H locs cells slots Q (F0 m pc ls (.int v2 :: .int v1 :: .ref (h 0) :: rest)) :=
  fx_call_v X hw (c_Md_put l D h cA v1 v2) (fx_cwV X lk hg_Md_put fx_gok (rm := { frames := 0, cells := 0, slots := 0, locals := 0 }) rfl rfl (by decide +kernel) hR) (va_recv X.2.1 hw.1 (ci := 8) (q0 := 0) rfl rfl) (n := 2) rfl hdg hsize rfl hW hf hF kk
end
set_option maxHeartbeats 4000000 in
set_option maxRecDepth 100000 in
theorem c_Md_fits (l : Launch) (D : va_G) (h : Nat → Nat) (cA : Nat → ClassId) (v1 : Int32) (v2 : Int32) (v3 : Int32) (v4 : Int32) : fx_Mi l y_Md_fits b_Md_fits 8 (some .boolean) { frames := 2, cells := 0, slots := 0, locals := 46 } D fx_cl (fx_tys cA) fx_g fx_G (rf_ws h cA) [.ref (h 0), .int v1, .int v2, .int v3, .int v4] (F_Md_fits v1 v2 v3 v4) := by
  refine fx_start_z fx_G_ok (by decide) (Nat.le_of_ble_eq_true rfl) ?_
  intro p e s m args below meth c A ls σ res Q hF X hw hl hend
  have hx := X.1.1
  have hb := X.1.2.1
  have hl : lv_has ls 8 [(0, .ref (h 0)), (1, .int v1), (2, .int v2), (3, .int v3), (4, .int v4)] := hl
  unfold F_Md_fits at hF
  have h22 : ∀ (v1 : Int32) (v2 : Int32) (v3 : Int32) (v4 : Int32) (σ : fx_S) (H : Heap) (locs : List Loc) (ls : Array Slot), F_Md_fits_J22 v1 v2 v3 v4 σ = some res → fx_B D fx_cl (rf_ws h cA) A s.heap σ H locs → lv_has ls 8 [(0, .ref (h 0)), (1, .int v1), (2, .int v2), (3, .int v3), (4, .int v4)] → W p l e { frames := 2, cells := 0, slots := 0, locals := 46 } s m args below meth c H locs 0 0 Q (F0 m 22 ls []) := by
    intro v1 v2 v3 v4 σ H locs ls hF hw hl
    unfold F_Md_fits_J22 at hF
    refine lv_aload_n hx hb d_Md_fits_22 rfl (lv_at hl 0 rfl) ?_
    refine lv_iload_n hx hb d_Md_fits_23 rfl (lv_at hl 1 rfl) ?_
    refine lv_aload_n hx hb d_Md_fits_24 rfl (lv_at hl 0 rfl) ?_
    refine gR_Md_nodeOperator X hw lk_Md_35 d_Md_fits_25 ?_
    refine lv_iload_n hx hb d_Md_fits_28 rfl (lv_at hl 2 rfl) ?_
    refine lA_Md_nodeOperator X hw d_Md_fits_29 hF (fun x2 hF => ?_)
    refine k_Md_rankOf X hw lk_Md_137 d_Md_fits_30 hl.1 (lv_room (Nat.le_of_ble_eq_true rfl)) ⟨Nat.le_of_ble_eq_true rfl, Nat.le_of_ble_eq_true rfl⟩ ⟨Nat.zero_le _, Nat.zero_le _⟩ hF (fun x3 σ H locs hF hw => ?_)
    refine lv_istore (lv' := [(5, .int x3), (0, .ref (h 0)), (1, .int v1), (2, .int v2), (3, .int v3), (4, .int v4)]) hx hb d_Md_fits_33 hl (by decide) rfl (fun ls hl => ?_)
    refine lv_aload_n hx hb d_Md_fits_35 rfl (lv_at hl 1 rfl) ?_
    refine lv_iload_n hx hb d_Md_fits_36 rfl (lv_at hl 2 rfl) ?_
    refine lv_aload_n hx hb d_Md_fits_37 rfl (lv_at hl 1 rfl) ?_
    refine gR_Md_nodeOperator X hw lk_Md_35 d_Md_fits_38 ?_
    refine lv_iload_n hx hb d_Md_fits_41 rfl (lv_at hl 4 rfl) ?_
    refine lA_Md_nodeOperator X hw d_Md_fits_42 hF (fun x4 hF => ?_)
    refine k_Md_rankOf X hw lk_Md_137 d_Md_fits_43 hl.1 (lv_room (Nat.le_of_ble_eq_true rfl)) ⟨Nat.le_of_ble_eq_true rfl, Nat.le_of_ble_eq_true rfl⟩ ⟨Nat.zero_le _, Nat.zero_le _⟩ hF (fun x5 σ H locs hF hw => ?_)
    refine lv_istore (lv' := [(6, .int x5), (5, .int x3), (0, .ref (h 0)), (1, .int v1), (2, .int v2), (3, .int v3), (4, .int v4)]) hx hb d_Md_fits_46 hl (by decide) rfl (fun ls hl => ?_)
    refine lv_aload_n hx hb d_Md_fits_48 rfl (lv_at hl 2 rfl) ?_
    refine lv_iload_n hx hb d_Md_fits_49 rfl (lv_at hl 3 rfl) ?_
    refine lv_aload_n hx hb d_Md_fits_50 rfl (lv_at hl 2 rfl) ?_
    refine gR_Md_nodeOperator X hw lk_Md_35 d_Md_fits_51 ?_
    refine lv_iload_n hx hb d_Md_fits_54 rfl (lv_at hl 5 rfl) ?_
    refine lA_Md_nodeOperator X hw d_Md_fits_55 hF (fun x6 hF => ?_)
    refine k_Md_sideOf X hw lk_Md_134 d_Md_fits_56 hl.1 (lv_room (Nat.le_of_ble_eq_true rfl)) ⟨Nat.le_of_ble_eq_true rfl, Nat.le_of_ble_eq_true rfl⟩ ⟨Nat.zero_le _, Nat.zero_le _⟩ hF (fun x7 σ H locs hF hw => ?_)
    refine lv_istore (lv' := [(7, .int x7), (6, .int x5), (5, .int x3), (0, .ref (h 0)), (1, .int v1), (2, .int v2), (3, .int v3), (4, .int v4)]) hx hb d_Md_fits_59 hl (by decide) rfl (fun ls hl => ?_)
    refine lv_iload hx hb d_Md_fits_61 (lv_at hl 1 rfl) ?_
    refine lv_iload hx hb d_Md_fits_63 (lv_at hl 2 rfl) ?_
    refine lv_icmp_gt (tgt := 98) hx hb d_Md_fits_65 (by decide) (fun hc => ?_) (fun hc => ?_)
    · have hF := fx_it hc hF
      refine lv_iconst (v := 1) hx hb d_Md_fits_98 (by decide) ?_
      refine lv_goto (tgt := 103) hx hb d_Md_fits_99 (by decide) ?_
      exact hend _ _ _ _ _ _ d_Md_fits_103 hF hw
    · have hF := fx_if hc hF
      refine lv_iload hx hb d_Md_fits_68 (lv_at hl 1 rfl) ?_
      refine lv_iload hx hb d_Md_fits_70 (lv_at hl 2 rfl) ?_
      refine lv_icmp_ne (tgt := 102) hx hb d_Md_fits_72 (by decide) (fun hc => ?_) (fun hc => ?_)
      · have hF := fx_if hc hF
        refine lv_iconst (v := 0) hx hb d_Md_fits_102 (by decide) ?_
        exact hend _ _ _ _ _ _ d_Md_fits_103 hF hw
      · have hF := fx_it hc hF
        refine lv_iload hx hb d_Md_fits_75 (lv_at hl 0 rfl) ?_
        refine lv_iload hx hb d_Md_fits_77 (lv_at hl 7 rfl) ?_
        refine lv_icmp_ne (tgt := 102) hx hb d_Md_fits_79 (by decide) (fun hc => ?_) (fun hc => ?_)
        · have hF := fx_if hc hF
          refine lv_iconst (v := 0) hx hb d_Md_fits_102 (by decide) ?_
          exact hend _ _ _ _ _ _ d_Md_fits_103 hF hw
        · have hF := fx_it hc hF
          refine lv_aload_n hx hb d_Md_fits_82 rfl (lv_at hl 3 rfl) ?_
          refine lv_iload_n hx hb d_Md_fits_83 rfl (lv_at hl 4 rfl) ?_
          refine lv_aload_n hx hb d_Md_fits_84 rfl (lv_at hl 3 rfl) ?_
          refine gR_Md_nodeOperator X hw lk_Md_35 d_Md_fits_85 ?_
          refine lv_iload_n hx hb d_Md_fits_88 rfl (lv_at hl 5 rfl) ?_
          refine lA_Md_nodeOperator X hw d_Md_fits_89 hF (fun x8 hF => ?_)
          refine k_Md_sideOf X hw lk_Md_134 d_Md_fits_90 hl.1 (lv_room (Nat.le_of_ble_eq_true rfl)) ⟨Nat.le_of_ble_eq_true rfl, Nat.le_of_ble_eq_true rfl⟩ ⟨Nat.zero_le _, Nat.zero_le _⟩ hF (fun x9 σ H locs hF hw => ?_)
          refine lv_iload hx hb d_Md_fits_93 (lv_at hl 7 rfl) ?_
          refine lv_icmp_ne (tgt := 102) hx hb d_Md_fits_95 (by decide) (fun hc => ?_) (fun hc => ?_)
          · have hF := fx_if hc hF
            refine lv_iconst (v := 0) hx hb d_Md_fits_102 (by decide) ?_
            exact hend _ _ _ _ _ _ d_Md_fits_103 hF hw
          · have hF := fx_it hc hF
            refine lv_iconst (v := 1) hx hb d_Md_fits_98 (by decide) ?_
            refine lv_goto (tgt := 103) hx hb d_Md_fits_99 (by decide) ?_
            exact hend _ _ _ _ _ _ d_Md_fits_103 hF hw
  refine lv_aload_n hx hb d_Md_fits_0 rfl (lv_at hl 0 rfl) ?_
  refine gR_Md_nodeKind X hw lk_Md_32 d_Md_fits_1 ?_
  refine lv_iload_n hx hb d_Md_fits_4 rfl (lv_at hl 3 rfl) ?_
  refine lA_Md_nodeKind X hw d_Md_fits_5 hF (fun x1 hF => ?_)
  refine lv_iconst (v := 1) hx hb d_Md_fits_6 (by decide) ?_
  refine lv_icmp_eq (tgt := 22) hx hb d_Md_fits_7 (by decide) (fun hc => ?_) (fun hc => ?_)
  · have hF := fx_it hc hF
    exact h22 v1 v2 v3 v4 _ _ _ _ hF hw (lv_sub hl [0, 1, 2, 3, 4] rfl)
  · have hF := fx_if hc hF
    refine lv_aload_n hx hb d_Md_fits_10 rfl (lv_at hl 0 rfl) ?_
    refine gR_Md_nodeKind X hw lk_Md_32 d_Md_fits_11 ?_
    refine lv_iload_n hx hb d_Md_fits_14 rfl (lv_at hl 3 rfl) ?_
    refine lA_Md_nodeKind X hw d_Md_fits_15 hF (fun x10 hF => ?_)
    refine lv_iconst (v := 2) hx hb d_Md_fits_16 (by decide) ?_
    refine lv_icmp_eq (tgt := 22) hx hb d_Md_fits_17 (by decide) (fun hc => ?_) (fun hc => ?_)
    · have hF := fx_it hc hF
      exact h22 v1 v2 v3 v4 _ _ _ _ hF hw (lv_sub hl [0, 1, 2, 3, 4] rfl)
    · have hF := fx_if hc hF
      refine lv_iconst (v := 1) hx hb d_Md_fits_20 (by decide) ?_
      exact hend _ _ _ _ _ _ d_Md_fits_21 hF hw
section
variable {p : Program} {l : Launch} {e : Env} {R : Room} {s : State} {m : MethodId} {args : Array Value} {below : List Frame} {meth : Method} {c : Code} {H : Heap} {locs : List Loc} {cells slots : Nat} {Q : State → Prop}
variable {cc : ByteArray} {pc nL ix : Nat} {ls : Array Slot} {rest : List Value} {own : String} {D : va_G} {A : Nat → Prop} {h : Nat → Nat} {cA : Nat → ClassId} {σ : fx_S} {β : Type} {res : β × fx_S}
theorem k_Md_fits {v1 : Int32} {v2 : Int32} {v3 : Int32} {v4 : Int32} (X : fx_X p m c cc nL s args own D fx_cl (fx_tys cA) fx_g fx_G A) (hw : fx_B D fx_cl (rf_ws h cA) A s.heap σ H locs) (lk : Cond.methodLink own ix y_Md_fits ∈ fx_g) (hdg : decode cc pc = .ok (.invokevirtual ix, 3)) (hsize : ls.size = nL) (hW : 2 * (F0 m pc ls (.int v4 :: .int v3 :: .int v2 :: .int v1 :: .ref (h 0) :: rest)).monitorRoom + (rest.map fun v => v.category).sum ≤ 8) (hR : 2 + 1 ≤ R.frames ∧ 8 + (8 + 11) + 46 ≤ R.locals) (hf : cells ≤ R.cells ∧ slots ≤ R.slots) {k : Int32 → fx_M β} (hF : fx_bnd (F_Md_fits v1 v2 v3 v4) k σ = some res) (kk : ∀ (r : Int32) (σ' : fx_S) (H' : Heap) (locs' : List Loc), k r σ' = some res → fx_B D fx_cl (rf_ws h cA) A s.heap σ' H' locs' → W p l e R s m args below meth c H' locs' cells slots Q (F0 m (pc + 3) ls (.int r :: rest))) : W p l e R s m args below meth c H locs cells slots Q (F0 m pc ls (.int v4 :: .int v3 :: .int v2 :: .int v1 :: .ref (h 0) :: rest)) :=
  fx_call_i X hw (c_Md_fits l D h cA v1 v2 v3 v4) (fx_cwV X lk hg_Md_fits fx_gok (rm := { frames := 2, cells := 0, slots := 0, locals := 46 }) rfl rfl (by decide +kernel) hR) (va_recv X.2.1 hw.1 (ci := 8) (q0 := 0) rfl rfl) (n := 4) rfl hdg hsize rfl hW hf hF kk
end
set_option maxHeartbeats 4000000 in
set_option maxRecDepth 100000 in
theorem c_Md_dueChild (l : Launch) (D : va_G) (h : Nat → Nat) (cA : Nat → ClassId) (v1 : Int32) (v2 : Int32) (v3 : Int32) (v4 : Int32) : fx_Mv l y_Md_dueChild b_Md_dueChild 5 none { frames := 3, cells := 0, slots := 0, locals := 73 } D fx_cl (fx_tys cA) fx_g fx_G (rf_ws h cA) [.ref (h 0), .int v1, .int v2, .int v3, .int v4] (F_Md_dueChild v1 v2 v3 v4) := by
  refine fx_start_v fx_G_ok (by decide) (Nat.le_of_ble_eq_true rfl) ?_
  intro p e s m args below meth c A ls σ res Q hF X hw hl hend
  have hx := X.1.1
  have hb := X.1.2.1
  have hl : lv_has ls 5 [(0, .ref (h 0)), (1, .int v1), (2, .int v2), (3, .int v3), (4, .int v4)] := hl
  unfold F_Md_dueChild at hF
  have h20 : ∀ (v3 : Int32) (t0 : Int32) (σ : fx_S) (H : Heap) (locs : List Loc) (ls : Array Slot), F_Md_dueChild_J20 v3 t0 σ = some res → fx_B D fx_cl (rf_ws h cA) A s.heap σ H locs → lv_has ls 5 [(3, .int v3)] → W p l e { frames := 3, cells := 0, slots := 0, locals := 73 } s m args below meth c H locs 0 0 Q (F0 m 20 ls [.int t0, .ref (h 0)]) := by
    intro v3 t0 σ H locs ls hF hw hl
    unfold F_Md_dueChild_J20 at hF
    refine lv_iload_n hx hb d_Md_dueChild_20 rfl (lv_at hl 0 rfl) ?_
    refine k_Md_due X hw lk_Md_244 d_Md_dueChild_21 hl.1 (lv_room (Nat.le_of_ble_eq_true rfl)) ⟨Nat.le_of_ble_eq_true rfl, Nat.le_of_ble_eq_true rfl⟩ ⟨Nat.zero_le _, Nat.zero_le _⟩ hF (fun σ H locs hF hw => ?_)
    exact hend _ _ _ _ _ d_Md_dueChild_24 hF hw
  refine lv_aload_n hx hb d_Md_dueChild_0 rfl (lv_at hl 0 rfl) ?_
  refine lv_aload_n hx hb d_Md_dueChild_1 rfl (lv_at hl 0 rfl) ?_
  refine lv_iload_n hx hb d_Md_dueChild_2 rfl (lv_at hl 1 rfl) ?_
  refine lv_iload_n hx hb d_Md_dueChild_3 rfl (lv_at hl 2 rfl) ?_
  refine lv_iload_n hx hb d_Md_dueChild_4 rfl (lv_at hl 3 rfl) ?_
  refine lv_iload hx hb d_Md_dueChild_5 (lv_at hl 4 rfl) ?_
  refine k_Md_fits X hw lk_Md_240 d_Md_dueChild_7 hl.1 (lv_room (Nat.le_of_ble_eq_true rfl)) ⟨Nat.le_of_ble_eq_true rfl, Nat.le_of_ble_eq_true rfl⟩ ⟨Nat.zero_le _, Nat.zero_le _⟩ hF (fun x1 σ H locs hF hw => ?_)
  refine lv_if_eq (tgt := 18) hx hb d_Md_dueChild_10 (by decide) (fun hc => ?_) (fun hc => ?_)
  · have hF := fx_it hc hF
    refine lv_bipush (v := 11) hx hb d_Md_dueChild_18 (by decide) ?_
    exact h20 v3 11 _ _ _ _ hF hw (lv_sub hl [3] rfl)
  · have hF := fx_if hc hF
    refine lv_bipush (v := 10) hx hb d_Md_dueChild_13 (by decide) ?_
    refine lv_goto (tgt := 20) hx hb d_Md_dueChild_15 (by decide) ?_
    exact h20 v3 10 _ _ _ _ hF hw (lv_sub hl [3] rfl)
section
variable {p : Program} {l : Launch} {e : Env} {R : Room} {s : State} {m : MethodId} {args : Array Value} {below : List Frame} {meth : Method} {c : Code} {H : Heap} {locs : List Loc} {cells slots : Nat} {Q : State → Prop}
variable {cc : ByteArray} {pc nL ix : Nat} {ls : Array Slot} {rest : List Value} {own : String} {D : va_G} {A : Nat → Prop} {h : Nat → Nat} {cA : Nat → ClassId} {σ : fx_S} {β : Type} {res : β × fx_S}
theorem k_Md_dueChild {v1 : Int32} {v2 : Int32} {v3 : Int32} {v4 : Int32} (X : fx_X p m c cc nL s args own D fx_cl (fx_tys cA) fx_g fx_G A) (hw : fx_B D fx_cl (rf_ws h cA) A s.heap σ H locs) (lk : Cond.methodLink own ix y_Md_dueChild ∈ fx_g) (hdg : decode cc pc = .ok (.invokevirtual ix, 3)) (hsize : ls.size = nL) (hW : 2 * (F0 m pc ls (.int v4 :: .int v3 :: .int v2 :: .int v1 :: .ref (h 0) :: rest)).monitorRoom + (rest.map fun v => v.category).sum ≤ 8) (hR : 3 + 1 ≤ R.frames ∧ 8 + (5 + 11) + 73 ≤ R.locals) (hf : cells ≤ R.cells ∧ slots ≤ R.slots) {k : Unit → fx_M β} (hF : fx_bnd (F_Md_dueChild v1 v2 v3 v4) k σ = some res) (kk : ∀ (σ' : fx_S) (H' : Heap) (locs' : List Loc), k () σ' = some res → fx_B D fx_cl (rf_ws h cA) A s.heap σ' H' locs' → W p l e R s m args below meth c H' locs' cells slots Q (F0 m (pc + 3) ls rest)) : W p l e R s m args below meth c H locs cells slots Q (F0 m pc ls (.int v4 :: .int v3 :: .int v2 :: .int v1 :: .ref (h 0) :: rest)) :=
  fx_call_v X hw (c_Md_dueChild l D h cA v1 v2 v3 v4) (fx_cwV X lk hg_Md_dueChild fx_gok (rm := { frames := 3, cells := 0, slots := 0, locals := 73 }) rfl rfl (by decide +kernel) hR) (va_recv X.2.1 hw.1 (ci := 8) (q0 := 0) rfl rfl) (n := 4) rfl hdg hsize rfl hW hf hF kk
end
