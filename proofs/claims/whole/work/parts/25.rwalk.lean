set_option maxHeartbeats 4000000 in
set_option maxRecDepth 100000 in
theorem c_Md_spread (l : Launch) (D : va_G) (h : Nat → Nat) (cA : Nat → ClassId) (v1 : Int32) (v2 : Int32) (v3 : Int32) : fx_Mv l y_Md_spread b_Md_spread 4 none { frames := 4, cells := 0, slots := 0, locals := 97 } D fx_cl (fx_tys cA) fx_g fx_G (rf_ws h cA) [.ref (h 0), .int v1, .int v2, .int v3] (F_Md_spread v1 v2 v3) := by
  refine fx_start_v fx_G_ok (by decide) (Nat.le_of_ble_eq_true rfl) ?_
  intro p e s m args below meth c A ls σ res Q hF X hw hl hend
  have hx := X.1.1
  have hb := X.1.2.1
  have hl : lv_has ls 4 [(0, .ref (h 0)), (1, .int v1), (2, .int v2), (3, .int v3)] := hl
  unfold F_Md_spread at hF
  have h16 : ∀ (v1 : Int32) (v2 : Int32) (σ : fx_S) (H : Heap) (locs : List Loc) (ls : Array Slot), F_Md_spread_J16 v1 v2 σ = some res → fx_B D fx_cl (rf_ws h cA) A s.heap σ H locs → lv_has ls 4 [(0, .ref (h 0)), (1, .int v1), (2, .int v2)] → W p l e { frames := 4, cells := 0, slots := 0, locals := 97 } s m args below meth c H locs 0 0 Q (F0 m 16 ls []) := by
    intro v1 v2 σ H locs ls hF hw hl
    unfold F_Md_spread_J16 at hF
    refine lv_aload_n hx hb d_Md_spread_16 rfl (lv_at hl 0 rfl) ?_
    refine gR_Md_nodeKind X hw lk_Md_32 d_Md_spread_17 ?_
    refine lv_iload_n hx hb d_Md_spread_20 rfl (lv_at hl 2 rfl) ?_
    refine lA_Md_nodeKind X hw d_Md_spread_21 hF (fun x1 hF => ?_)
    by_cases hc0 : x1 = 0
    · have hF := fx_it hc0 hF
      refine lv_tableIn (off := 30) (tgt := 52) hx hb d_Md_spread_22 (by rw [hc0]; decide) (by rw [hc0]; decide) (by rw [hc0]; rfl) (by decide) ?_
      refine lv_aload_n hx hb d_Md_spread_52 rfl (lv_at hl 0 rfl) ?_
      refine lv_iconst (v := 0) hx hb d_Md_spread_53 (by decide) ?_
      refine lv_iload_n hx hb d_Md_spread_54 rfl (lv_at hl 2 rfl) ?_
      refine k_Md_put X hw lk_Md_250 d_Md_spread_55 hl.1 (lv_room (Nat.le_of_ble_eq_true rfl)) ⟨Nat.le_of_ble_eq_true rfl, Nat.le_of_ble_eq_true rfl⟩ ⟨Nat.zero_le _, Nat.zero_le _⟩ hF (fun σ H locs hF hw => ?_)
      refine lv_goto (tgt := 159) hx hb d_Md_spread_58 (by decide) ?_
      exact hend _ _ _ _ _ d_Md_spread_159 hF hw
    have hF := fx_if hc0 hF
    by_cases hc1 : x1 = 1
    · have hF := fx_it hc1 hF
      refine lv_tableIn (off := 39) (tgt := 61) hx hb d_Md_spread_22 (by rw [hc1]; decide) (by rw [hc1]; decide) (by rw [hc1]; rfl) (by decide) ?_
      refine lv_aload_n hx hb d_Md_spread_61 rfl (lv_at hl 0 rfl) ?_
      refine lv_iload_n hx hb d_Md_spread_62 rfl (lv_at hl 1 rfl) ?_
      refine lv_iload_n hx hb d_Md_spread_63 rfl (lv_at hl 2 rfl) ?_
      refine lv_aload_n hx hb d_Md_spread_64 rfl (lv_at hl 0 rfl) ?_
      refine gR_Md_nodeSecond X hw lk_Md_41 d_Md_spread_65 ?_
      refine lv_iload_n hx hb d_Md_spread_68 rfl (lv_at hl 2 rfl) ?_
      refine lA_Md_nodeSecond X hw d_Md_spread_69 hF (fun x2 hF => ?_)
      refine lv_iconst (v := 1) hx hb d_Md_spread_70 (by decide) ?_
      refine k_Md_dueChild X hw lk_Md_257 d_Md_spread_71 hl.1 (lv_room (Nat.le_of_ble_eq_true rfl)) ⟨Nat.le_of_ble_eq_true rfl, Nat.le_of_ble_eq_true rfl⟩ ⟨Nat.zero_le _, Nat.zero_le _⟩ hF (fun σ H locs hF hw => ?_)
      refine lv_aload_n hx hb d_Md_spread_74 rfl (lv_at hl 0 rfl) ?_
      refine lv_iconst (v := 1) hx hb d_Md_spread_75 (by decide) ?_
      refine lv_iload_n hx hb d_Md_spread_76 rfl (lv_at hl 2 rfl) ?_
      refine k_Md_due X hw lk_Md_244 d_Md_spread_77 hl.1 (lv_room (Nat.le_of_ble_eq_true rfl)) ⟨Nat.le_of_ble_eq_true rfl, Nat.le_of_ble_eq_true rfl⟩ ⟨Nat.zero_le _, Nat.zero_le _⟩ hF (fun σ H locs hF hw => ?_)
      refine lv_aload_n hx hb d_Md_spread_80 rfl (lv_at hl 0 rfl) ?_
      refine lv_iload_n hx hb d_Md_spread_81 rfl (lv_at hl 1 rfl) ?_
      refine lv_iload_n hx hb d_Md_spread_82 rfl (lv_at hl 2 rfl) ?_
      refine lv_aload_n hx hb d_Md_spread_83 rfl (lv_at hl 0 rfl) ?_
      refine gR_Md_nodeFirst X hw lk_Md_38 d_Md_spread_84 ?_
      refine lv_iload_n hx hb d_Md_spread_87 rfl (lv_at hl 2 rfl) ?_
      refine lA_Md_nodeFirst X hw d_Md_spread_88 hF (fun x3 hF => ?_)
      refine lv_iconst (v := 0) hx hb d_Md_spread_89 (by decide) ?_
      refine k_Md_dueChild X hw lk_Md_257 d_Md_spread_90 hl.1 (lv_room (Nat.le_of_ble_eq_true rfl)) ⟨Nat.le_of_ble_eq_true rfl, Nat.le_of_ble_eq_true rfl⟩ ⟨Nat.zero_le _, Nat.zero_le _⟩ hF (fun σ H locs hF hw => ?_)
      refine lv_goto (tgt := 159) hx hb d_Md_spread_93 (by decide) ?_
      exact hend _ _ _ _ _ d_Md_spread_159 hF hw
    have hF := fx_if hc1 hF
    by_cases hc2 : x1 = 2
    · have hF := fx_it hc2 hF
      refine lv_tableIn (off := 74) (tgt := 96) hx hb d_Md_spread_22 (by rw [hc2]; decide) (by rw [hc2]; decide) (by rw [hc2]; rfl) (by decide) ?_
      refine lv_aload_n hx hb d_Md_spread_96 rfl (lv_at hl 0 rfl) ?_
      refine lv_iconst (v := 2) hx hb d_Md_spread_97 (by decide) ?_
      refine lv_iload_n hx hb d_Md_spread_98 rfl (lv_at hl 2 rfl) ?_
      refine k_Md_put X hw lk_Md_250 d_Md_spread_99 hl.1 (lv_room (Nat.le_of_ble_eq_true rfl)) ⟨Nat.le_of_ble_eq_true rfl, Nat.le_of_ble_eq_true rfl⟩ ⟨Nat.zero_le _, Nat.zero_le _⟩ hF (fun σ H locs hF hw => ?_)
      refine lv_aload_n hx hb d_Md_spread_102 rfl (lv_at hl 0 rfl) ?_
      refine lv_iload_n hx hb d_Md_spread_103 rfl (lv_at hl 1 rfl) ?_
      refine lv_iload_n hx hb d_Md_spread_104 rfl (lv_at hl 2 rfl) ?_
      refine lv_aload_n hx hb d_Md_spread_105 rfl (lv_at hl 0 rfl) ?_
      refine gR_Md_nodeFirst X hw lk_Md_38 d_Md_spread_106 ?_
      refine lv_iload_n hx hb d_Md_spread_109 rfl (lv_at hl 2 rfl) ?_
      refine lA_Md_nodeFirst X hw d_Md_spread_110 hF (fun x4 hF => ?_)
      refine lv_iconst (v := 1) hx hb d_Md_spread_111 (by decide) ?_
      refine k_Md_dueChild X hw lk_Md_257 d_Md_spread_112 hl.1 (lv_room (Nat.le_of_ble_eq_true rfl)) ⟨Nat.le_of_ble_eq_true rfl, Nat.le_of_ble_eq_true rfl⟩ ⟨Nat.zero_le _, Nat.zero_le _⟩ hF (fun σ H locs hF hw => ?_)
      refine lv_goto (tgt := 159) hx hb d_Md_spread_115 (by decide) ?_
      exact hend _ _ _ _ _ d_Md_spread_159 hF hw
    have hF := fx_if hc2 hF
    by_cases hc3 : x1 = 3
    · have hF := fx_it hc3 hF
      refine lv_tableIn (off := 96) (tgt := 118) hx hb d_Md_spread_22 (by rw [hc3]; decide) (by rw [hc3]; decide) (by rw [hc3]; rfl) (by decide) ?_
      refine lv_aload_n hx hb d_Md_spread_118 rfl (lv_at hl 0 rfl) ?_
      refine lv_iconst (v := 1) hx hb d_Md_spread_119 (by decide) ?_
      refine lv_iload_n hx hb d_Md_spread_120 rfl (lv_at hl 2 rfl) ?_
      refine k_Md_due X hw lk_Md_244 d_Md_spread_121 hl.1 (lv_room (Nat.le_of_ble_eq_true rfl)) ⟨Nat.le_of_ble_eq_true rfl, Nat.le_of_ble_eq_true rfl⟩ ⟨Nat.zero_le _, Nat.zero_le _⟩ hF (fun σ H locs hF hw => ?_)
      refine lv_aload_n hx hb d_Md_spread_124 rfl (lv_at hl 0 rfl) ?_
      refine lv_iload_n hx hb d_Md_spread_125 rfl (lv_at hl 1 rfl) ?_
      refine lv_iload_n hx hb d_Md_spread_126 rfl (lv_at hl 2 rfl) ?_
      refine lv_aload_n hx hb d_Md_spread_127 rfl (lv_at hl 0 rfl) ?_
      refine gR_Md_nodeFirst X hw lk_Md_38 d_Md_spread_128 ?_
      refine lv_iload_n hx hb d_Md_spread_131 rfl (lv_at hl 2 rfl) ?_
      refine lA_Md_nodeFirst X hw d_Md_spread_132 hF (fun x5 hF => ?_)
      refine lv_iconst (v := 0) hx hb d_Md_spread_133 (by decide) ?_
      refine k_Md_dueChild X hw lk_Md_257 d_Md_spread_134 hl.1 (lv_room (Nat.le_of_ble_eq_true rfl)) ⟨Nat.le_of_ble_eq_true rfl, Nat.le_of_ble_eq_true rfl⟩ ⟨Nat.zero_le _, Nat.zero_le _⟩ hF (fun σ H locs hF hw => ?_)
      refine lv_goto (tgt := 159) hx hb d_Md_spread_137 (by decide) ?_
      exact hend _ _ _ _ _ d_Md_spread_159 hF hw
    have hF := fx_if hc3 hF
    refine lv_tableOut (tgt := 140) hx hb d_Md_spread_22 (fx_sw0_3 hc0 hc1 hc2 hc3) (by decide) ?_
    refine lv_aload_n hx hb d_Md_spread_140 rfl (lv_at hl 0 rfl) ?_
    refine lv_iconst (v := 1) hx hb d_Md_spread_141 (by decide) ?_
    refine lv_iload_n hx hb d_Md_spread_142 rfl (lv_at hl 2 rfl) ?_
    refine k_Md_put X hw lk_Md_250 d_Md_spread_143 hl.1 (lv_room (Nat.le_of_ble_eq_true rfl)) ⟨Nat.le_of_ble_eq_true rfl, Nat.le_of_ble_eq_true rfl⟩ ⟨Nat.zero_le _, Nat.zero_le _⟩ hF (fun σ H locs hF hw => ?_)
    refine lv_aload_n hx hb d_Md_spread_146 rfl (lv_at hl 0 rfl) ?_
    refine lv_iload_n hx hb d_Md_spread_147 rfl (lv_at hl 1 rfl) ?_
    refine lv_iload_n hx hb d_Md_spread_148 rfl (lv_at hl 2 rfl) ?_
    refine lv_aload_n hx hb d_Md_spread_149 rfl (lv_at hl 0 rfl) ?_
    refine gR_Md_nodeFirst X hw lk_Md_38 d_Md_spread_150 ?_
    refine lv_iload_n hx hb d_Md_spread_153 rfl (lv_at hl 2 rfl) ?_
    refine lA_Md_nodeFirst X hw d_Md_spread_154 hF (fun x6 hF => ?_)
    refine lv_iconst (v := 1) hx hb d_Md_spread_155 (by decide) ?_
    refine k_Md_dueChild X hw lk_Md_257 d_Md_spread_156 hl.1 (lv_room (Nat.le_of_ble_eq_true rfl)) ⟨Nat.le_of_ble_eq_true rfl, Nat.le_of_ble_eq_true rfl⟩ ⟨Nat.zero_le _, Nat.zero_le _⟩ hF (fun σ H locs hF hw => ?_)
    exact hend _ _ _ _ _ d_Md_spread_159 hF hw
  refine lv_iload_n hx hb d_Md_spread_0 rfl (lv_at hl 3 rfl) ?_
  refine lv_if_eq (tgt := 16) hx hb d_Md_spread_1 (by decide) (fun hc => ?_) (fun hc => ?_)
  · have hF := fx_it hc hF
    exact h16 v1 v2 _ _ _ _ hF hw (lv_sub hl [0, 1, 2] rfl)
  · have hF := fx_if hc hF
    refine lv_aload_n hx hb d_Md_spread_4 rfl (lv_at hl 0 rfl) ?_
    refine lv_iconst (v := 3) hx hb d_Md_spread_5 (by decide) ?_
    refine lv_iload_n hx hb d_Md_spread_6 rfl (lv_at hl 2 rfl) ?_
    refine k_Md_put X hw lk_Md_250 d_Md_spread_7 hl.1 (lv_room (Nat.le_of_ble_eq_true rfl)) ⟨Nat.le_of_ble_eq_true rfl, Nat.le_of_ble_eq_true rfl⟩ ⟨Nat.zero_le _, Nat.zero_le _⟩ hF (fun σ H locs hF hw => ?_)
    refine lv_aload_n hx hb d_Md_spread_10 rfl (lv_at hl 0 rfl) ?_
    refine lv_iconst (v := 4) hx hb d_Md_spread_11 (by decide) ?_
    refine lv_iload_n hx hb d_Md_spread_12 rfl (lv_at hl 2 rfl) ?_
    refine k_Md_due X hw lk_Md_244 d_Md_spread_13 hl.1 (lv_room (Nat.le_of_ble_eq_true rfl)) ⟨Nat.le_of_ble_eq_true rfl, Nat.le_of_ble_eq_true rfl⟩ ⟨Nat.zero_le _, Nat.zero_le _⟩ hF (fun σ H locs hF hw => ?_)
    exact h16 v1 v2 _ _ _ _ hF hw (lv_sub hl [0, 1, 2] rfl)
section
variable {p : Program} {l : Launch} {e : Env} {R : Room} {s : State} {m : MethodId} {args : Array Value} {below : List Frame} {meth : Method} {c : Code} {H : Heap} {locs : List Loc} {cells slots : Nat} {Q : State → Prop}
variable {cc : ByteArray} {pc nL ix : Nat} {ls : Array Slot} {rest : List Value} {own : String} {D : va_G} {A : Nat → Prop} {h : Nat → Nat} {cA : Nat → ClassId} {σ : fx_S} {β : Type} {res : β × fx_S}
theorem k_Md_spread {v1 : Int32} {v2 : Int32} {v3 : Int32} (X : fx_X p m c cc nL s args own D fx_cl (fx_tys cA) fx_g fx_G A) (hw : fx_B D fx_cl (rf_ws h cA) A s.heap σ H locs) (lk : Cond.methodLink own ix y_Md_spread ∈ fx_g) (hdg : decode cc pc = .ok (.invokevirtual ix, 3)) (hsize : ls.size = nL) (hW : 2 * (F0 m pc ls (.int v3 :: .int v2 :: .int v1 :: .ref (h 0) :: rest)).monitorRoom + (rest.map fun v => v.category).sum ≤ 8) (hR : 4 + 1 ≤ R.frames ∧ 8 + (4 + 11) + 97 ≤ R.locals) (hf : cells ≤ R.cells ∧ slots ≤ R.slots) {k : Unit → fx_M β} (hF : fx_bnd (F_Md_spread v1 v2 v3) k σ = some res) (kk : ∀ (σ' : fx_S) (H' : Heap) (locs' : List Loc), k () σ' = some res → fx_B D fx_cl (rf_ws h cA) A s.heap σ' H' locs' → W p l e R s m args below meth c H' locs' cells slots Q (F0 m (pc + 3) ls rest)) : W p l e R s m args below meth c H locs cells slots Q (F0 m pc ls (.int v3 :: .int v2 :: .int v1 :: .ref (h 0) :: rest)) :=
  fx_call_v X hw (c_Md_spread l D h cA v1 v2 v3) (fx_cwV X lk hg_Md_spread fx_gok (rm := { frames := 4, cells := 0, slots := 0, locals := 97 }) rfl rfl (by decide +kernel) hR) (va_recv X.2.1 hw.1 (ci := 8) (q0 := 0) rfl rfl) (n := 3) rfl hdg hsize rfl hW hf hF kk
end
set_option maxHeartbeats 4000000 in
set_option maxRecDepth 100000 in
theorem c_Md_write (l : Launch) (D : va_G) (h : Nat → Nat) (cA : Nat → ClassId) (v1 : Int32) : fx_Mi l y_Md_write b_Md_write 4 (some .int) { frames := 5, cells := 0, slots := 0, locals := 120 } D fx_cl (fx_tys cA) fx_g fx_G (rf_ws h cA) [.ref (h 0), .int v1] (F_Md_write v1) := by
  refine fx_start_i fx_G_ok (by decide) (Nat.le_of_ble_eq_true rfl) ?_
  intro p e s m args below meth c A ls σ res Q hF X hw hl hend
  have hx := X.1.1
  have hb := X.1.2.1
  have hl : lv_has ls 4 [(0, .ref (h 0)), (1, .int v1)] := hl
  unfold F_Md_write at hF
  have h55 : ∀ (n55 : Nat) (v1 : Int32) (σ : fx_S) (H : Heap) (locs : List Loc) (ls : Array Slot), fx_loop1 (F_Md_write_B55) n55 v1 σ = some res → fx_B D fx_cl (rf_ws h cA) A s.heap σ H locs → lv_has ls 4 [(0, .ref (h 0)), (1, .int v1)] → W p l e { frames := 5, cells := 0, slots := 0, locals := 120 } s m args below meth c H locs 0 0 Q (F0 m 55 ls []) := by
    intro n55
    induction n55 with
    | zero => intro v1 σ H locs ls hF; cases hF
    | succ n55 ih55 =>
      obtain ⟨K55, eK55⟩ : ∃ K, K = fx_loop1 (F_Md_write_B55) n55 := ⟨_, rfl⟩
      rw [← eK55] at ih55
      have h134 : ∀ (v1 : Int32) (σ : fx_S) (H : Heap) (locs : List Loc) (ls : Array Slot), F_Md_write_J134 K55 v1 σ = some res → fx_B D fx_cl (rf_ws h cA) A s.heap σ H locs → lv_has ls 4 [(0, .ref (h 0)), (1, .int v1)] → W p l e { frames := 5, cells := 0, slots := 0, locals := 120 } s m args below meth c H locs 0 0 Q (F0 m 134 ls []) := by
        intro v1 σ H locs ls hF hw hl
        unfold F_Md_write_J134 at hF
        refine lv_goto (tgt := 55) hx hb d_Md_write_134 (by decide) ?_
        exact ih55 v1 _ _ _ _ hF hw (lv_sub hl [0, 1] rfl)
      have h131 : ∀ (v1 : Int32) (t0 : Int32) (t1 : Int32) (t2 : Int32) (σ : fx_S) (H : Heap) (locs : List Loc) (ls : Array Slot), F_Md_write_J131 K55 v1 t0 t1 t2 σ = some res → fx_B D fx_cl (rf_ws h cA) A s.heap σ H locs → lv_has ls 4 [(0, .ref (h 0)), (1, .int v1)] → W p l e { frames := 5, cells := 0, slots := 0, locals := 120 } s m args below meth c H locs 0 0 Q (F0 m 131 ls [.int t0, .int t1, .int t2, .ref (h 0)]) := by
        intro v1 t0 t1 t2 σ H locs ls hF hw hl
        unfold F_Md_write_J131 at hF
        refine k_Md_spread X hw lk_Md_253 d_Md_write_131 hl.1 (lv_room (Nat.le_of_ble_eq_true rfl)) ⟨Nat.le_of_ble_eq_true rfl, Nat.le_of_ble_eq_true rfl⟩ ⟨Nat.zero_le _, Nat.zero_le _⟩ hF (fun σ H locs hF hw => ?_)
        exact h134 v1 _ _ _ _ hF hw (lv_sub hl [0, 1] rfl)
      have h126 : ∀ (v1 : Int32) (t0 : Int32) (t1 : Int32) (σ : fx_S) (H : Heap) (locs : List Loc) (ls : Array Slot), F_Md_write_J126 K55 v1 t0 t1 σ = some res → fx_B D fx_cl (rf_ws h cA) A s.heap σ H locs → lv_has ls 4 [(0, .ref (h 0)), (1, .int v1)] → W p l e { frames := 5, cells := 0, slots := 0, locals := 120 } s m args below meth c H locs 0 0 Q (F0 m 126 ls [.int t0, .int t1, .ref (h 0)]) := by
        intro v1 t0 t1 σ H locs ls hF hw hl
        unfold F_Md_write_J126 at hF
        refine lv_iconst (v := 1) hx hb d_Md_write_126 (by decide) ?_
        refine lv_goto (tgt := 131) hx hb d_Md_write_127 (by decide) ?_
        exact h131 v1 1 t0 t1 _ _ _ _ hF hw (lv_sub hl [0, 1] rfl)
      intro v1 σ H locs ls hF hw hl
      replace hF : F_Md_write_B55 (fx_loop1 (F_Md_write_B55) n55) v1 σ = some res := hF
      rw [← eK55] at hF
      unfold F_Md_write_B55 at hF
      refine lv_aload_n hx hb d_Md_write_55 rfl (lv_at hl 0 rfl) ?_
      refine gI_Md_dues X hw lk_Md_237 d_Md_write_56 hF (fun x4 hF => ?_)
      refine lv_if_le (tgt := 137) hx hb d_Md_write_59 (by decide) (fun hc => ?_) (fun hc => ?_)
      · have hF := fx_it hc hF
        refine lv_aload_n hx hb d_Md_write_137 rfl (lv_at hl 0 rfl) ?_
        refine gI_Md_wrote X hw lk_Md_234 d_Md_write_138 hF (fun x5 hF => ?_)
        exact hend _ _ _ _ _ _ d_Md_write_141 hF hw
      · have hF := fx_if hc hF
        refine lv_aload_n hx hb d_Md_write_62 rfl (lv_at hl 0 rfl) ?_
        refine lv_dup hx hb d_Md_write_63 rfl ?_
        refine gI_Md_dues X hw lk_Md_237 d_Md_write_64 hF (fun x6 hF => ?_)
        refine lv_iconst (v := 1) hx hb d_Md_write_67 (by decide) ?_
        refine lv_isub hx hb d_Md_write_68 ?_
        refine pI_Md_dues X hw lk_Md_237 d_Md_write_69 hF (fun σ H locs hF hw => ?_)
        refine lv_aload_n hx hb d_Md_write_72 rfl (lv_at hl 0 rfl) ?_
        refine gR_Md_dueKind X hw lk_Md_100 d_Md_write_73 ?_
        refine lv_aload_n hx hb d_Md_write_76 rfl (lv_at hl 0 rfl) ?_
        refine gI_Md_dues X hw lk_Md_237 d_Md_write_77 hF (fun x7 hF => ?_)
        refine lA_Md_dueKind X hw d_Md_write_80 hF (fun x8 hF => ?_)
        refine lv_istore_n (lv' := [(2, .int x8), (0, .ref (h 0)), (1, .int v1)]) hx hb d_Md_write_81 rfl hl (by decide) rfl (fun ls hl => ?_)
        refine lv_aload_n hx hb d_Md_write_82 rfl (lv_at hl 1 rfl) ?_
        refine gR_Md_dueNode X hw lk_Md_103 d_Md_write_83 ?_
        refine lv_aload_n hx hb d_Md_write_86 rfl (lv_at hl 1 rfl) ?_
        refine gI_Md_dues X hw lk_Md_237 d_Md_write_87 hF (fun x9 hF => ?_)
        refine lA_Md_dueNode X hw d_Md_write_90 hF (fun x10 hF => ?_)
        refine lv_istore_n (lv' := [(3, .int x10), (2, .int x8), (0, .ref (h 0)), (1, .int v1)]) hx hb d_Md_write_91 rfl hl (by decide) rfl (fun ls hl => ?_)
        refine lv_iload_n hx hb d_Md_write_92 rfl (lv_at hl 1 rfl) ?_
        refine lv_bipush (v := 10) hx hb d_Md_write_93 (by decide) ?_
        refine lv_icmp_ge (tgt := 107) hx hb d_Md_write_95 (by decide) (fun hc => ?_) (fun hc => ?_)
        · have hF := fx_it hc hF
          refine lv_aload_n hx hb d_Md_write_107 rfl (lv_at hl 2 rfl) ?_
          refine lv_iload_n hx hb d_Md_write_108 rfl (lv_at hl 3 rfl) ?_
          refine lv_iload_n hx hb d_Md_write_109 rfl (lv_at hl 0 rfl) ?_
          refine lv_iload_n hx hb d_Md_write_110 rfl (lv_at hl 1 rfl) ?_
          refine lv_bipush (v := 11) hx hb d_Md_write_111 (by decide) ?_
          refine lv_icmp_eq (tgt := 126) hx hb d_Md_write_113 (by decide) (fun hc => ?_) (fun hc => ?_)
          · have hF := fx_it hc hF
            exact h126 v1 x10 v1 _ _ _ _ hF hw (lv_sub hl [2, 3] rfl)
          · have hF := fx_if hc hF
            refine lv_aload_n hx hb d_Md_write_116 rfl (lv_at hl 2 rfl) ?_
            refine gR_Md_nodeKind X hw lk_Md_32 d_Md_write_117 ?_
            refine lv_iload_n hx hb d_Md_write_120 rfl (lv_at hl 0 rfl) ?_
            refine lA_Md_nodeKind X hw d_Md_write_121 hF (fun x11 hF => ?_)
            refine lv_iconst (v := 3) hx hb d_Md_write_122 (by decide) ?_
            refine lv_icmp_lt (tgt := 130) hx hb d_Md_write_123 (by decide) (fun hc => ?_) (fun hc => ?_)
            · have hF := fx_it hc hF
              refine lv_iconst (v := 0) hx hb d_Md_write_130 (by decide) ?_
              exact h131 v1 0 x10 v1 _ _ _ _ hF hw (lv_sub hl [2, 3] rfl)
            · have hF := fx_if hc hF
              exact h126 v1 x10 v1 _ _ _ _ hF hw (lv_sub hl [2, 3] rfl)
        · have hF := fx_if hc hF
          refine lv_aload_n hx hb d_Md_write_98 rfl (lv_at hl 2 rfl) ?_
          refine lv_iload_n hx hb d_Md_write_99 rfl (lv_at hl 1 rfl) ?_
          refine lv_iload_n hx hb d_Md_write_100 rfl (lv_at hl 0 rfl) ?_
          refine k_Md_put X hw lk_Md_250 d_Md_write_101 hl.1 (lv_room (Nat.le_of_ble_eq_true rfl)) ⟨Nat.le_of_ble_eq_true rfl, Nat.le_of_ble_eq_true rfl⟩ ⟨Nat.zero_le _, Nat.zero_le _⟩ hF (fun σ H locs hF hw => ?_)
          refine lv_goto (tgt := 134) hx hb d_Md_write_104 (by decide) ?_
          exact h134 v1 _ _ _ _ hF hw (lv_sub hl [2, 3] rfl)
  have h25 : ∀ (v1 : Int32) (t0 : Int32) (σ : fx_S) (H : Heap) (locs : List Loc) (ls : Array Slot), F_Md_write_J25 v1 t0 σ = some res → fx_B D fx_cl (rf_ws h cA) A s.heap σ H locs → lv_has ls 4 [(0, .ref (h 0)), (1, .int v1)] → W p l e { frames := 5, cells := 0, slots := 0, locals := 120 } s m args below meth c H locs 0 0 Q (F0 m 25 ls [.int t0, .ref (h 0)]) := by
    intro v1 t0 σ H locs ls hF hw hl
    unfold F_Md_write_J25 at hF
    refine k_Md_isGood X hw lk_Md_124 d_Md_write_25 hl.1 (lv_room (Nat.le_of_ble_eq_true rfl)) ⟨Nat.le_of_ble_eq_true rfl, Nat.le_of_ble_eq_true rfl⟩ ⟨Nat.zero_le _, Nat.zero_le _⟩ hF (fun x3 σ H locs hF hw => ?_)
    refine lv_if_ne (tgt := 33) hx hb d_Md_write_28 (by decide) (fun hc => ?_) (fun hc => ?_)
    · have hF := fx_if hc hF
      refine lv_aload_n hx hb d_Md_write_33 rfl (lv_at hl 0 rfl) ?_
      refine lv_iconst (v := 1) hx hb d_Md_write_34 (by decide) ?_
      refine pI_Md_isWritten X hw lk_Md_247 d_Md_write_35 hF (fun σ H locs hF hw => ?_)
      refine lv_aload_n hx hb d_Md_write_38 rfl (lv_at hl 0 rfl) ?_
      refine lv_iconst (v := 0) hx hb d_Md_write_39 (by decide) ?_
      refine pI_Md_wrote X hw lk_Md_234 d_Md_write_40 hF (fun σ H locs hF hw => ?_)
      refine lv_aload_n hx hb d_Md_write_43 rfl (lv_at hl 0 rfl) ?_
      refine lv_iconst (v := 0) hx hb d_Md_write_44 (by decide) ?_
      refine pI_Md_dues X hw lk_Md_237 d_Md_write_45 hF (fun σ H locs hF hw => ?_)
      refine lv_aload_n hx hb d_Md_write_48 rfl (lv_at hl 0 rfl) ?_
      refine lv_bipush (v := 10) hx hb d_Md_write_49 (by decide) ?_
      refine lv_iconst (v := 0) hx hb d_Md_write_51 (by decide) ?_
      refine k_Md_due X hw lk_Md_244 d_Md_write_52 hl.1 (lv_room (Nat.le_of_ble_eq_true rfl)) ⟨Nat.le_of_ble_eq_true rfl, Nat.le_of_ble_eq_true rfl⟩ ⟨Nat.zero_le _, Nat.zero_le _⟩ hF (fun σ H locs hF hw => ?_)
      exact h55 fx_fuel v1 _ _ _ _ hF hw (lv_sub hl [0, 1] rfl)
    · have hF := fx_it hc hF
      refine lv_iconst (v := 0) hx hb d_Md_write_31 (by decide) ?_
      exact hend _ _ _ _ _ _ d_Md_write_32 hF hw
  refine lv_aload_n hx hb d_Md_write_0 rfl (lv_at hl 0 rfl) ?_
  refine lv_aload_n hx hb d_Md_write_1 rfl (lv_at hl 0 rfl) ?_
  refine lv_iload_n hx hb d_Md_write_2 rfl (lv_at hl 1 rfl) ?_
  refine k_Md_isScope X hw lk_Md_120 d_Md_write_3 hl.1 (lv_room (Nat.le_of_ble_eq_true rfl)) ⟨Nat.le_of_ble_eq_true rfl, Nat.le_of_ble_eq_true rfl⟩ ⟨Nat.zero_le _, Nat.zero_le _⟩ hF (fun x1 σ H locs hF hw => ?_)
  refine lv_if_ne (tgt := 13) hx hb d_Md_write_6 (by decide) (fun hc => ?_) (fun hc => ?_)
  · have hF := fx_if hc hF
    refine lv_aload_n hx hb d_Md_write_13 rfl (lv_at hl 0 rfl) ?_
    refine gI_Md_treeSize X hw lk_Md_222 d_Md_write_14 hF (fun x2 hF => ?_)
    refine lv_if_ne (tgt := 24) hx hb d_Md_write_17 (by decide) (fun hc => ?_) (fun hc => ?_)
    · have hF := fx_if hc hF
      refine lv_iconst (v := 0) hx hb d_Md_write_24 (by decide) ?_
      exact h25 v1 0 _ _ _ _ hF hw (lv_sub hl [0, 1] rfl)
    · have hF := fx_it hc hF
      refine lv_iconst (v := 2) hx hb d_Md_write_20 (by decide) ?_
      refine lv_goto (tgt := 25) hx hb d_Md_write_21 (by decide) ?_
      exact h25 v1 2 _ _ _ _ hF hw (lv_sub hl [0, 1] rfl)
  · have hF := fx_it hc hF
    refine lv_iconst (v := 1) hx hb d_Md_write_9 (by decide) ?_
    refine lv_goto (tgt := 25) hx hb d_Md_write_10 (by decide) ?_
    exact h25 v1 1 _ _ _ _ hF hw (lv_sub hl [0, 1] rfl)
section
variable {p : Program} {l : Launch} {e : Env} {R : Room} {s : State} {m : MethodId} {args : Array Value} {below : List Frame} {meth : Method} {c : Code} {H : Heap} {locs : List Loc} {cells slots : Nat} {Q : State → Prop}
variable {cc : ByteArray} {pc nL ix : Nat} {ls : Array Slot} {rest : List Value} {own : String} {D : va_G} {A : Nat → Prop} {h : Nat → Nat} {cA : Nat → ClassId} {σ : fx_S} {β : Type} {res : β × fx_S}
theorem k_Md_write {v1 : Int32} (X : fx_X p m c cc nL s args own D fx_cl (fx_tys cA) fx_g fx_G A) (hw : fx_B D fx_cl (rf_ws h cA) A s.heap σ H locs) (lk : Cond.methodLink own ix y_Md_write ∈ fx_g) (hdg : decode cc pc = .ok (.invokevirtual ix, 3)) (hsize : ls.size = nL) (hW : 2 * (F0 m pc ls (.int v1 :: .ref (h 0) :: rest)).monitorRoom + (rest.map fun v => v.category).sum ≤ 8) (hR : 5 + 1 ≤ R.frames ∧ 8 + (4 + 11) + 120 ≤ R.locals) (hf : cells ≤ R.cells ∧ slots ≤ R.slots) {k : Int32 → fx_M β} (hF : fx_bnd (F_Md_write v1) k σ = some res) (kk : ∀ (r : Int32) (σ' : fx_S) (H' : Heap) (locs' : List Loc), k r σ' = some res → fx_B D fx_cl (rf_ws h cA) A s.heap σ' H' locs' → W p l e R s m args below meth c H' locs' cells slots Q (F0 m (pc + 3) ls (.int r :: rest))) : W p l e R s m args below meth c H locs cells slots Q (F0 m pc ls (.int v1 :: .ref (h 0) :: rest)) :=
  fx_call_i X hw (c_Md_write l D h cA v1) (fx_cwV X lk hg_Md_write fx_gok (rm := { frames := 5, cells := 0, slots := 0, locals := 120 }) rfl rfl (by decide +kernel) hR) (va_recv X.2.1 hw.1 (ci := 8) (q0 := 0) rfl rfl) (n := 1) rfl hdg hsize rfl hW hf hF kk
end
set_option maxHeartbeats 4000000 in
set_option maxRecDepth 100000 in
theorem c_Md_written (l : Launch) (D : va_G) (h : Nat → Nat) (cA : Nat → ClassId) (v1 : Int32) (v2 : Int32) : fx_Mi l y_Md_written b_Md_written 3 (some .int) { frames := 1, cells := 0, slots := 0, locals := 22 } D fx_cl (fx_tys cA) fx_g fx_G (rf_ws h cA) [.ref (h 0), .int v1, .int v2] (F_Md_written v1 v2) := by
  refine fx_start_i fx_G_ok (by decide) (Nat.le_of_ble_eq_true rfl) ?_
  intro p e s m args below meth c A ls σ res Q hF X hw hl hend
  have hx := X.1.1
  have hb := X.1.2.1
  have hl : lv_has ls 3 [(0, .ref (h 0)), (1, .int v1), (2, .int v2)] := hl
  unfold F_Md_written at hF
  have h40 : ∀ (v1 : Int32) (v2 : Int32) (t0 : Int32) (σ : fx_S) (H : Heap) (locs : List Loc) (ls : Array Slot), F_Md_written_J40 v1 v2 t0 σ = some res → fx_B D fx_cl (rf_ws h cA) A s.heap σ H locs → lv_has ls 3 [(0, .ref (h 0)), (1, .int v1), (2, .int v2)] → W p l e { frames := 1, cells := 0, slots := 0, locals := 22 } s m args below meth c H locs 0 0 Q (F0 m 40 ls [.int t0, .ref (h 0)]) := by
    intro v1 v2 t0 σ H locs ls hF hw hl
    unfold F_Md_written_J40 at hF
    refine k_Md_isGood X hw lk_Md_124 d_Md_written_40 hl.1 (lv_room (Nat.le_of_ble_eq_true rfl)) ⟨Nat.le_of_ble_eq_true rfl, Nat.le_of_ble_eq_true rfl⟩ ⟨Nat.zero_le _, Nat.zero_le _⟩ hF (fun x2 σ H locs hF hw => ?_)
    refine lv_if_ne (tgt := 48) hx hb d_Md_written_43 (by decide) (fun hc => ?_) (fun hc => ?_)
    · have hF := fx_if hc hF
      refine lv_iload_n hx hb d_Md_written_48 rfl (lv_at hl 2 rfl) ?_
      refine lv_if_ne (tgt := 61) hx hb d_Md_written_49 (by decide) (fun hc => ?_) (fun hc => ?_)
      · have hF := fx_if hc hF
        refine lv_iload_n hx hb d_Md_written_61 rfl (lv_at hl 2 rfl) ?_
        refine lv_iconst (v := 1) hx hb d_Md_written_62 (by decide) ?_
        refine lv_icmp_ne (tgt := 75) hx hb d_Md_written_63 (by decide) (fun hc => ?_) (fun hc => ?_)
        · have hF := fx_if hc hF
          refine lv_aload_n hx hb d_Md_written_75 rfl (lv_at hl 0 rfl) ?_
          refine gR_Md_wroteNode X hw lk_Md_94 d_Md_written_76 ?_
          refine lv_iload_n hx hb d_Md_written_79 rfl (lv_at hl 1 rfl) ?_
          refine lA_Md_wroteNode X hw d_Md_written_80 hF (fun x3 hF => ?_)
          exact hend _ _ _ _ _ _ d_Md_written_81 hF hw
        · have hF := fx_it hc hF
          refine lv_aload_n hx hb d_Md_written_66 rfl (lv_at hl 0 rfl) ?_
          refine gR_Md_wroteOperator X hw lk_Md_91 d_Md_written_67 ?_
          refine lv_iload_n hx hb d_Md_written_70 rfl (lv_at hl 1 rfl) ?_
          refine lA_Md_wroteOperator X hw d_Md_written_71 hF (fun x4 hF => ?_)
          refine lv_goto (tgt := 81) hx hb d_Md_written_72 (by decide) ?_
          exact hend _ _ _ _ _ _ d_Md_written_81 hF hw
      · have hF := fx_it hc hF
        refine lv_aload_n hx hb d_Md_written_52 rfl (lv_at hl 0 rfl) ?_
        refine gR_Md_wroteKind X hw lk_Md_88 d_Md_written_53 ?_
        refine lv_iload_n hx hb d_Md_written_56 rfl (lv_at hl 1 rfl) ?_
        refine lA_Md_wroteKind X hw d_Md_written_57 hF (fun x5 hF => ?_)
        refine lv_goto (tgt := 81) hx hb d_Md_written_58 (by decide) ?_
        exact hend _ _ _ _ _ _ d_Md_written_81 hF hw
    · have hF := fx_it hc hF
      refine lv_iconst (v := 0) hx hb d_Md_written_46 (by decide) ?_
      exact hend _ _ _ _ _ _ d_Md_written_47 hF hw
  have h22 : ∀ (v1 : Int32) (v2 : Int32) (σ : fx_S) (H : Heap) (locs : List Loc) (ls : Array Slot), F_Md_written_J22 v1 v2 σ = some res → fx_B D fx_cl (rf_ws h cA) A s.heap σ H locs → lv_has ls 3 [(0, .ref (h 0)), (1, .int v1), (2, .int v2)] → W p l e { frames := 1, cells := 0, slots := 0, locals := 22 } s m args below meth c H locs 0 0 Q (F0 m 22 ls [.ref (h 0)]) := by
    intro v1 v2 σ H locs ls hF hw hl
    unfold F_Md_written_J22 at hF
    refine lv_iconst (v := 1) hx hb d_Md_written_22 (by decide) ?_
    refine lv_goto (tgt := 40) hx hb d_Md_written_23 (by decide) ?_
    exact h40 v1 v2 1 _ _ _ _ hF hw (lv_sub hl [0, 1, 2] rfl)
  refine lv_aload_n hx hb d_Md_written_0 rfl (lv_at hl 0 rfl) ?_
  refine lv_aload_n hx hb d_Md_written_1 rfl (lv_at hl 0 rfl) ?_
  refine gI_Md_isWritten X hw lk_Md_247 d_Md_written_2 hF (fun x1 hF => ?_)
  refine lv_if_eq (tgt := 22) hx hb d_Md_written_5 (by decide) (fun hc => ?_) (fun hc => ?_)
  · have hF := fx_it hc hF
    exact h22 v1 v2 _ _ _ _ hF hw (lv_sub hl [0, 1, 2] rfl)
  · have hF := fx_if hc hF
    refine lv_iload_n hx hb d_Md_written_8 rfl (lv_at hl 1 rfl) ?_
    refine lv_iconst (v := 0) hx hb d_Md_written_9 (by decide) ?_
    refine lv_aload_n hx hb d_Md_written_10 rfl (lv_at hl 0 rfl) ?_
    refine gI_Md_wrote X hw lk_Md_234 d_Md_written_11 hF (fun x6 hF => ?_)
    refine lv_iconst (v := 1) hx hb d_Md_written_14 (by decide) ?_
    refine lv_isub hx hb d_Md_written_15 ?_
    refine k_Md_isIn X hw lk_Md_116 d_Md_written_16 hl.1 (lv_room (Nat.le_of_ble_eq_true rfl)) ⟨Nat.le_of_ble_eq_true rfl, Nat.le_of_ble_eq_true rfl⟩ ⟨Nat.zero_le _, Nat.zero_le _⟩ hF (fun x7 σ H locs hF hw => ?_)
    refine lv_if_ne (tgt := 26) hx hb d_Md_written_19 (by decide) (fun hc => ?_) (fun hc => ?_)
    · have hF := fx_if hc hF
      refine lv_iload_n hx hb d_Md_written_26 rfl (lv_at hl 2 rfl) ?_
      refine lv_iconst (v := 0) hx hb d_Md_written_27 (by decide) ?_
      refine lv_iconst (v := 2) hx hb d_Md_written_28 (by decide) ?_
      refine k_Md_isIn X hw lk_Md_116 d_Md_written_29 hl.1 (lv_room (Nat.le_of_ble_eq_true rfl)) ⟨Nat.le_of_ble_eq_true rfl, Nat.le_of_ble_eq_true rfl⟩ ⟨Nat.zero_le _, Nat.zero_le _⟩ hF (fun x8 σ H locs hF hw => ?_)
      refine lv_if_ne (tgt := 39) hx hb d_Md_written_32 (by decide) (fun hc => ?_) (fun hc => ?_)
      · have hF := fx_if hc hF
        refine lv_iconst (v := 0) hx hb d_Md_written_39 (by decide) ?_
        exact h40 v1 v2 0 _ _ _ _ hF hw (lv_sub hl [0, 1, 2] rfl)
      · have hF := fx_it hc hF
        refine lv_iconst (v := 2) hx hb d_Md_written_35 (by decide) ?_
        refine lv_goto (tgt := 40) hx hb d_Md_written_36 (by decide) ?_
        exact h40 v1 v2 2 _ _ _ _ hF hw (lv_sub hl [0, 1, 2] rfl)
    · have hF := fx_it hc hF
      exact h22 v1 v2 _ _ _ _ hF hw (lv_sub hl [0, 1, 2] rfl)
section
variable {p : Program} {l : Launch} {e : Env} {R : Room} {s : State} {m : MethodId} {args : Array Value} {below : List Frame} {meth : Method} {c : Code} {H : Heap} {locs : List Loc} {cells slots : Nat} {Q : State → Prop}
variable {cc : ByteArray} {pc nL ix : Nat} {ls : Array Slot} {rest : List Value} {own : String} {D : va_G} {A : Nat → Prop} {h : Nat → Nat} {cA : Nat → ClassId} {σ : fx_S} {β : Type} {res : β × fx_S}
theorem k_Md_written {v1 : Int32} {v2 : Int32} (X : fx_X p m c cc nL s args own D fx_cl (fx_tys cA) fx_g fx_G A) (hw : fx_B D fx_cl (rf_ws h cA) A s.heap σ H locs) (lk : Cond.methodLink own ix y_Md_written ∈ fx_g) (hdg : decode cc pc = .ok (.invokevirtual ix, 3)) (hsize : ls.size = nL) (hW : 2 * (F0 m pc ls (.int v2 :: .int v1 :: .ref (h 0) :: rest)).monitorRoom + (rest.map fun v => v.category).sum ≤ 8) (hR : 1 + 1 ≤ R.frames ∧ 8 + (3 + 11) + 22 ≤ R.locals) (hf : cells ≤ R.cells ∧ slots ≤ R.slots) {k : Int32 → fx_M β} (hF : fx_bnd (F_Md_written v1 v2) k σ = some res) (kk : ∀ (r : Int32) (σ' : fx_S) (H' : Heap) (locs' : List Loc), k r σ' = some res → fx_B D fx_cl (rf_ws h cA) A s.heap σ' H' locs' → W p l e R s m args below meth c H' locs' cells slots Q (F0 m (pc + 3) ls (.int r :: rest))) : W p l e R s m args below meth c H locs cells slots Q (F0 m pc ls (.int v2 :: .int v1 :: .ref (h 0) :: rest)) :=
  fx_call_i X hw (c_Md_written l D h cA v1 v2) (fx_cwV X lk hg_Md_written fx_gok (rm := { frames := 1, cells := 0, slots := 0, locals := 22 }) rfl rfl (by decide +kernel) hR) (va_recv X.2.1 hw.1 (ci := 8) (q0 := 0) rfl rfl) (n := 2) rfl hdg hsize rfl hW hf hF kk
end
set_option maxHeartbeats 4000000 in
set_option maxRecDepth 100000 in
theorem c_Md_take (l : Launch) (D : va_G) (h : Nat → Nat) (cA : Nat → ClassId) : fx_Mi l y_Md_take b_Md_take 5 (some .int) { frames := 1, cells := 0, slots := 0, locals := 24 } D fx_cl (fx_tys cA) fx_g fx_G (rf_ws h cA) [.ref (h 0)] (F_Md_take) := by
  refine fx_start_i fx_G_ok (by decide) (Nat.le_of_ble_eq_true rfl) ?_
  intro p e s m args below meth c A ls σ res Q hF X hw hl hend
  have hx := X.1.1
  have hb := X.1.2.1
  have hl : lv_has ls 5 [(0, .ref (h 0))] := hl
  unfold F_Md_take at hF
  have h117 : ∀ (n117 : Nat) (v3 : Int32) (σ : fx_S) (H : Heap) (locs : List Loc) (ls : Array Slot), fx_loop1 (F_Md_take_B117) n117 v3 σ = some res → fx_B D fx_cl (rf_ws h cA) A s.heap σ H locs → lv_has ls 5 [(0, .ref (h 0)), (3, .int v3)] → W p l e { frames := 1, cells := 0, slots := 0, locals := 24 } s m args below meth c H locs 0 0 Q (F0 m 117 ls []) := by
    intro n117
    induction n117 with
    | zero => intro v3 σ H locs ls hF; cases hF
    | succ n117 ih117 =>
      obtain ⟨K117, eK117⟩ : ∃ K, K = fx_loop1 (F_Md_take_B117) n117 := ⟨_, rfl⟩
      rw [← eK117] at ih117
      intro v3 σ H locs ls hF hw hl
      replace hF : F_Md_take_B117 (fx_loop1 (F_Md_take_B117) n117) v3 σ = some res := hF
      rw [← eK117] at hF
      unfold F_Md_take_B117 at hF
      refine lv_iload_n hx hb d_Md_take_117 rfl (lv_at hl 1 rfl) ?_
      refine lv_aload_n hx hb d_Md_take_118 rfl (lv_at hl 0 rfl) ?_
      refine gI_Md_wrote X hw lk_Md_234 d_Md_take_119 hF (fun x4 hF => ?_)
      refine lv_icmp_ge (tgt := 155) hx hb d_Md_take_122 (by decide) (fun hc => ?_) (fun hc => ?_)
      · have hF := fx_it hc hF
        refine lv_aload_n hx hb d_Md_take_155 rfl (lv_at hl 0 rfl) ?_
        refine gI_Md_count X hw lk_Md_140 d_Md_take_156 hF (fun x5 hF => ?_)
        exact hend _ _ _ _ _ _ d_Md_take_159 hF hw
      · have hF := fx_if hc hF
        refine lv_aload_n hx hb d_Md_take_125 rfl (lv_at hl 0 rfl) ?_
        refine lv_aload_n hx hb d_Md_take_126 rfl (lv_at hl 0 rfl) ?_
        refine gR_Md_wroteKind X hw lk_Md_88 d_Md_take_127 ?_
        refine lv_iload_n hx hb d_Md_take_130 rfl (lv_at hl 1 rfl) ?_
        refine lA_Md_wroteKind X hw d_Md_take_131 hF (fun x6 hF => ?_)
        refine lv_aload_n hx hb d_Md_take_132 rfl (lv_at hl 0 rfl) ?_
        refine gR_Md_wroteOperator X hw lk_Md_91 d_Md_take_133 ?_
        refine lv_iload_n hx hb d_Md_take_136 rfl (lv_at hl 1 rfl) ?_
        refine lA_Md_wroteOperator X hw d_Md_take_137 hF (fun x7 hF => ?_)
        refine lv_aload_n hx hb d_Md_take_138 rfl (lv_at hl 0 rfl) ?_
        refine gR_Md_wroteNumber X hw lk_Md_97 d_Md_take_139 ?_
        refine lv_iload_n hx hb d_Md_take_142 rfl (lv_at hl 1 rfl) ?_
        refine lA_Md_wroteNumber X hw d_Md_take_143 hF (fun x8 hF => ?_)
        refine k_Md_add X hw lk_Md_158 d_Md_take_144 hl.1 (lv_room (Nat.le_of_ble_eq_true rfl)) ⟨Nat.le_of_ble_eq_true rfl, Nat.le_of_ble_eq_true rfl⟩ ⟨Nat.zero_le _, Nat.zero_le _⟩ hF (fun x9 σ H locs hF hw => ?_)
        refine lv_istore (lv' := [(4, .int x9), (0, .ref (h 0)), (3, .int v3)]) hx hb d_Md_take_147 hl (by decide) rfl (fun ls hl => ?_)
        refine fx_iinc (lv' := fun x10 => [(3, .int x10), (4, .int x9), (0, .ref (h 0))]) hx hb d_Md_take_149 hl (k := 2) rfl rfl (by decide) (fun _ => rfl) hF (fun x10 ls hF hl => ?_)
        refine lv_goto (tgt := 117) hx hb d_Md_take_152 (by decide) ?_
        exact ih117 x10 _ _ _ _ hF hw (lv_sub hl [2, 0] rfl)
  have h92 : ∀ (t0 : Int32) (σ : fx_S) (H : Heap) (locs : List Loc) (ls : Array Slot), F_Md_take_J92 t0 σ = some res → fx_B D fx_cl (rf_ws h cA) A s.heap σ H locs → lv_has ls 5 [(0, .ref (h 0))] → W p l e { frames := 1, cells := 0, slots := 0, locals := 24 } s m args below meth c H locs 0 0 Q (F0 m 92 ls [.int t0, .ref (h 0)]) := by
    intro t0 σ H locs ls hF hw hl
    unfold F_Md_take_J92 at hF
    refine k_Md_isGood X hw lk_Md_124 d_Md_take_92 hl.1 (lv_room (Nat.le_of_ble_eq_true rfl)) ⟨Nat.le_of_ble_eq_true rfl, Nat.le_of_ble_eq_true rfl⟩ ⟨Nat.zero_le _, Nat.zero_le _⟩ hF (fun x3 σ H locs hF hw => ?_)
    refine lv_if_ne (tgt := 100) hx hb d_Md_take_95 (by decide) (fun hc => ?_) (fun hc => ?_)
    · have hF := fx_if hc hF
      refine lv_aload_n hx hb d_Md_take_100 rfl (lv_at hl 0 rfl) ?_
      refine lv_iconst (v := 0) hx hb d_Md_take_101 (by decide) ?_
      refine pI_Md_count X hw lk_Md_140 d_Md_take_102 hF (fun σ H locs hF hw => ?_)
      refine lv_aload_n hx hb d_Md_take_105 rfl (lv_at hl 0 rfl) ?_
      refine lv_iconst (v := 0) hx hb d_Md_take_106 (by decide) ?_
      refine pI_Md_opened X hw lk_Md_143 d_Md_take_107 hF (fun σ H locs hF hw => ?_)
      refine lv_aload_n hx hb d_Md_take_110 rfl (lv_at hl 0 rfl) ?_
      refine lv_iconst (v := 0) hx hb d_Md_take_111 (by decide) ?_
      refine pI_Md_isPattern X hw lk_Md_146 d_Md_take_112 hF (fun σ H locs hF hw => ?_)
      refine lv_iconst (v := 0) hx hb d_Md_take_115 (by decide) ?_
      refine lv_istore_n (lv' := [(3, .int 0), (0, .ref (h 0))]) hx hb d_Md_take_116 rfl hl (by decide) rfl (fun ls hl => ?_)
      exact h117 fx_fuel 0 _ _ _ _ hF hw (lv_sub hl [1, 0] rfl)
    · have hF := fx_it hc hF
      refine lv_iconst (v := 0) hx hb d_Md_take_98 (by decide) ?_
      exact hend _ _ _ _ _ _ d_Md_take_99 hF hw
  have h87 : ∀ (σ : fx_S) (H : Heap) (locs : List Loc) (ls : Array Slot), F_Md_take_J87 σ = some res → fx_B D fx_cl (rf_ws h cA) A s.heap σ H locs → lv_has ls 5 [(0, .ref (h 0))] → W p l e { frames := 1, cells := 0, slots := 0, locals := 24 } s m args below meth c H locs 0 0 Q (F0 m 87 ls [.ref (h 0)]) := by
    intro σ H locs ls hF hw hl
    unfold F_Md_take_J87 at hF
    refine lv_iconst (v := 1) hx hb d_Md_take_87 (by decide) ?_
    refine lv_goto (tgt := 92) hx hb d_Md_take_88 (by decide) ?_
    exact h92 1 _ _ _ _ hF hw (lv_sub hl [0] rfl)
  have h6 : ∀ (n6 : Nat) (v1 : Int32) (v2 : Int32) (v3 : Int32) (σ : fx_S) (H : Heap) (locs : List Loc) (ls : Array Slot), fx_loop3 (F_Md_take_B6) n6 v1 v2 v3 σ = some res → fx_B D fx_cl (rf_ws h cA) A s.heap σ H locs → lv_has ls 5 [(0, .ref (h 0)), (1, .int v1), (2, .int v2), (3, .int v3)] → W p l e { frames := 1, cells := 0, slots := 0, locals := 24 } s m args below meth c H locs 0 0 Q (F0 m 6 ls []) := by
    intro n6
    induction n6 with
    | zero => intro v1 v2 v3 σ H locs ls hF; cases hF
    | succ n6 ih6 =>
      obtain ⟨K6, eK6⟩ : ∃ K, K = fx_loop3 (F_Md_take_B6) n6 := ⟨_, rfl⟩
      rw [← eK6] at ih6
      have h56 : ∀ (v1 : Int32) (v3 : Int32) (t0 : Int32) (σ : fx_S) (H : Heap) (locs : List Loc) (ls : Array Slot), F_Md_take_J56 K6 v1 v3 t0 σ = some res → fx_B D fx_cl (rf_ws h cA) A s.heap σ H locs → lv_has ls 5 [(0, .ref (h 0)), (1, .int v1), (3, .int v3)] → W p l e { frames := 1, cells := 0, slots := 0, locals := 24 } s m args below meth c H locs 0 0 Q (F0 m 56 ls [.int t0]) := by
        intro v1 v3 t0 σ H locs ls hF hw hl
        unfold F_Md_take_J56 at hF
        refine lv_istore_n (lv' := [(2, .int t0), (0, .ref (h 0)), (1, .int v1), (3, .int v3)]) hx hb d_Md_take_56 rfl hl (by decide) rfl (fun ls hl => ?_)
        refine fx_iinc (lv' := fun x15 => [(3, .int x15), (2, .int t0), (0, .ref (h 0)), (1, .int v1)]) hx hb d_Md_take_57 hl (k := 3) rfl rfl (by decide) (fun _ => rfl) hF (fun x15 ls hF hl => ?_)
        refine lv_goto (tgt := 6) hx hb d_Md_take_60 (by decide) ?_
        exact ih6 v1 t0 x15 _ _ _ _ hF hw (lv_sub hl [2, 3, 1, 0] rfl)
      have h44 : ∀ (v2 : Int32) (v3 : Int32) (t0 : Int32) (t1 : Int32) (σ : fx_S) (H : Heap) (locs : List Loc) (ls : Array Slot), F_Md_take_J44 K6 v2 v3 t0 t1 σ = some res → fx_B D fx_cl (rf_ws h cA) A s.heap σ H locs → lv_has ls 5 [(0, .ref (h 0)), (2, .int v2), (3, .int v3)] → W p l e { frames := 1, cells := 0, slots := 0, locals := 24 } s m args below meth c H locs 0 0 Q (F0 m 44 ls [.int t0, .int t1]) := by
        intro v2 v3 t0 t1 σ H locs ls hF hw hl
        unfold F_Md_take_J44 at hF
        refine lv_iadd hx hb d_Md_take_44 ?_
        refine fx_topi hF (fun x14 hF => ?_)
        refine lv_istore_n (lv' := [(1, .int x14), (0, .ref (h 0)), (2, .int v2), (3, .int v3)]) hx hb d_Md_take_45 rfl hl (by decide) rfl (fun ls hl => ?_)
        refine lv_iload_n hx hb d_Md_take_46 rfl (lv_at hl 0 rfl) ?_
        refine lv_iload_n hx hb d_Md_take_47 rfl (lv_at hl 2 rfl) ?_
        refine lv_icmp_le (tgt := 55) hx hb d_Md_take_48 (by decide) (fun hc => ?_) (fun hc => ?_)
        · have hF := fx_it hc hF
          refine lv_iload_n hx hb d_Md_take_55 rfl (lv_at hl 2 rfl) ?_
          exact h56 x14 v3 v2 _ _ _ _ hF hw (lv_sub hl [1, 0, 3] rfl)
        · have hF := fx_if hc hF
          refine lv_iload_n hx hb d_Md_take_51 rfl (lv_at hl 0 rfl) ?_
          refine lv_goto (tgt := 56) hx hb d_Md_take_52 (by decide) ?_
          exact h56 x14 v3 x14 _ _ _ _ hF hw (lv_sub hl [1, 0, 3] rfl)
      intro v1 v2 v3 σ H locs ls hF hw hl
      replace hF : F_Md_take_B6 (fx_loop3 (F_Md_take_B6) n6) v1 v2 v3 σ = some res := hF
      rw [← eK6] at hF
      unfold F_Md_take_B6 at hF
      refine lv_iload_n hx hb d_Md_take_6 rfl (lv_at hl 3 rfl) ?_
      refine lv_aload_n hx hb d_Md_take_7 rfl (lv_at hl 0 rfl) ?_
      refine gI_Md_wrote X hw lk_Md_234 d_Md_take_8 hF (fun x1 hF => ?_)
      refine lv_icmp_ge (tgt := 63) hx hb d_Md_take_11 (by decide) (fun hc => ?_) (fun hc => ?_)
      · have hF := fx_it hc hF
        refine lv_aload_n hx hb d_Md_take_63 rfl (lv_at hl 0 rfl) ?_
        refine lv_aload_n hx hb d_Md_take_64 rfl (lv_at hl 0 rfl) ?_
        refine gI_Md_isWritten X hw lk_Md_247 d_Md_take_65 hF (fun x2 hF => ?_)
        refine lv_if_eq (tgt := 87) hx hb d_Md_take_68 (by decide) (fun hc => ?_) (fun hc => ?_)
        · have hF := fx_it hc hF
          exact h87 _ _ _ _ hF hw (lv_sub hl [0] rfl)
        · have hF := fx_if hc hF
          refine lv_aload_n hx hb d_Md_take_71 rfl (lv_at hl 0 rfl) ?_
          refine gI_Md_wrote X hw lk_Md_234 d_Md_take_72 hF (fun x11 hF => ?_)
          refine lv_sipush (v := 200) hx hb d_Md_take_75 (by decide) ?_
          refine lv_icmp_gt (tgt := 87) hx hb d_Md_take_78 (by decide) (fun hc => ?_) (fun hc => ?_)
          · have hF := fx_it hc hF
            exact h87 _ _ _ _ hF hw (lv_sub hl [0] rfl)
          · have hF := fx_if hc hF
            refine lv_iload_n hx hb d_Md_take_81 rfl (lv_at hl 2 rfl) ?_
            refine lv_bipush (v := 40) hx hb d_Md_take_82 (by decide) ?_
            refine lv_icmp_le (tgt := 91) hx hb d_Md_take_84 (by decide) (fun hc => ?_) (fun hc => ?_)
            · have hF := fx_it hc hF
              refine lv_iconst (v := 0) hx hb d_Md_take_91 (by decide) ?_
              exact h92 0 _ _ _ _ hF hw (lv_sub hl [0] rfl)
            · have hF := fx_if hc hF
              exact h87 _ _ _ _ hF hw (lv_sub hl [0] rfl)
      · have hF := fx_if hc hF
        refine lv_iload_n hx hb d_Md_take_14 rfl (lv_at hl 1 rfl) ?_
        refine lv_aload_n hx hb d_Md_take_15 rfl (lv_at hl 0 rfl) ?_
        refine gR_Md_wroteKind X hw lk_Md_88 d_Md_take_16 ?_
        refine lv_iload_n hx hb d_Md_take_19 rfl (lv_at hl 3 rfl) ?_
        refine lA_Md_wroteKind X hw d_Md_take_20 hF (fun x12 hF => ?_)
        refine lv_iconst (v := 3) hx hb d_Md_take_21 (by decide) ?_
        refine lv_icmp_ne (tgt := 29) hx hb d_Md_take_22 (by decide) (fun hc => ?_) (fun hc => ?_)
        · have hF := fx_if hc hF
          refine lv_aload_n hx hb d_Md_take_29 rfl (lv_at hl 0 rfl) ?_
          refine gR_Md_wroteKind X hw lk_Md_88 d_Md_take_30 ?_
          refine lv_iload_n hx hb d_Md_take_33 rfl (lv_at hl 3 rfl) ?_
          refine lA_Md_wroteKind X hw d_Md_take_34 hF (fun x13 hF => ?_)
          refine lv_iconst (v := 4) hx hb d_Md_take_35 (by decide) ?_
          refine lv_icmp_ne (tgt := 43) hx hb d_Md_take_36 (by decide) (fun hc => ?_) (fun hc => ?_)
          · have hF := fx_if hc hF
            refine lv_iconst (v := 0) hx hb d_Md_take_43 (by decide) ?_
            exact h44 v2 v3 0 v1 _ _ _ _ hF hw (lv_sub hl [0, 2, 3] rfl)
          · have hF := fx_it hc hF
            refine lv_iconst (v := (-1)) hx hb d_Md_take_39 (by decide) ?_
            refine lv_goto (tgt := 44) hx hb d_Md_take_40 (by decide) ?_
            exact h44 v2 v3 (-1) v1 _ _ _ _ hF hw (lv_sub hl [0, 2, 3] rfl)
        · have hF := fx_it hc hF
          refine lv_iconst (v := 1) hx hb d_Md_take_25 (by decide) ?_
          refine lv_goto (tgt := 44) hx hb d_Md_take_26 (by decide) ?_
          exact h44 v2 v3 1 v1 _ _ _ _ hF hw (lv_sub hl [0, 2, 3] rfl)
  refine lv_iconst (v := 0) hx hb d_Md_take_0 (by decide) ?_
  refine lv_istore_n (lv' := [(1, .int 0), (0, .ref (h 0))]) hx hb d_Md_take_1 rfl hl (by decide) rfl (fun ls hl => ?_)
  refine lv_iconst (v := 0) hx hb d_Md_take_2 (by decide) ?_
  refine lv_istore_n (lv' := [(2, .int 0), (1, .int 0), (0, .ref (h 0))]) hx hb d_Md_take_3 rfl hl (by decide) rfl (fun ls hl => ?_)
  refine lv_iconst (v := 0) hx hb d_Md_take_4 (by decide) ?_
  refine lv_istore_n (lv' := [(3, .int 0), (2, .int 0), (1, .int 0), (0, .ref (h 0))]) hx hb d_Md_take_5 rfl hl (by decide) rfl (fun ls hl => ?_)
  exact h6 fx_fuel 0 0 0 _ _ _ _ hF hw (lv_sub hl [3, 2, 1, 0] rfl)
section
variable {p : Program} {l : Launch} {e : Env} {R : Room} {s : State} {m : MethodId} {args : Array Value} {below : List Frame} {meth : Method} {c : Code} {H : Heap} {locs : List Loc} {cells slots : Nat} {Q : State → Prop}
variable {cc : ByteArray} {pc nL ix : Nat} {ls : Array Slot} {rest : List Value} {own : String} {D : va_G} {A : Nat → Prop} {h : Nat → Nat} {cA : Nat → ClassId} {σ : fx_S} {β : Type} {res : β × fx_S}
theorem k_Md_take (X : fx_X p m c cc nL s args own D fx_cl (fx_tys cA) fx_g fx_G A) (hw : fx_B D fx_cl (rf_ws h cA) A s.heap σ H locs) (lk : Cond.methodLink own ix y_Md_take ∈ fx_g) (hdg : decode cc pc = .ok (.invokevirtual ix, 3)) (hsize : ls.size = nL) (hW : 2 * (F0 m pc ls (.ref (h 0) :: rest)).monitorRoom + (rest.map fun v => v.category).sum ≤ 8) (hR : 1 + 1 ≤ R.frames ∧ 8 + (5 + 11) + 24 ≤ R.locals) (hf : cells ≤ R.cells ∧ slots ≤ R.slots) {k : Int32 → fx_M β} (hF : fx_bnd (F_Md_take) k σ = some res) (kk : ∀ (r : Int32) (σ' : fx_S) (H' : Heap) (locs' : List Loc), k r σ' = some res → fx_B D fx_cl (rf_ws h cA) A s.heap σ' H' locs' → W p l e R s m args below meth c H' locs' cells slots Q (F0 m (pc + 3) ls (.int r :: rest))) : W p l e R s m args below meth c H locs cells slots Q (F0 m pc ls (.ref (h 0) :: rest)) :=
  fx_call_i X hw (c_Md_take l D h cA) (fx_cwV X lk hg_Md_take fx_gok (rm := { frames := 1, cells := 0, slots := 0, locals := 24 }) rfl rfl (by decide +kernel) hR) (va_recv X.2.1 hw.1 (ci := 8) (q0 := 0) rfl rfl) (n := 0) rfl hdg hsize rfl hW hf hF kk
end
set_option maxHeartbeats 4000000 in
set_option maxRecDepth 100000 in
theorem c_Md_same (l : Launch) (D : va_G) (h : Nat → Nat) (cA : Nat → ClassId) (v1 : Int32) : fx_Mi l y_Md_same b_Md_same 6 (some .boolean) { frames := 5, cells := 0, slots := 0, locals := 128 } D fx_cl (fx_tys cA) fx_g fx_G (rf_ws h cA) [.ref (h 0), .int v1] (F_Md_same v1) := by
  refine fx_start_z fx_G_ok (by decide) (Nat.le_of_ble_eq_true rfl) ?_
  intro p e s m args below meth c A ls σ res Q hF X hw hl hend
  have hx := X.1.1
  have hb := X.1.2.1
  have hl : lv_has ls 6 [(0, .ref (h 0)), (1, .int v1)] := hl
  unfold F_Md_same at hF
  have h77 : ∀ (n77 : Nat) (v3 : Int32) (v4 : Int32) (σ : fx_S) (H : Heap) (locs : List Loc) (ls : Array Slot), fx_loop2 (F_Md_same_B77) n77 v3 v4 σ = some res → fx_B D fx_cl (rf_ws h cA) A s.heap σ H locs → lv_has ls 6 [(0, .ref (h 0)), (3, .int v3), (4, .int v4)] → W p l e { frames := 5, cells := 0, slots := 0, locals := 128 } s m args below meth c H locs 0 0 Q (F0 m 77 ls []) := by
    intro n77
    induction n77 with
    | zero => intro v3 v4 σ H locs ls hF; cases hF
    | succ n77 ih77 =>
      obtain ⟨K77, eK77⟩ : ∃ K, K = fx_loop2 (F_Md_same_B77) n77 := ⟨_, rfl⟩
      rw [← eK77] at ih77
      have h209 : ∀ (v4 : Int32) (t0 : Int32) (σ : fx_S) (H : Heap) (locs : List Loc) (ls : Array Slot), F_Md_same_J209 K77 v4 t0 σ = some res → fx_B D fx_cl (rf_ws h cA) A s.heap σ H locs → lv_has ls 6 [(0, .ref (h 0)), (4, .int v4)] → W p l e { frames := 5, cells := 0, slots := 0, locals := 128 } s m args below meth c H locs 0 0 Q (F0 m 209 ls [.int t0]) := by
        intro v4 t0 σ H locs ls hF hw hl
        unfold F_Md_same_J209 at hF
        refine lv_istore_n (lv' := [(3, .int t0), (0, .ref (h 0)), (4, .int v4)]) hx hb d_Md_same_209 rfl hl (by decide) rfl (fun ls hl => ?_)
        refine fx_iinc (lv' := fun x12 => [(4, .int x12), (3, .int t0), (0, .ref (h 0))]) hx hb d_Md_same_210 hl (k := 2) rfl rfl (by decide) (fun _ => rfl) hF (fun x12 ls hF hl => ?_)
        refine lv_goto (tgt := 77) hx hb d_Md_same_213 (by decide) ?_
        exact ih77 t0 x12 _ _ _ _ hF hw (lv_sub hl [2, 1, 0] rfl)
      have h208 : ∀ (v4 : Int32) (σ : fx_S) (H : Heap) (locs : List Loc) (ls : Array Slot), F_Md_same_J208 K77 v4 σ = some res → fx_B D fx_cl (rf_ws h cA) A s.heap σ H locs → lv_has ls 6 [(0, .ref (h 0)), (4, .int v4)] → W p l e { frames := 5, cells := 0, slots := 0, locals := 128 } s m args below meth c H locs 0 0 Q (F0 m 208 ls []) := by
        intro v4 σ H locs ls hF hw hl
        unfold F_Md_same_J208 at hF
        refine lv_iconst (v := 0) hx hb d_Md_same_208 (by decide) ?_
        exact h209 v4 0 _ _ _ _ hF hw (lv_sub hl [0, 1] rfl)
      have h204 : ∀ (v4 : Int32) (σ : fx_S) (H : Heap) (locs : List Loc) (ls : Array Slot), F_Md_same_J204 K77 v4 σ = some res → fx_B D fx_cl (rf_ws h cA) A s.heap σ H locs → lv_has ls 6 [(0, .ref (h 0)), (4, .int v4)] → W p l e { frames := 5, cells := 0, slots := 0, locals := 128 } s m args below meth c H locs 0 0 Q (F0 m 204 ls []) := by
        intro v4 σ H locs ls hF hw hl
        unfold F_Md_same_J204 at hF
        refine lv_iconst (v := 1) hx hb d_Md_same_204 (by decide) ?_
        refine lv_goto (tgt := 209) hx hb d_Md_same_205 (by decide) ?_
        exact h209 v4 1 _ _ _ _ hF hw (lv_sub hl [0, 1] rfl)
      have h171 : ∀ (v4 : Int32) (v5 : Int32) (t0 : Int32) (σ : fx_S) (H : Heap) (locs : List Loc) (ls : Array Slot), F_Md_same_J171 K77 v4 v5 t0 σ = some res → fx_B D fx_cl (rf_ws h cA) A s.heap σ H locs → lv_has ls 6 [(0, .ref (h 0)), (4, .int v4), (5, .int v5)] → W p l e { frames := 5, cells := 0, slots := 0, locals := 128 } s m args below meth c H locs 0 0 Q (F0 m 171 ls [.int t0]) := by
        intro v4 v5 t0 σ H locs ls hF hw hl
        unfold F_Md_same_J171 at hF
        refine lv_istore_n (lv' := [(3, .int t0), (0, .ref (h 0)), (4, .int v4), (5, .int v5)]) hx hb d_Md_same_171 rfl hl (by decide) rfl (fun ls hl => ?_)
        refine lv_iload_n hx hb d_Md_same_172 rfl (lv_at hl 0 rfl) ?_
        refine lv_if_eq (tgt := 208) hx hb d_Md_same_173 (by decide) (fun hc => ?_) (fun hc => ?_)
        · have hF := fx_it hc hF
          exact h208 v4 _ _ _ _ hF hw (lv_sub hl [1, 2] rfl)
        · have hF := fx_if hc hF
          refine lv_aload_n hx hb d_Md_same_176 rfl (lv_at hl 1 rfl) ?_
          refine gR_Md_nodeKind X hw lk_Md_32 d_Md_same_177 ?_
          refine lv_iload hx hb d_Md_same_180 (lv_at hl 2 rfl) ?_
          refine lA_Md_nodeKind X hw d_Md_same_182 hF (fun x13 hF => ?_)
          refine lv_if_ne (tgt := 204) hx hb d_Md_same_183 (by decide) (fun hc => ?_) (fun hc => ?_)
          · have hF := fx_if hc hF
            exact h204 v4 _ _ _ _ hF hw (lv_sub hl [1, 2] rfl)
          · have hF := fx_it hc hF
            refine lv_aload_n hx hb d_Md_same_186 rfl (lv_at hl 1 rfl) ?_
            refine gR_Md_nodeNumber X hw lk_Md_50 d_Md_same_187 ?_
            refine lv_iload hx hb d_Md_same_190 (lv_at hl 2 rfl) ?_
            refine lA_Md_nodeNumber X hw d_Md_same_192 hF (fun x14 hF => ?_)
            refine lv_aload_n hx hb d_Md_same_193 rfl (lv_at hl 1 rfl) ?_
            refine gR_Md_nodeNumber X hw lk_Md_50 d_Md_same_194 ?_
            refine lv_iload hx hb d_Md_same_197 (lv_at hl 3 rfl) ?_
            refine lA_Md_nodeNumber X hw d_Md_same_199 hF (fun x15 hF => ?_)
            refine W.lcmp hx hb d_Md_same_200 ?_
            refine lv_if_ne (tgt := 208) hx hb d_Md_same_201 (by decide) (fun hc => ?_) (fun hc => ?_)
            · have hF := fx_if hc hF
              exact h208 v4 _ _ _ _ hF hw (lv_sub hl [1, 2] rfl)
            · have hF := fx_it hc hF
              exact h204 v4 _ _ _ _ hF hw (lv_sub hl [1, 2] rfl)
      have h170 : ∀ (v4 : Int32) (v5 : Int32) (σ : fx_S) (H : Heap) (locs : List Loc) (ls : Array Slot), F_Md_same_J170 K77 v4 v5 σ = some res → fx_B D fx_cl (rf_ws h cA) A s.heap σ H locs → lv_has ls 6 [(0, .ref (h 0)), (4, .int v4), (5, .int v5)] → W p l e { frames := 5, cells := 0, slots := 0, locals := 128 } s m args below meth c H locs 0 0 Q (F0 m 170 ls []) := by
        intro v4 v5 σ H locs ls hF hw hl
        unfold F_Md_same_J170 at hF
        refine lv_iconst (v := 0) hx hb d_Md_same_170 (by decide) ?_
        exact h171 v4 v5 0 _ _ _ _ hF hw (lv_sub hl [0, 1, 2] rfl)
      intro v3 v4 σ H locs ls hF hw hl
      replace hF : F_Md_same_B77 (fx_loop2 (F_Md_same_B77) n77) v3 v4 σ = some res := hF
      rw [← eK77] at hF
      unfold F_Md_same_B77 at hF
      refine lv_iload hx hb d_Md_same_77 (lv_at hl 2 rfl) ?_
      refine lv_aload_n hx hb d_Md_same_79 rfl (lv_at hl 0 rfl) ?_
      refine gI_Md_treeSize X hw lk_Md_222 d_Md_same_80 hF (fun x8 hF => ?_)
      refine lv_icmp_ge (tgt := 216) hx hb d_Md_same_83 (by decide) (fun hc => ?_) (fun hc => ?_)
      · have hF := fx_it hc hF
        refine lv_iload_n hx hb d_Md_same_216 rfl (lv_at hl 1 rfl) ?_
        exact hend _ _ _ _ _ _ d_Md_same_217 hF hw
      · have hF := fx_if hc hF
        refine lv_iload_n hx hb d_Md_same_86 rfl (lv_at hl 1 rfl) ?_
        refine lv_if_eq (tgt := 216) hx hb d_Md_same_87 (by decide) (fun hc => ?_) (fun hc => ?_)
        · have hF := fx_it hc hF
          refine lv_iload_n hx hb d_Md_same_216 rfl (lv_at hl 1 rfl) ?_
          exact hend _ _ _ _ _ _ d_Md_same_217 hF hw
        · have hF := fx_if hc hF
          refine lv_sipush (v := 200) hx hb d_Md_same_90 (by decide) ?_
          refine lv_iload hx hb d_Md_same_93 (lv_at hl 2 rfl) ?_
          refine lv_iadd hx hb d_Md_same_95 ?_
          refine fx_topi hF (fun x9 hF => ?_)
          refine lv_istore (lv' := [(5, .int x9), (0, .ref (h 0)), (3, .int v3), (4, .int v4)]) hx hb d_Md_same_96 hl (by decide) rfl (fun ls hl => ?_)
          refine lv_aload_n hx hb d_Md_same_98 rfl (lv_at hl 1 rfl) ?_
          refine gR_Md_nodeKind X hw lk_Md_32 d_Md_same_99 ?_
          refine lv_iload hx hb d_Md_same_102 (lv_at hl 3 rfl) ?_
          refine lA_Md_nodeKind X hw d_Md_same_104 hF (fun x10 hF => ?_)
          refine lv_aload_n hx hb d_Md_same_105 rfl (lv_at hl 1 rfl) ?_
          refine gR_Md_nodeKind X hw lk_Md_32 d_Md_same_106 ?_
          refine lv_iload hx hb d_Md_same_109 (lv_at hl 0 rfl) ?_
          refine lA_Md_nodeKind X hw d_Md_same_111 hF (fun x11 hF => ?_)
          refine lv_icmp_ne (tgt := 170) hx hb d_Md_same_112 (by decide) (fun hc => ?_) (fun hc => ?_)
          · have hF := fx_if hc hF
            exact h170 v4 x9 _ _ _ _ hF hw (lv_sub hl [1, 3, 0] rfl)
          · have hF := fx_it hc hF
            refine lv_aload_n hx hb d_Md_same_115 rfl (lv_at hl 1 rfl) ?_
            refine gR_Md_nodeOperator X hw lk_Md_35 d_Md_same_116 ?_
            refine lv_iload hx hb d_Md_same_119 (lv_at hl 3 rfl) ?_
            refine lA_Md_nodeOperator X hw d_Md_same_121 hF (fun x16 hF => ?_)
            refine lv_aload_n hx hb d_Md_same_122 rfl (lv_at hl 1 rfl) ?_
            refine gR_Md_nodeOperator X hw lk_Md_35 d_Md_same_123 ?_
            refine lv_iload hx hb d_Md_same_126 (lv_at hl 0 rfl) ?_
            refine lA_Md_nodeOperator X hw d_Md_same_128 hF (fun x17 hF => ?_)
            refine lv_icmp_ne (tgt := 170) hx hb d_Md_same_129 (by decide) (fun hc => ?_) (fun hc => ?_)
            · have hF := fx_if hc hF
              exact h170 v4 x9 _ _ _ _ hF hw (lv_sub hl [1, 3, 0] rfl)
            · have hF := fx_it hc hF
              refine lv_aload_n hx hb d_Md_same_132 rfl (lv_at hl 1 rfl) ?_
              refine gR_Md_nodeFirst X hw lk_Md_38 d_Md_same_133 ?_
              refine lv_iload hx hb d_Md_same_136 (lv_at hl 3 rfl) ?_
              refine lA_Md_nodeFirst X hw d_Md_same_138 hF (fun x18 hF => ?_)
              refine lv_aload_n hx hb d_Md_same_139 rfl (lv_at hl 1 rfl) ?_
              refine gR_Md_nodeFirst X hw lk_Md_38 d_Md_same_140 ?_
              refine lv_iload hx hb d_Md_same_143 (lv_at hl 0 rfl) ?_
              refine lA_Md_nodeFirst X hw d_Md_same_145 hF (fun x19 hF => ?_)
              refine lv_icmp_ne (tgt := 170) hx hb d_Md_same_146 (by decide) (fun hc => ?_) (fun hc => ?_)
              · have hF := fx_if hc hF
                exact h170 v4 x9 _ _ _ _ hF hw (lv_sub hl [1, 3, 0] rfl)
              · have hF := fx_it hc hF
                refine lv_aload_n hx hb d_Md_same_149 rfl (lv_at hl 1 rfl) ?_
                refine gR_Md_nodeSecond X hw lk_Md_41 d_Md_same_150 ?_
                refine lv_iload hx hb d_Md_same_153 (lv_at hl 3 rfl) ?_
                refine lA_Md_nodeSecond X hw d_Md_same_155 hF (fun x20 hF => ?_)
                refine lv_aload_n hx hb d_Md_same_156 rfl (lv_at hl 1 rfl) ?_
                refine gR_Md_nodeSecond X hw lk_Md_41 d_Md_same_157 ?_
                refine lv_iload hx hb d_Md_same_160 (lv_at hl 0 rfl) ?_
                refine lA_Md_nodeSecond X hw d_Md_same_162 hF (fun x21 hF => ?_)
                refine lv_icmp_ne (tgt := 170) hx hb d_Md_same_163 (by decide) (fun hc => ?_) (fun hc => ?_)
                · have hF := fx_if hc hF
                  exact h170 v4 x9 _ _ _ _ hF hw (lv_sub hl [1, 3, 0] rfl)
                · have hF := fx_it hc hF
                  refine lv_iconst (v := 1) hx hb d_Md_same_166 (by decide) ?_
                  refine lv_goto (tgt := 171) hx hb d_Md_same_167 (by decide) ?_
                  exact h171 v4 x9 1 _ _ _ _ hF hw (lv_sub hl [1, 3, 0] rfl)
  have h73 : ∀ (t0 : Int32) (σ : fx_S) (H : Heap) (locs : List Loc) (ls : Array Slot), F_Md_same_J73 t0 σ = some res → fx_B D fx_cl (rf_ws h cA) A s.heap σ H locs → lv_has ls 6 [(0, .ref (h 0))] → W p l e { frames := 5, cells := 0, slots := 0, locals := 128 } s m args below meth c H locs 0 0 Q (F0 m 73 ls [.int t0]) := by
    intro t0 σ H locs ls hF hw hl
    unfold F_Md_same_J73 at hF
    refine lv_istore_n (lv' := [(3, .int t0), (0, .ref (h 0))]) hx hb d_Md_same_73 rfl hl (by decide) rfl (fun ls hl => ?_)
    refine lv_iconst (v := 0) hx hb d_Md_same_74 (by decide) ?_
    refine lv_istore (lv' := [(4, .int 0), (3, .int t0), (0, .ref (h 0))]) hx hb d_Md_same_75 hl (by decide) rfl (fun ls hl => ?_)
    exact h77 fx_fuel t0 0 _ _ _ _ hF hw (lv_sub hl [2, 1, 0] rfl)
  have h27 : ∀ (v1 : Int32) (t0 : Int32) (σ : fx_S) (H : Heap) (locs : List Loc) (ls : Array Slot), F_Md_same_J27 v1 t0 σ = some res → fx_B D fx_cl (rf_ws h cA) A s.heap σ H locs → lv_has ls 6 [(0, .ref (h 0)), (1, .int v1)] → W p l e { frames := 5, cells := 0, slots := 0, locals := 128 } s m args below meth c H locs 0 0 Q (F0 m 27 ls [.int t0, .ref (h 0)]) := by
    intro v1 t0 σ H locs ls hF hw hl
    unfold F_Md_same_J27 at hF
    refine k_Md_isGood X hw lk_Md_124 d_Md_same_27 hl.1 (lv_room (Nat.le_of_ble_eq_true rfl)) ⟨Nat.le_of_ble_eq_true rfl, Nat.le_of_ble_eq_true rfl⟩ ⟨Nat.zero_le _, Nat.zero_le _⟩ hF (fun x3 σ H locs hF hw => ?_)
    refine lv_if_ne (tgt := 35) hx hb d_Md_same_30 (by decide) (fun hc => ?_) (fun hc => ?_)
    · have hF := fx_if hc hF
      refine lv_aload_n hx hb d_Md_same_35 rfl (lv_at hl 0 rfl) ?_
      refine lv_iload_n hx hb d_Md_same_36 rfl (lv_at hl 1 rfl) ?_
      refine k_Md_goThrough X hw lk_Md_219 d_Md_same_37 hl.1 (lv_room (Nat.le_of_ble_eq_true rfl)) ⟨Nat.le_of_ble_eq_true rfl, Nat.le_of_ble_eq_true rfl⟩ ⟨Nat.zero_le _, Nat.zero_le _⟩ hF (fun x4 σ H locs hF hw => ?_)
      refine lv_if_ne (tgt := 45) hx hb d_Md_same_40 (by decide) (fun hc => ?_) (fun hc => ?_)
      · have hF := fx_if hc hF
        refine lv_aload_n hx hb d_Md_same_45 rfl (lv_at hl 0 rfl) ?_
        refine lv_aload_n hx hb d_Md_same_46 rfl (lv_at hl 0 rfl) ?_
        refine lv_iload_n hx hb d_Md_same_47 rfl (lv_at hl 1 rfl) ?_
        refine lv_sipush (v := 200) hx hb d_Md_same_48 (by decide) ?_
        refine k_Md_grow X hw lk_Md_228 d_Md_same_51 hl.1 (lv_room (Nat.le_of_ble_eq_true rfl)) ⟨Nat.le_of_ble_eq_true rfl, Nat.le_of_ble_eq_true rfl⟩ ⟨Nat.zero_le _, Nat.zero_le _⟩ hF (fun x5 σ H locs hF hw => ?_)
        refine pI_Md_otherSize X hw lk_Md_260 d_Md_same_54 hF (fun σ H locs hF hw => ?_)
        refine lv_aload_n hx hb d_Md_same_57 rfl (lv_at hl 0 rfl) ?_
        refine gI_Md_otherSize X hw lk_Md_260 d_Md_same_58 hF (fun x6 hF => ?_)
        refine lv_aload_n hx hb d_Md_same_61 rfl (lv_at hl 0 rfl) ?_
        refine gI_Md_treeSize X hw lk_Md_222 d_Md_same_62 hF (fun x7 hF => ?_)
        refine lv_icmp_ne (tgt := 72) hx hb d_Md_same_65 (by decide) (fun hc => ?_) (fun hc => ?_)
        · have hF := fx_if hc hF
          refine lv_iconst (v := 0) hx hb d_Md_same_72 (by decide) ?_
          exact h73 0 _ _ _ _ hF hw (lv_sub hl [0] rfl)
        · have hF := fx_it hc hF
          refine lv_iconst (v := 1) hx hb d_Md_same_68 (by decide) ?_
          refine lv_goto (tgt := 73) hx hb d_Md_same_69 (by decide) ?_
          exact h73 1 _ _ _ _ hF hw (lv_sub hl [0] rfl)
      · have hF := fx_it hc hF
        refine lv_iconst (v := 0) hx hb d_Md_same_43 (by decide) ?_
        exact hend _ _ _ _ _ _ d_Md_same_44 hF hw
    · have hF := fx_it hc hF
      refine lv_iconst (v := 0) hx hb d_Md_same_33 (by decide) ?_
      exact hend _ _ _ _ _ _ d_Md_same_34 hF hw
  refine lv_aload_n hx hb d_Md_same_0 rfl (lv_at hl 0 rfl) ?_
  refine lv_iload_n hx hb d_Md_same_1 rfl (lv_at hl 1 rfl) ?_
  refine k_Md_whyNot X hw lk_Md_215 d_Md_same_2 hl.1 (lv_room (Nat.le_of_ble_eq_true rfl)) ⟨Nat.le_of_ble_eq_true rfl, Nat.le_of_ble_eq_true rfl⟩ ⟨Nat.zero_le _, Nat.zero_le _⟩ hF (fun x1 σ H locs hF hw => ?_)
  refine lv_istore_n (lv' := [(2, .int x1), (0, .ref (h 0)), (1, .int v1)]) hx hb d_Md_same_5 rfl hl (by decide) rfl (fun ls hl => ?_)
  refine lv_aload_n hx hb d_Md_same_6 rfl (lv_at hl 1 rfl) ?_
  refine lv_iload_n hx hb d_Md_same_7 rfl (lv_at hl 0 rfl) ?_
  refine lv_if_le (tgt := 15) hx hb d_Md_same_8 (by decide) (fun hc => ?_) (fun hc => ?_)
  · have hF := fx_it hc hF
    refine lv_aload_n hx hb d_Md_same_15 rfl (lv_at hl 1 rfl) ?_
    refine gI_Md_treeSize X hw lk_Md_222 d_Md_same_16 hF (fun x2 hF => ?_)
    refine lv_if_ne (tgt := 26) hx hb d_Md_same_19 (by decide) (fun hc => ?_) (fun hc => ?_)
    · have hF := fx_if hc hF
      refine lv_iconst (v := 0) hx hb d_Md_same_26 (by decide) ?_
      exact h27 v1 0 _ _ _ _ hF hw (lv_sub hl [1, 2] rfl)
    · have hF := fx_it hc hF
      refine lv_iconst (v := 2) hx hb d_Md_same_22 (by decide) ?_
      refine lv_goto (tgt := 27) hx hb d_Md_same_23 (by decide) ?_
      exact h27 v1 2 _ _ _ _ hF hw (lv_sub hl [1, 2] rfl)
  · have hF := fx_if hc hF
    refine lv_iload_n hx hb d_Md_same_11 rfl (lv_at hl 0 rfl) ?_
    refine lv_goto (tgt := 27) hx hb d_Md_same_12 (by decide) ?_
    exact h27 v1 x1 _ _ _ _ hF hw (lv_sub hl [1, 2] rfl)
section
variable {p : Program} {l : Launch} {e : Env} {R : Room} {s : State} {m : MethodId} {args : Array Value} {below : List Frame} {meth : Method} {c : Code} {H : Heap} {locs : List Loc} {cells slots : Nat} {Q : State → Prop}
variable {cc : ByteArray} {pc nL ix : Nat} {ls : Array Slot} {rest : List Value} {own : String} {D : va_G} {A : Nat → Prop} {h : Nat → Nat} {cA : Nat → ClassId} {σ : fx_S} {β : Type} {res : β × fx_S}
theorem k_Md_same {v1 : Int32} (X : fx_X p m c cc nL s args own D fx_cl (fx_tys cA) fx_g fx_G A) (hw : fx_B D fx_cl (rf_ws h cA) A s.heap σ H locs) (lk : Cond.methodLink own ix y_Md_same ∈ fx_g) (hdg : decode cc pc = .ok (.invokevirtual ix, 3)) (hsize : ls.size = nL) (hW : 2 * (F0 m pc ls (.int v1 :: .ref (h 0) :: rest)).monitorRoom + (rest.map fun v => v.category).sum ≤ 8) (hR : 5 + 1 ≤ R.frames ∧ 8 + (6 + 11) + 128 ≤ R.locals) (hf : cells ≤ R.cells ∧ slots ≤ R.slots) {k : Int32 → fx_M β} (hF : fx_bnd (F_Md_same v1) k σ = some res) (kk : ∀ (r : Int32) (σ' : fx_S) (H' : Heap) (locs' : List Loc), k r σ' = some res → fx_B D fx_cl (rf_ws h cA) A s.heap σ' H' locs' → W p l e R s m args below meth c H' locs' cells slots Q (F0 m (pc + 3) ls (.int r :: rest))) : W p l e R s m args below meth c H locs cells slots Q (F0 m pc ls (.int v1 :: .ref (h 0) :: rest)) :=
  fx_call_i X hw (c_Md_same l D h cA v1) (fx_cwV X lk hg_Md_same fx_gok (rm := { frames := 5, cells := 0, slots := 0, locals := 128 }) rfl rfl (by decide +kernel) hR) (va_recv X.2.1 hw.1 (ci := 8) (q0 := 0) rfl rfl) (n := 1) rfl hdg hsize rfl hW hf hF kk
end
set_option maxHeartbeats 4000000 in
set_option maxRecDepth 100000 in
theorem c_Md_told (l : Launch) (D : va_G) (h : Nat → Nat) (cA : Nat → ClassId) (v1 : Int32) : fx_Mi l y_Md_told b_Md_told 2 (some .int) { frames := 2, cells := 0, slots := 0, locals := 42 } D fx_cl (fx_tys cA) fx_g fx_G (rf_ws h cA) [.ref (h 0), .int v1] (F_Md_told v1) := by
  refine fx_start_i fx_G_ok (by decide) (Nat.le_of_ble_eq_true rfl) ?_
  intro p e s m args below meth c A ls σ res Q hF X hw hl hend
  have hx := X.1.1
  have hb := X.1.2.1
  have hl : lv_has ls 2 [(0, .ref (h 0)), (1, .int v1)] := hl
  unfold F_Md_told at hF
  have h16 : ∀ (v1 : Int32) (t0 : Int32) (σ : fx_S) (H : Heap) (locs : List Loc) (ls : Array Slot), F_Md_told_J16 v1 t0 σ = some res → fx_B D fx_cl (rf_ws h cA) A s.heap σ H locs → lv_has ls 2 [(0, .ref (h 0)), (1, .int v1)] → W p l e { frames := 2, cells := 0, slots := 0, locals := 42 } s m args below meth c H locs 0 0 Q (F0 m 16 ls [.int t0, .ref (h 0)]) := by
    intro v1 t0 σ H locs ls hF hw hl
    unfold F_Md_told_J16 at hF
    refine k_Md_isGood X hw lk_Md_124 d_Md_told_16 hl.1 (lv_room (Nat.le_of_ble_eq_true rfl)) ⟨Nat.le_of_ble_eq_true rfl, Nat.le_of_ble_eq_true rfl⟩ ⟨Nat.zero_le _, Nat.zero_le _⟩ hF (fun x2 σ H locs hF hw => ?_)
    refine lv_if_ne (tgt := 24) hx hb d_Md_told_19 (by decide) (fun hc => ?_) (fun hc => ?_)
    · have hF := fx_if hc hF
      refine lv_iload_n hx hb d_Md_told_24 rfl (lv_at hl 1 rfl) ?_
      by_cases hc0 : v1 = 0
      · have hF := fx_it hc0 hF
        refine lv_tableIn (off := 39) (tgt := 64) hx hb d_Md_told_25 (by rw [hc0]; decide) (by rw [hc0]; decide) (by rw [hc0]; rfl) (by decide) ?_
        refine lv_aload_n hx hb d_Md_told_64 rfl (lv_at hl 0 rfl) ?_
        refine gI_Md_count X hw lk_Md_140 d_Md_told_65 hF (fun x3 hF => ?_)
        exact hend _ _ _ _ _ _ d_Md_told_68 hF hw
      have hF := fx_if hc0 hF
      by_cases hc1 : v1 = 1
      · have hF := fx_it hc1 hF
        refine lv_tableIn (off := 44) (tgt := 69) hx hb d_Md_told_25 (by rw [hc1]; decide) (by rw [hc1]; decide) (by rw [hc1]; rfl) (by decide) ?_
        refine lv_aload_n hx hb d_Md_told_69 rfl (lv_at hl 0 rfl) ?_
        refine gI_Md_opened X hw lk_Md_143 d_Md_told_70 hF (fun x4 hF => ?_)
        exact hend _ _ _ _ _ _ d_Md_told_73 hF hw
      have hF := fx_if hc1 hF
      by_cases hc2 : v1 = 2
      · have hF := fx_it hc2 hF
        refine lv_tableIn (off := 49) (tgt := 74) hx hb d_Md_told_25 (by rw [hc2]; decide) (by rw [hc2]; decide) (by rw [hc2]; rfl) (by decide) ?_
        refine lv_aload_n hx hb d_Md_told_74 rfl (lv_at hl 0 rfl) ?_
        refine k_Md_isDue X hw lk_Md_154 d_Md_told_75 hl.1 (lv_room (Nat.le_of_ble_eq_true rfl)) ⟨Nat.le_of_ble_eq_true rfl, Nat.le_of_ble_eq_true rfl⟩ ⟨Nat.zero_le _, Nat.zero_le _⟩ hF (fun x5 σ H locs hF hw => ?_)
        refine lv_if_eq (tgt := 85) hx hb d_Md_told_78 (by decide) (fun hc => ?_) (fun hc => ?_)
        · have hF := fx_it hc hF
          refine lv_iconst (v := 0) hx hb d_Md_told_85 (by decide) ?_
          exact hend _ _ _ _ _ _ d_Md_told_86 hF hw
        · have hF := fx_if hc hF
          refine lv_iconst (v := 1) hx hb d_Md_told_81 (by decide) ?_
          refine lv_goto (tgt := 86) hx hb d_Md_told_82 (by decide) ?_
          exact hend _ _ _ _ _ _ d_Md_told_86 hF hw
      have hF := fx_if hc2 hF
      by_cases hc3 : v1 = 3
      · have hF := fx_it hc3 hF
        refine lv_tableIn (off := 62) (tgt := 87) hx hb d_Md_told_25 (by rw [hc3]; decide) (by rw [hc3]; decide) (by rw [hc3]; rfl) (by decide) ?_
        refine lv_aload_n hx hb d_Md_told_87 rfl (lv_at hl 0 rfl) ?_
        refine gI_Md_scopes X hw lk_Md_106 d_Md_told_88 hF (fun x6 hF => ?_)
        exact hend _ _ _ _ _ _ d_Md_told_91 hF hw
      have hF := fx_if hc3 hF
      by_cases hc4 : v1 = 4
      · have hF := fx_it hc4 hF
        refine lv_tableIn (off := 67) (tgt := 92) hx hb d_Md_told_25 (by rw [hc4]; decide) (by rw [hc4]; decide) (by rw [hc4]; rfl) (by decide) ?_
        refine lv_aload_n hx hb d_Md_told_92 rfl (lv_at hl 0 rfl) ?_
        refine gI_Md_treeSize X hw lk_Md_222 d_Md_told_93 hF (fun x7 hF => ?_)
        exact hend _ _ _ _ _ _ d_Md_told_96 hF hw
      have hF := fx_if hc4 hF
      by_cases hc5 : v1 = 5
      · have hF := fx_it hc5 hF
        refine lv_tableIn (off := 72) (tgt := 97) hx hb d_Md_told_25 (by rw [hc5]; decide) (by rw [hc5]; decide) (by rw [hc5]; rfl) (by decide) ?_
        refine lv_aload_n hx hb d_Md_told_97 rfl (lv_at hl 0 rfl) ?_
        refine gI_Md_mostWaiting X hw lk_Md_225 d_Md_told_98 hF (fun x8 hF => ?_)
        exact hend _ _ _ _ _ _ d_Md_told_101 hF hw
      have hF := fx_if hc5 hF
      refine lv_tableOut (tgt := 102) hx hb d_Md_told_25 (fx_sw0_5 hc0 hc1 hc2 hc3 hc4 hc5) (by decide) ?_
      refine lv_aload_n hx hb d_Md_told_102 rfl (lv_at hl 0 rfl) ?_
      refine gI_Md_treeSize X hw lk_Md_222 d_Md_told_103 hF (fun x9 hF => ?_)
      refine lv_if_ne (tgt := 113) hx hb d_Md_told_106 (by decide) (fun hc => ?_) (fun hc => ?_)
      · have hF := fx_if hc hF
        refine lv_aload_n hx hb d_Md_told_113 rfl (lv_at hl 0 rfl) ?_
        refine gI_Md_deepest X hw lk_Md_231 d_Md_told_114 hF (fun x10 hF => ?_)
        exact hend _ _ _ _ _ _ d_Md_told_117 hF hw
      · have hF := fx_it hc hF
        refine lv_iconst (v := 0) hx hb d_Md_told_109 (by decide) ?_
        refine lv_goto (tgt := 117) hx hb d_Md_told_110 (by decide) ?_
        exact hend _ _ _ _ _ _ d_Md_told_117 hF hw
    · have hF := fx_it hc hF
      refine lv_iconst (v := 0) hx hb d_Md_told_22 (by decide) ?_
      exact hend _ _ _ _ _ _ d_Md_told_23 hF hw
  refine lv_aload_n hx hb d_Md_told_0 rfl (lv_at hl 0 rfl) ?_
  refine lv_iload_n hx hb d_Md_told_1 rfl (lv_at hl 1 rfl) ?_
  refine lv_iconst (v := 0) hx hb d_Md_told_2 (by decide) ?_
  refine lv_bipush (v := 6) hx hb d_Md_told_3 (by decide) ?_
  refine k_Md_isIn X hw lk_Md_116 d_Md_told_5 hl.1 (lv_room (Nat.le_of_ble_eq_true rfl)) ⟨Nat.le_of_ble_eq_true rfl, Nat.le_of_ble_eq_true rfl⟩ ⟨Nat.zero_le _, Nat.zero_le _⟩ hF (fun x1 σ H locs hF hw => ?_)
  refine lv_if_eq (tgt := 15) hx hb d_Md_told_8 (by decide) (fun hc => ?_) (fun hc => ?_)
  · have hF := fx_it hc hF
    refine lv_iconst (v := 1) hx hb d_Md_told_15 (by decide) ?_
    exact h16 v1 1 _ _ _ _ hF hw (lv_sub hl [0, 1] rfl)
  · have hF := fx_if hc hF
    refine lv_iconst (v := 0) hx hb d_Md_told_11 (by decide) ?_
    refine lv_goto (tgt := 16) hx hb d_Md_told_12 (by decide) ?_
    exact h16 v1 0 _ _ _ _ hF hw (lv_sub hl [0, 1] rfl)
section
variable {p : Program} {l : Launch} {e : Env} {R : Room} {s : State} {m : MethodId} {args : Array Value} {below : List Frame} {meth : Method} {c : Code} {H : Heap} {locs : List Loc} {cells slots : Nat} {Q : State → Prop}
variable {cc : ByteArray} {pc nL ix : Nat} {ls : Array Slot} {rest : List Value} {own : String} {D : va_G} {A : Nat → Prop} {h : Nat → Nat} {cA : Nat → ClassId} {σ : fx_S} {β : Type} {res : β × fx_S}
theorem k_Md_told {v1 : Int32} (X : fx_X p m c cc nL s args own D fx_cl (fx_tys cA) fx_g fx_G A) (hw : fx_B D fx_cl (rf_ws h cA) A s.heap σ H locs) (lk : Cond.methodLink own ix y_Md_told ∈ fx_g) (hdg : decode cc pc = .ok (.invokevirtual ix, 3)) (hsize : ls.size = nL) (hW : 2 * (F0 m pc ls (.int v1 :: .ref (h 0) :: rest)).monitorRoom + (rest.map fun v => v.category).sum ≤ 8) (hR : 2 + 1 ≤ R.frames ∧ 8 + (2 + 11) + 42 ≤ R.locals) (hf : cells ≤ R.cells ∧ slots ≤ R.slots) {k : Int32 → fx_M β} (hF : fx_bnd (F_Md_told v1) k σ = some res) (kk : ∀ (r : Int32) (σ' : fx_S) (H' : Heap) (locs' : List Loc), k r σ' = some res → fx_B D fx_cl (rf_ws h cA) A s.heap σ' H' locs' → W p l e R s m args below meth c H' locs' cells slots Q (F0 m (pc + 3) ls (.int r :: rest))) : W p l e R s m args below meth c H locs cells slots Q (F0 m pc ls (.int v1 :: .ref (h 0) :: rest)) :=
  fx_call_i X hw (c_Md_told l D h cA v1) (fx_cwV X lk hg_Md_told fx_gok (rm := { frames := 2, cells := 0, slots := 0, locals := 42 }) rfl rfl (by decide +kernel) hR) (va_recv X.2.1 hw.1 (ci := 8) (q0 := 0) rfl rfl) (n := 1) rfl hdg hsize rfl hW hf hF kk
end
