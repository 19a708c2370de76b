theorem lo_scope (l : Launch) (D : va_G) (h : Nat → Nat) (cA : Nat → ClassId) (ho : Nat) (hlt : l.stackTraces = false) (a0 : Int32) {Rel : fx_S → fx_S → Prop} {σ τ : fx_S} (f : Nat → Int64) (hO : lw_op Rel [(0, 1), (1, 2)] (F_FixityTrees_scope a0) (F_Md_scope a0) (fun r b => r = b) σ τ) : ∃ (b : Int32) (σ' τ' : fx_S) (k : Int32) (f' : Nat → Int64) (nc : Nat), nc ≤ 1 ∧ F_Md_scope a0 τ = some (b, τ') ∧ Rel σ' τ' ∧ lh_M l y_Lw_scope b_Lw_scope 4 [(0, 9, 12, 13), (0, 9, 15, 15)] { frames := 8, cells := 0, slots := 0, locals := 133 } D h cA ho [.ref (h 0), .int a0, .ref ho] σ f k σ' f' nc ∧ τ'.1 0 = k ∧ (k = 0 → f' ((0 : Int32).toNatClampNeg) = b.toInt64) := by
  obtain ⟨b, σ', τ', h1, h2, h3⟩ := hO
  rcases h3 with ⟨r, g1, g2, g3⟩ | ⟨q, hq, g1, g2⟩
  · exact ⟨b, σ', τ', 0, _, 0, Nat.zero_le _, h1, h2, hr_scope l D h cA ho hlt a0 g1, g2, fun _ => by rw [lw_updL, g3]⟩
  · simp only [List.mem_cons, List.not_mem_nil, or_false] at hq
    rcases hq with rfl | rfl
    · exact ⟨b, σ', τ', 1, f, 1, Nat.le_refl _, h1, h2, hx_scope_0 l D h cA ho hlt a0 g1, g2, fun h9 => absurd h9 (by decide)⟩
    · exact ⟨b, σ', τ', 2, f, 1, Nat.le_refl _, h1, h2, hx_scope_1 l D h cA ho hlt a0 g1, g2, fun h9 => absurd h9 (by decide)⟩
set_option maxHeartbeats 4000000 in
set_option maxRecDepth 100000 in
theorem la_scope {p : Program} {l : Launch} {e : Env} {s : State} {m : MethodId} {below : List Frame} {meth : Method} {c : Code} {b L j : Nat} {xs : Nat → Int32} {D : va_G} {h h2 : Nat → Nat} {cA : Nat → ClassId} {ho : Nat} {A : Nat → Prop} {Rel : fx_S → fx_S → Prop} {σ τ : fx_S} {f : Nat → Int64} {H : Heap} {locs : List Loc} {cells slots : Nat} {ls : Array Slot} {Q : State → Prop} (C : lw_Cx p l s m meth c b L xs D cA A) (hj : 5 * j + 5 ≤ L) (hO :∀ (a0 : Int32), lw_op Rel [(0, 1), (1, 2)] (F_FixityTrees_scope a0) (F_Md_scope a0) (fun r b => r = b) σ τ) (hw : cx_B D fx_cl A s.heap ([] ++ (lw_w h cA ho σ f ++ (rf_ws h2 cA τ ++ []))) H locs) (hl : lv_has ls 8 [(0, .ref b), (1, .ref (h 0)), (2, .ref (h2 0)), (3, .ref ho), (4, .int (Int32.ofNat (5 * j)))]) (hcs : cells + 1 ≤ 1125 ∧ slots + 6 ≤ 30804) (kk : ∀ (σ' τ' : fx_S) (f' : Nat → Int64) (H' : Heap) (locs' : List Loc) (ls' : Array Slot) (cells' slots' : Nat), Rel σ' τ' → cells' ≤ cells + 1 → slots' ≤ slots + 6 → cx_B D fx_cl A s.heap ([] ++ (lw_w h cA ho σ' f' ++ (rf_ws h2 cA τ' ++ []))) H' locs' → lv_has ls' 8 [(0, .ref b), (1, .ref (h 0)), (2, .ref (h2 0)), (3, .ref ho), (4, .int (Int32.ofNat (5 * j)))] → W p l e room_1 s m #[Value.ref b] below meth c H' locs' cells' slots' Q (F0 m 1121 ls' [])) : W p l e room_1 s m #[Value.ref b] below meth c H locs cells slots Q (F0 m 120 ls []) := by
  obtain ⟨X, hHW, hX, hbl, hbA, hlt, hL⟩ := C
  have hx := X.1.1
  have hb := X.1.2.1
  have Xc : fx_X p m c code 8 s #[Value.ref b] "FixityTreesLaw" D fx_cl (fx_tys cA) fx_g fx_G A := ⟨X.1, X.2.1, X.2.2.1, fx_G_ok, X.2.2.2.2.1⟩
  obtain ⟨r, σ', τ', k, f', nc, hnc, hFR, hRel, hM, hk, hout⟩ := lo_scope l D h cA ho hlt (xs (Int32.ofNat (5 * j) + 1).toNatClampNeg) f (hO (xs (Int32.ofNat (5 * j) + 1).toNatClampNeg))
  refine lv_aload_n hx hb dl_120 rfl (lv_at hl 1 rfl) ?_
  refine lv_aload_n hx hb dl_121 rfl (lv_at hl 0 rfl) ?_
  refine lv_iload hx hb dl_122 (lv_at hl 4 rfl) ?_
  refine lv_iconst (v := 1) hx hb dl_124 (by decide) ?_
  refine lv_iadd hx hb dl_125 ?_
  refine va_sld hx hb hX hbl hbA hw.2.2 (lw_in (k := 1) (by omega) hL) dl_126 ?_
  refine lv_aload_n hx hb dl_127 rfl (lv_at hl 3 rfl) ?_
  refine lx_callH (As := [.ref (h 0), .int (xs (Int32.ofNat (5 * j) + 1).toNatClampNeg), .ref ho]) X hHW hw hM lq_75 hg_Lw_scope (by decide +kernel) ⟨Nat.le_of_ble_eq_true rfl, Nat.le_of_ble_eq_true rfl⟩ (n := 3) rfl dl_128 hl.1 rfl (lv_room (Nat.le_of_ble_eq_true rfl)) ⟨show cells + nc ≤ 1125 by omega, show slots + 6 * nc ≤ 30804 by omega⟩ (fun H locs hw => ?_)
  refine lv_istore (lv' := [(5, .int k), (0, .ref b), (1, .ref (h 0)), (2, .ref (h2 0)), (3, .ref ho), (4, .int (Int32.ofNat (5 * j)))]) hx hb dl_131 hl (by decide) rfl (fun ls hl => ?_)
  refine lv_aload_n hx hb dl_133 rfl (lv_at hl 3 rfl) ?_
  refine lv_aload_n hx hb dl_134 rfl (lv_at hl 1 rfl) ?_
  refine lv_iload hx hb dl_135 (lv_at hl 5 rfl) ?_
  refine lv_iconst (v := 1) hx hb dl_137 (by decide) ?_
  refine lv_iadd hx hb dl_138 ?_
  refine va_sld hx hb hX hbl hbA hw.2.2 (lw_in (k := 1) (by omega) hL) dl_139 ?_
  refine lx_call_i (w1 := lw_w h cA ho σ' f') (wf := rf_ws h2 cA) (w3 := []) (As := [.int (xs (Int32.ofNat (5 * j) + 1).toNatClampNeg)]) Xc hw (c_Md_scope l D h2 cA (xs (Int32.ofNat (5 * j) + 1).toNatClampNeg)) hFR (fx_cwV Xc lq_80 hg_Md_scope fx_gok (rm := { frames := 2, cells := 0, slots := 0, locals := 43 }) rfl rfl (by decide +kernel) ⟨Nat.le_of_ble_eq_true rfl, Nat.le_of_ble_eq_true rfl⟩) (va_recv X.2.1 (lx_split (w1 := lw_w h cA ho σ' f') (w2 := rf_ws h2 cA τ) (w3 := []) hw).1 (ci := 8) (q0 := 0) rfl rfl) (n := 1) rfl dl_140 hl.1 rfl (lv_room (Nat.le_of_ble_eq_true rfl)) ⟨show cells + nc ≤ 1125 by omega, show slots + 6 * nc ≤ 30804 by omega⟩ (fun H locs hw => ?_)
  refine lv_istore (lv' := [(6, .int r), (5, .int k), (0, .ref b), (1, .ref (h 0)), (2, .ref (h2 0)), (3, .ref ho), (4, .int (Int32.ofNat (5 * j)))]) hx hb dl_143 hl (by decide) rfl (fun ls hl => ?_)
  refine lv_aload_n hx hb dl_145 rfl (lv_at hl 4 rfl) ?_
  refine lx_call_i (w1 := lw_w h cA ho σ' f') (wf := rf_ws h2 cA) (w3 := []) (As := []) Xc hw (c_Md_thrown l D h2 cA) (lw_thrown _) (fx_cwV Xc lq_81 hg_Md_thrown fx_gok (rm := { frames := 0, cells := 0, slots := 0, locals := 0 }) rfl rfl (by decide +kernel) ⟨Nat.le_of_ble_eq_true rfl, Nat.le_of_ble_eq_true rfl⟩) (va_recv X.2.1 (lx_split (w1 := lw_w h cA ho σ' f') (w2 := rf_ws h2 cA τ') (w3 := []) hw).1 (ci := 8) (q0 := 0) rfl rfl) (n := 0) rfl dl_146 hl.1 rfl (lv_room (Nat.le_of_ble_eq_true rfl)) ⟨show cells + nc ≤ 1125 by omega, show slots + 6 * nc ≤ 30804 by omega⟩ (fun H locs hw => ?_)
  refine lv_iload hx hb dl_149 (lv_at hl 1 rfl) ?_
  refine lv_icmp_eq (tgt := 156) hx hb dl_151 (by decide) (fun hc => ?_) (fun hc => absurd hk hc)
  refine lv_iload hx hb dl_156 (lv_at hl 1 rfl) ?_
  refine lv_if_ne (tgt := 173) hx hb dl_158 (by decide) (fun hk0 => ?_) (fun hk0 => ?_)
  · skip
    refine lv_goto (tgt := 1121) hx hb dl_173 (by decide) ?_
    exact kk _ _ _ _ _ _ _ _ hRel (by omega) (by omega) hw (lv_sub hl [2, 3, 4, 5, 6] rfl)
  · have hk0 : k = 0 := hk0
    refine lv_aload_n hx hb dl_161 rfl (lv_at hl 5 rfl) ?_
    refine lv_iconst (v := 0) hx hb dl_162 (by decide) ?_
    refine va_lald hx hb X.2.1 hw.1 48 1 rfl rfl (by show ¬ ((0 : Int32) < 0 ∨ 1 ≤ (0 : Int32).toNatClampNeg); decide) dl_163 ?_
    rw [hout hk0]
    refine lv_iload hx hb dl_164 (lv_at hl 0 rfl) ?_
    refine lv_i2l hx hb dl_166 rfl ?_
    refine W.lcmp hx hb dl_167 ?_
    refine lv_if_eq (tgt := 173) hx hb dl_168 (by decide) (fun hc => ?_) (fun hc => absurd (lw_cmp _) hc)
    refine lv_goto (tgt := 1121) hx hb dl_173 (by decide) ?_
    exact kk _ _ _ _ _ _ _ _ hRel (by omega) (by omega) hw (lv_sub hl [2, 3, 4, 5, 6] rfl)
theorem lo_fixity (l : Launch) (D : va_G) (h : Nat → Nat) (cA : Nat → ClassId) (ho : Nat) (hlt : l.stackTraces = false) (a0 : Int32) (a1 : Int32) (a2 : Int32) (a3 : Int32) {Rel : fx_S → fx_S → Prop} {σ τ : fx_S} (f : Nat → Int64) (hO : lw_op Rel [(0, 1), (1, 2), (2, 3)] (F_FixityTrees_fixity a0 a1 a2 a3) (F_Md_fixity a0 a1 a2 a3) (fun _ _ => True) σ τ) : ∃ (b : Unit) (σ' τ' : fx_S) (k : Int32) (f' : Nat → Int64) (nc : Nat), nc ≤ 1 ∧ F_Md_fixity a0 a1 a2 a3 τ = some (b, τ') ∧ Rel σ' τ' ∧ lh_M l y_Lw_fixity b_Lw_fixity 6 [(0, 9, 12, 13), (0, 9, 16, 15), (0, 9, 20, 21)] { frames := 8, cells := 0, slots := 0, locals := 136 } D h cA ho [.ref (h 0), .int a0, .int a1, .int a2, .int a3] σ f k σ' f' nc ∧ τ'.1 0 = k := by
  obtain ⟨b, σ', τ', h1, h2, h3⟩ := hO
  rcases h3 with ⟨r, g1, g2, g3⟩ | ⟨q, hq, g1, g2⟩
  · exact ⟨b, σ', τ', 0, _, 0, Nat.zero_le _, h1, h2, hr_fixity l D h cA ho hlt a0 a1 a2 a3 g1, g2⟩
  · simp only [List.mem_cons, List.not_mem_nil, or_false] at hq
    rcases hq with rfl | rfl | rfl
    · exact ⟨b, σ', τ', 1, f, 1, Nat.le_refl _, h1, h2, hx_fixity_0 l D h cA ho hlt a0 a1 a2 a3 g1, g2⟩
    · exact ⟨b, σ', τ', 2, f, 1, Nat.le_refl _, h1, h2, hx_fixity_1 l D h cA ho hlt a0 a1 a2 a3 g1, g2⟩
    · exact ⟨b, σ', τ', 3, f, 1, Nat.le_refl _, h1, h2, hx_fixity_2 l D h cA ho hlt a0 a1 a2 a3 g1, g2⟩
set_option maxHeartbeats 4000000 in
set_option maxRecDepth 100000 in
theorem la_fixity {p : Program} {l : Launch} {e : Env} {s : State} {m : MethodId} {below : List Frame} {meth : Method} {c : Code} {b L j : Nat} {xs : Nat → Int32} {D : va_G} {h h2 : Nat → Nat} {cA : Nat → ClassId} {ho : Nat} {A : Nat → Prop} {Rel : fx_S → fx_S → Prop} {σ τ : fx_S} {f : Nat → Int64} {H : Heap} {locs : List Loc} {cells slots : Nat} {ls : Array Slot} {Q : State → Prop} (C : lw_Cx p l s m meth c b L xs D cA A) (hj : 5 * j + 5 ≤ L) (hO :∀ (a0 : Int32) (a1 : Int32) (a2 : Int32) (a3 : Int32), lw_op Rel [(0, 1), (1, 2), (2, 3)] (F_FixityTrees_fixity a0 a1 a2 a3) (F_Md_fixity a0 a1 a2 a3) (fun _ _ => True) σ τ) (hw : cx_B D fx_cl A s.heap ([] ++ (lw_w h cA ho σ f ++ (rf_ws h2 cA τ ++ []))) H locs) (hl : lv_has ls 8 [(0, .ref b), (1, .ref (h 0)), (2, .ref (h2 0)), (3, .ref ho), (4, .int (Int32.ofNat (5 * j)))]) (hcs : cells + 1 ≤ 1125 ∧ slots + 6 ≤ 30804) (kk : ∀ (σ' τ' : fx_S) (f' : Nat → Int64) (H' : Heap) (locs' : List Loc) (ls' : Array Slot) (cells' slots' : Nat), Rel σ' τ' → cells' ≤ cells + 1 → slots' ≤ slots + 6 → cx_B D fx_cl A s.heap ([] ++ (lw_w h cA ho σ' f' ++ (rf_ws h2 cA τ' ++ []))) H' locs' → lv_has ls' 8 [(0, .ref b), (1, .ref (h 0)), (2, .ref (h2 0)), (3, .ref ho), (4, .int (Int32.ofNat (5 * j)))] → W p l e room_1 s m #[Value.ref b] below meth c H' locs' cells' slots' Q (F0 m 1121 ls' [])) : W p l e room_1 s m #[Value.ref b] below meth c H locs cells slots Q (F0 m 176 ls []) := by
  obtain ⟨X, hHW, hX, hbl, hbA, hlt, hL⟩ := C
  have hx := X.1.1
  have hb := X.1.2.1
  have Xc : fx_X p m c code 8 s #[Value.ref b] "FixityTreesLaw" D fx_cl (fx_tys cA) fx_g fx_G A := ⟨X.1, X.2.1, X.2.2.1, fx_G_ok, X.2.2.2.2.1⟩
  obtain ⟨r, σ', τ', k, f', nc, hnc, hFR, hRel, hM, hk⟩ := lo_fixity l D h cA ho hlt (xs (Int32.ofNat (5 * j) + 1).toNatClampNeg) (xs (Int32.ofNat (5 * j) + 2).toNatClampNeg) (xs (Int32.ofNat (5 * j) + 3).toNatClampNeg) (xs (Int32.ofNat (5 * j) + 4).toNatClampNeg) f (hO (xs (Int32.ofNat (5 * j) + 1).toNatClampNeg) (xs (Int32.ofNat (5 * j) + 2).toNatClampNeg) (xs (Int32.ofNat (5 * j) + 3).toNatClampNeg) (xs (Int32.ofNat (5 * j) + 4).toNatClampNeg))
  refine lv_aload_n hx hb dl_176 rfl (lv_at hl 1 rfl) ?_
  refine lv_aload_n hx hb dl_177 rfl (lv_at hl 0 rfl) ?_
  refine lv_iload hx hb dl_178 (lv_at hl 4 rfl) ?_
  refine lv_iconst (v := 1) hx hb dl_180 (by decide) ?_
  refine lv_iadd hx hb dl_181 ?_
  refine va_sld hx hb hX hbl hbA hw.2.2 (lw_in (k := 1) (by omega) hL) dl_182 ?_
  refine lv_aload_n hx hb dl_183 rfl (lv_at hl 0 rfl) ?_
  refine lv_iload hx hb dl_184 (lv_at hl 4 rfl) ?_
  refine lv_iconst (v := 2) hx hb dl_186 (by decide) ?_
  refine lv_iadd hx hb dl_187 ?_
  refine va_sld hx hb hX hbl hbA hw.2.2 (lw_in (k := 2) (by omega) hL) dl_188 ?_
  refine lv_aload_n hx hb dl_189 rfl (lv_at hl 0 rfl) ?_
  refine lv_iload hx hb dl_190 (lv_at hl 4 rfl) ?_
  refine lv_iconst (v := 3) hx hb dl_192 (by decide) ?_
  refine lv_iadd hx hb dl_193 ?_
  refine va_sld hx hb hX hbl hbA hw.2.2 (lw_in (k := 3) (by omega) hL) dl_194 ?_
  refine lv_aload_n hx hb dl_195 rfl (lv_at hl 0 rfl) ?_
  refine lv_iload hx hb dl_196 (lv_at hl 4 rfl) ?_
  refine lv_iconst (v := 4) hx hb dl_198 (by decide) ?_
  refine lv_iadd hx hb dl_199 ?_
  refine va_sld hx hb hX hbl hbA hw.2.2 (lw_in (k := 4) (by omega) hL) dl_200 ?_
  refine lx_callH (As := [.ref (h 0), .int (xs (Int32.ofNat (5 * j) + 1).toNatClampNeg), .int (xs (Int32.ofNat (5 * j) + 2).toNatClampNeg), .int (xs (Int32.ofNat (5 * j) + 3).toNatClampNeg), .int (xs (Int32.ofNat (5 * j) + 4).toNatClampNeg)]) X hHW hw hM lq_84 hg_Lw_fixity (by decide +kernel) ⟨Nat.le_of_ble_eq_true rfl, Nat.le_of_ble_eq_true rfl⟩ (n := 5) rfl dl_201 hl.1 rfl (lv_room (Nat.le_of_ble_eq_true rfl)) ⟨show cells + nc ≤ 1125 by omega, show slots + 6 * nc ≤ 30804 by omega⟩ (fun H locs hw => ?_)
  refine lv_istore (lv' := [(5, .int k), (0, .ref b), (1, .ref (h 0)), (2, .ref (h2 0)), (3, .ref ho), (4, .int (Int32.ofNat (5 * j)))]) hx hb dl_204 hl (by decide) rfl (fun ls hl => ?_)
  refine lv_aload_n hx hb dl_206 rfl (lv_at hl 3 rfl) ?_
  refine lv_aload_n hx hb dl_207 rfl (lv_at hl 1 rfl) ?_
  refine lv_iload hx hb dl_208 (lv_at hl 5 rfl) ?_
  refine lv_iconst (v := 1) hx hb dl_210 (by decide) ?_
  refine lv_iadd hx hb dl_211 ?_
  refine va_sld hx hb hX hbl hbA hw.2.2 (lw_in (k := 1) (by omega) hL) dl_212 ?_
  refine lv_aload_n hx hb dl_213 rfl (lv_at hl 1 rfl) ?_
  refine lv_iload hx hb dl_214 (lv_at hl 5 rfl) ?_
  refine lv_iconst (v := 2) hx hb dl_216 (by decide) ?_
  refine lv_iadd hx hb dl_217 ?_
  refine va_sld hx hb hX hbl hbA hw.2.2 (lw_in (k := 2) (by omega) hL) dl_218 ?_
  refine lv_aload_n hx hb dl_219 rfl (lv_at hl 1 rfl) ?_
  refine lv_iload hx hb dl_220 (lv_at hl 5 rfl) ?_
  refine lv_iconst (v := 3) hx hb dl_222 (by decide) ?_
  refine lv_iadd hx hb dl_223 ?_
  refine va_sld hx hb hX hbl hbA hw.2.2 (lw_in (k := 3) (by omega) hL) dl_224 ?_
  refine lv_aload_n hx hb dl_225 rfl (lv_at hl 1 rfl) ?_
  refine lv_iload hx hb dl_226 (lv_at hl 5 rfl) ?_
  refine lv_iconst (v := 4) hx hb dl_228 (by decide) ?_
  refine lv_iadd hx hb dl_229 ?_
  refine va_sld hx hb hX hbl hbA hw.2.2 (lw_in (k := 4) (by omega) hL) dl_230 ?_
  refine lx_call_v (w1 := lw_w h cA ho σ' f') (wf := rf_ws h2 cA) (w3 := []) (As := [.int (xs (Int32.ofNat (5 * j) + 1).toNatClampNeg), .int (xs (Int32.ofNat (5 * j) + 2).toNatClampNeg), .int (xs (Int32.ofNat (5 * j) + 3).toNatClampNeg), .int (xs (Int32.ofNat (5 * j) + 4).toNatClampNeg)]) Xc hw (c_Md_fixity l D h2 cA (xs (Int32.ofNat (5 * j) + 1).toNatClampNeg) (xs (Int32.ofNat (5 * j) + 2).toNatClampNeg) (xs (Int32.ofNat (5 * j) + 3).toNatClampNeg) (xs (Int32.ofNat (5 * j) + 4).toNatClampNeg)) hFR (fx_cwV Xc lq_87 hg_Md_fixity fx_gok (rm := { frames := 2, cells := 0, slots := 0, locals := 43 }) rfl rfl (by decide +kernel) ⟨Nat.le_of_ble_eq_true rfl, Nat.le_of_ble_eq_true rfl⟩) (va_recv X.2.1 (lx_split (w1 := lw_w h cA ho σ' f') (w2 := rf_ws h2 cA τ) (w3 := []) hw).1 (ci := 8) (q0 := 0) rfl rfl) (n := 4) rfl dl_231 hl.1 rfl (lv_room (Nat.le_of_ble_eq_true rfl)) ⟨show cells + nc ≤ 1125 by omega, show slots + 6 * nc ≤ 30804 by omega⟩ (fun H locs hw => ?_)
  refine lv_aload_n hx hb dl_234 rfl (lv_at hl 3 rfl) ?_
  refine lx_call_i (w1 := lw_w h cA ho σ' f') (wf := rf_ws h2 cA) (w3 := []) (As := []) Xc hw (c_Md_thrown l D h2 cA) (lw_thrown _) (fx_cwV Xc lq_81 hg_Md_thrown fx_gok (rm := { frames := 0, cells := 0, slots := 0, locals := 0 }) rfl rfl (by decide +kernel) ⟨Nat.le_of_ble_eq_true rfl, Nat.le_of_ble_eq_true rfl⟩) (va_recv X.2.1 (lx_split (w1 := lw_w h cA ho σ' f') (w2 := rf_ws h2 cA τ') (w3 := []) hw).1 (ci := 8) (q0 := 0) rfl rfl) (n := 0) rfl dl_235 hl.1 rfl (lv_room (Nat.le_of_ble_eq_true rfl)) ⟨show cells + nc ≤ 1125 by omega, show slots + 6 * nc ≤ 30804 by omega⟩ (fun H locs hw => ?_)
  refine lv_iload hx hb dl_238 (lv_at hl 0 rfl) ?_
  refine lv_icmp_eq (tgt := 245) hx hb dl_240 (by decide) (fun hc => ?_) (fun hc => absurd hk hc)
  refine lv_goto (tgt := 1121) hx hb dl_245 (by decide) ?_
  exact kk _ _ _ _ _ _ _ _ hRel (by omega) (by omega) hw (lv_sub hl [1, 2, 3, 4, 5] rfl)
theorem lo_looked (l : Launch) (D : va_G) (h : Nat → Nat) (cA : Nat → ClassId) (ho : Nat) (hlt : l.stackTraces = false) (a0 : Int32) (a1 : Int32) (a2 : Int32) {Rel : fx_S → fx_S → Prop} {σ τ : fx_S} (f : Nat → Int64) (hO : lw_op Rel [(0, 1), (2, 2)] (F_FixityTrees_looked a0 a1 a2) (F_Md_looked a0 a1 a2) (fun r b => r = b) σ τ) : ∃ (b : Int32) (σ' τ' : fx_S) (k : Int32) (f' : Nat → Int64) (nc : Nat), nc ≤ 1 ∧ F_Md_looked a0 a1 a2 τ = some (b, τ') ∧ Rel σ' τ' ∧ lh_M l y_Lw_looked b_Lw_looked 6 [(0, 12, 15, 13), (0, 12, 19, 21)] { frames := 8, cells := 0, slots := 0, locals := 135 } D h cA ho [.ref (h 0), .int a0, .int a1, .int a2, .ref ho] σ f k σ' f' nc ∧ τ'.1 0 = k ∧ (k = 0 → f' ((0 : Int32).toNatClampNeg) = b.toInt64) := by
  obtain ⟨b, σ', τ', h1, h2, h3⟩ := hO
  rcases h3 with ⟨r, g1, g2, g3⟩ | ⟨q, hq, g1, g2⟩
  · exact ⟨b, σ', τ', 0, _, 0, Nat.zero_le _, h1, h2, hr_looked l D h cA ho hlt a0 a1 a2 g1, g2, fun _ => by rw [lw_updL, g3]⟩
  · simp only [List.mem_cons, List.not_mem_nil, or_false] at hq
    rcases hq with rfl | rfl
    · exact ⟨b, σ', τ', 1, f, 1, Nat.le_refl _, h1, h2, hx_looked_0 l D h cA ho hlt a0 a1 a2 g1, g2, fun h9 => absurd h9 (by decide)⟩
    · exact ⟨b, σ', τ', 2, f, 1, Nat.le_refl _, h1, h2, hx_looked_2 l D h cA ho hlt a0 a1 a2 g1, g2, fun h9 => absurd h9 (by decide)⟩
set_option maxHeartbeats 4000000 in
set_option maxRecDepth 100000 in
theorem la_looked {p : Program} {l : Launch} {e : Env} {s : State} {m : MethodId} {below : List Frame} {meth : Method} {c : Code} {b L j : Nat} {xs : Nat → Int32} {D : va_G} {h h2 : Nat → Nat} {cA : Nat → ClassId} {ho : Nat} {A : Nat → Prop} {Rel : fx_S → fx_S → Prop} {σ τ : fx_S} {f : Nat → Int64} {H : Heap} {locs : List Loc} {cells slots : Nat} {ls : Array Slot} {Q : State → Prop} (C : lw_Cx p l s m meth c b L xs D cA A) (hj : 5 * j + 5 ≤ L) (hO :∀ (a0 : Int32) (a1 : Int32) (a2 : Int32), lw_op Rel [(0, 1), (2, 2)] (F_FixityTrees_looked a0 a1 a2) (F_Md_looked a0 a1 a2) (fun r b => r = b) σ τ) (hw : cx_B D fx_cl A s.heap ([] ++ (lw_w h cA ho σ f ++ (rf_ws h2 cA τ ++ []))) H locs) (hl : lv_has ls 8 [(0, .ref b), (1, .ref (h 0)), (2, .ref (h2 0)), (3, .ref ho), (4, .int (Int32.ofNat (5 * j)))]) (hcs : cells + 1 ≤ 1125 ∧ slots + 6 ≤ 30804) (kk : ∀ (σ' τ' : fx_S) (f' : Nat → Int64) (H' : Heap) (locs' : List Loc) (ls' : Array Slot) (cells' slots' : Nat), Rel σ' τ' → cells' ≤ cells + 1 → slots' ≤ slots + 6 → cx_B D fx_cl A s.heap ([] ++ (lw_w h cA ho σ' f' ++ (rf_ws h2 cA τ' ++ []))) H' locs' → lv_has ls' 8 [(0, .ref b), (1, .ref (h 0)), (2, .ref (h2 0)), (3, .ref ho), (4, .int (Int32.ofNat (5 * j)))] → W p l e room_1 s m #[Value.ref b] below meth c H' locs' cells' slots' Q (F0 m 1121 ls' [])) : W p l e room_1 s m #[Value.ref b] below meth c H locs cells slots Q (F0 m 248 ls []) := by
  obtain ⟨X, hHW, hX, hbl, hbA, hlt, hL⟩ := C
  have hx := X.1.1
  have hb := X.1.2.1
  have Xc : fx_X p m c code 8 s #[Value.ref b] "FixityTreesLaw" D fx_cl (fx_tys cA) fx_g fx_G A := ⟨X.1, X.2.1, X.2.2.1, fx_G_ok, X.2.2.2.2.1⟩
  obtain ⟨r, σ', τ', k, f', nc, hnc, hFR, hRel, hM, hk, hout⟩ := lo_looked l D h cA ho hlt (xs (Int32.ofNat (5 * j) + 1).toNatClampNeg) (xs (Int32.ofNat (5 * j) + 2).toNatClampNeg) (xs (Int32.ofNat (5 * j) + 3).toNatClampNeg) f (hO (xs (Int32.ofNat (5 * j) + 1).toNatClampNeg) (xs (Int32.ofNat (5 * j) + 2).toNatClampNeg) (xs (Int32.ofNat (5 * j) + 3).toNatClampNeg))
  refine lv_aload_n hx hb dl_248 rfl (lv_at hl 1 rfl) ?_
  refine lv_aload_n hx hb dl_249 rfl (lv_at hl 0 rfl) ?_
  refine lv_iload hx hb dl_250 (lv_at hl 4 rfl) ?_
  refine lv_iconst (v := 1) hx hb dl_252 (by decide) ?_
  refine lv_iadd hx hb dl_253 ?_
  refine va_sld hx hb hX hbl hbA hw.2.2 (lw_in (k := 1) (by omega) hL) dl_254 ?_
  refine lv_aload_n hx hb dl_255 rfl (lv_at hl 0 rfl) ?_
  refine lv_iload hx hb dl_256 (lv_at hl 4 rfl) ?_
  refine lv_iconst (v := 2) hx hb dl_258 (by decide) ?_
  refine lv_iadd hx hb dl_259 ?_
  refine va_sld hx hb hX hbl hbA hw.2.2 (lw_in (k := 2) (by omega) hL) dl_260 ?_
  refine lv_aload_n hx hb dl_261 rfl (lv_at hl 0 rfl) ?_
  refine lv_iload hx hb dl_262 (lv_at hl 4 rfl) ?_
  refine lv_iconst (v := 3) hx hb dl_264 (by decide) ?_
  refine lv_iadd hx hb dl_265 ?_
  refine va_sld hx hb hX hbl hbA hw.2.2 (lw_in (k := 3) (by omega) hL) dl_266 ?_
  refine lv_aload_n hx hb dl_267 rfl (lv_at hl 3 rfl) ?_
  refine lx_callH (As := [.ref (h 0), .int (xs (Int32.ofNat (5 * j) + 1).toNatClampNeg), .int (xs (Int32.ofNat (5 * j) + 2).toNatClampNeg), .int (xs (Int32.ofNat (5 * j) + 3).toNatClampNeg), .ref ho]) X hHW hw hM lq_88 hg_Lw_looked (by decide +kernel) ⟨Nat.le_of_ble_eq_true rfl, Nat.le_of_ble_eq_true rfl⟩ (n := 5) rfl dl_268 hl.1 rfl (lv_room (Nat.le_of_ble_eq_true rfl)) ⟨show cells + nc ≤ 1125 by omega, show slots + 6 * nc ≤ 30804 by omega⟩ (fun H locs hw => ?_)
  refine lv_istore (lv' := [(5, .int k), (0, .ref b), (1, .ref (h 0)), (2, .ref (h2 0)), (3, .ref ho), (4, .int (Int32.ofNat (5 * j)))]) hx hb dl_271 hl (by decide) rfl (fun ls hl => ?_)
  refine lv_aload_n hx hb dl_273 rfl (lv_at hl 3 rfl) ?_
  refine lv_aload_n hx hb dl_274 rfl (lv_at hl 1 rfl) ?_
  refine lv_iload hx hb dl_275 (lv_at hl 5 rfl) ?_
  refine lv_iconst (v := 1) hx hb dl_277 (by decide) ?_
  refine lv_iadd hx hb dl_278 ?_
  refine va_sld hx hb hX hbl hbA hw.2.2 (lw_in (k := 1) (by omega) hL) dl_279 ?_
  refine lv_aload_n hx hb dl_280 rfl (lv_at hl 1 rfl) ?_
  refine lv_iload hx hb dl_281 (lv_at hl 5 rfl) ?_
  refine lv_iconst (v := 2) hx hb dl_283 (by decide) ?_
  refine lv_iadd hx hb dl_284 ?_
  refine va_sld hx hb hX hbl hbA hw.2.2 (lw_in (k := 2) (by omega) hL) dl_285 ?_
  refine lv_aload_n hx hb dl_286 rfl (lv_at hl 1 rfl) ?_
  refine lv_iload hx hb dl_287 (lv_at hl 5 rfl) ?_
  refine lv_iconst (v := 3) hx hb dl_289 (by decide) ?_
  refine lv_iadd hx hb dl_290 ?_
  refine va_sld hx hb hX hbl hbA hw.2.2 (lw_in (k := 3) (by omega) hL) dl_291 ?_
  refine lx_call_i (w1 := lw_w h cA ho σ' f') (wf := rf_ws h2 cA) (w3 := []) (As := [.int (xs (Int32.ofNat (5 * j) + 1).toNatClampNeg), .int (xs (Int32.ofNat (5 * j) + 2).toNatClampNeg), .int (xs (Int32.ofNat (5 * j) + 3).toNatClampNeg)]) Xc hw (c_Md_looked l D h2 cA (xs (Int32.ofNat (5 * j) + 1).toNatClampNeg) (xs (Int32.ofNat (5 * j) + 2).toNatClampNeg) (xs (Int32.ofNat (5 * j) + 3).toNatClampNeg)) hFR (fx_cwV Xc lq_91 hg_Md_looked fx_gok (rm := { frames := 2, cells := 0, slots := 0, locals := 46 }) rfl rfl (by decide +kernel) ⟨Nat.le_of_ble_eq_true rfl, Nat.le_of_ble_eq_true rfl⟩) (va_recv X.2.1 (lx_split (w1 := lw_w h cA ho σ' f') (w2 := rf_ws h2 cA τ) (w3 := []) hw).1 (ci := 8) (q0 := 0) rfl rfl) (n := 3) rfl dl_292 hl.1 rfl (lv_room (Nat.le_of_ble_eq_true rfl)) ⟨show cells + nc ≤ 1125 by omega, show slots + 6 * nc ≤ 30804 by omega⟩ (fun H locs hw => ?_)
  refine lv_istore (lv' := [(6, .int r), (5, .int k), (0, .ref b), (1, .ref (h 0)), (2, .ref (h2 0)), (3, .ref ho), (4, .int (Int32.ofNat (5 * j)))]) hx hb dl_295 hl (by decide) rfl (fun ls hl => ?_)
  refine lv_aload_n hx hb dl_297 rfl (lv_at hl 4 rfl) ?_
  refine lx_call_i (w1 := lw_w h cA ho σ' f') (wf := rf_ws h2 cA) (w3 := []) (As := []) Xc hw (c_Md_thrown l D h2 cA) (lw_thrown _) (fx_cwV Xc lq_81 hg_Md_thrown fx_gok (rm := { frames := 0, cells := 0, slots := 0, locals := 0 }) rfl rfl (by decide +kernel) ⟨Nat.le_of_ble_eq_true rfl, Nat.le_of_ble_eq_true rfl⟩) (va_recv X.2.1 (lx_split (w1 := lw_w h cA ho σ' f') (w2 := rf_ws h2 cA τ') (w3 := []) hw).1 (ci := 8) (q0 := 0) rfl rfl) (n := 0) rfl dl_298 hl.1 rfl (lv_room (Nat.le_of_ble_eq_true rfl)) ⟨show cells + nc ≤ 1125 by omega, show slots + 6 * nc ≤ 30804 by omega⟩ (fun H locs hw => ?_)
  refine lv_iload hx hb dl_301 (lv_at hl 1 rfl) ?_
  refine lv_icmp_eq (tgt := 308) hx hb dl_303 (by decide) (fun hc => ?_) (fun hc => absurd hk hc)
  refine lv_iload hx hb dl_308 (lv_at hl 1 rfl) ?_
  refine lv_if_ne (tgt := 325) hx hb dl_310 (by decide) (fun hk0 => ?_) (fun hk0 => ?_)
  · skip
    refine lv_goto (tgt := 1121) hx hb dl_325 (by decide) ?_
    exact kk _ _ _ _ _ _ _ _ hRel (by omega) (by omega) hw (lv_sub hl [2, 3, 4, 5, 6] rfl)
  · have hk0 : k = 0 := hk0
    refine lv_aload_n hx hb dl_313 rfl (lv_at hl 5 rfl) ?_
    refine lv_iconst (v := 0) hx hb dl_314 (by decide) ?_
    refine va_lald hx hb X.2.1 hw.1 48 1 rfl rfl (by show ¬ ((0 : Int32) < 0 ∨ 1 ≤ (0 : Int32).toNatClampNeg); decide) dl_315 ?_
    rw [hout hk0]
    refine lv_iload hx hb dl_316 (lv_at hl 0 rfl) ?_
    refine lv_i2l hx hb dl_318 rfl ?_
    refine W.lcmp hx hb dl_319 ?_
    refine lv_if_eq (tgt := 325) hx hb dl_320 (by decide) (fun hc => ?_) (fun hc => absurd (lw_cmp _) hc)
    refine lv_goto (tgt := 1121) hx hb dl_325 (by decide) ?_
    exact kk _ _ _ _ _ _ _ _ hRel (by omega) (by omega) hw (lv_sub hl [2, 3, 4, 5, 6] rfl)
set_option maxHeartbeats 4000000 in
set_option maxRecDepth 100000 in
theorem la_begin {p : Program} {l : Launch} {e : Env} {s : State} {m : MethodId} {below : List Frame} {meth : Method} {c : Code} {b L j : Nat} {xs : Nat → Int32} {D : va_G} {h h2 : Nat → Nat} {cA : Nat → ClassId} {ho : Nat} {A : Nat → Prop} {Rel : fx_S → fx_S → Prop} {σ τ : fx_S} {f : Nat → Int64} {H : Heap} {locs : List Loc} {cells slots : Nat} {ls : Array Slot} {Q : State → Prop} (C : lw_Cx p l s m meth c b L xs D cA A) (hj : 5 * j + 5 ≤ L) (hO : ∀ a0 : Int32, a0 = 0 ∨ a0 = 1 → ∃ σ' τ', F_FixityTrees_begin a0 σ = some ((), σ') ∧ F_Md_begin a0 τ = some ((), τ') ∧ Rel σ' τ') (hw : cx_B D fx_cl A s.heap ([] ++ (lw_w h cA ho σ f ++ (rf_ws h2 cA τ ++ []))) H locs) (hl : lv_has ls 8 [(0, .ref b), (1, .ref (h 0)), (2, .ref (h2 0)), (3, .ref ho), (4, .int (Int32.ofNat (5 * j)))]) (hcs : cells + 1 ≤ 1125 ∧ slots + 6 ≤ 30804) (kk : ∀ (σ' τ' : fx_S) (f' : Nat → Int64) (H' : Heap) (locs' : List Loc) (ls' : Array Slot) (cells' slots' : Nat), Rel σ' τ' → cells' ≤ cells + 1 → slots' ≤ slots + 6 → cx_B D fx_cl A s.heap ([] ++ (lw_w h cA ho σ' f' ++ (rf_ws h2 cA τ' ++ []))) H' locs' → lv_has ls' 8 [(0, .ref b), (1, .ref (h 0)), (2, .ref (h2 0)), (3, .ref ho), (4, .int (Int32.ofNat (5 * j)))] → W p l e room_1 s m #[Value.ref b] below meth c H' locs' cells' slots' Q (F0 m 1121 ls' [])) : W p l e room_1 s m #[Value.ref b] below meth c H locs cells slots Q (F0 m 328 ls []) := by
  obtain ⟨X, hHW, hX, hbl, hbA, hlt, hL⟩ := C
  have hx := X.1.1
  have hb := X.1.2.1
  have Xc : fx_X p m c code 8 s #[Value.ref b] "FixityTreesLaw" D fx_cl (fx_tys cA) fx_g fx_G A := ⟨X.1, X.2.1, X.2.2.1, fx_G_ok, X.2.2.2.2.1⟩
  obtain ⟨σ', τ', hFC, hFR, hRel⟩ := hO (if (xs (Int32.ofNat (5 * j) + 1).toNatClampNeg) = 0 then 0 else 1) (by split <;> simp)
  refine lv_aload_n hx hb dl_328 rfl (lv_at hl 1 rfl) ?_
  refine lv_aload_n hx hb dl_329 rfl (lv_at hl 0 rfl) ?_
  refine lv_iload hx hb dl_330 (lv_at hl 4 rfl) ?_
  refine lv_iconst (v := 1) hx hb dl_332 (by decide) ?_
  refine lv_iadd hx hb dl_333 ?_
  refine va_sld hx hb hX hbl hbA hw.2.2 (lw_in (k := 1) (by omega) hL) dl_334 ?_
  refine lv_if_eq (tgt := 342) hx hb dl_335 (by decide) (fun hc0 => ?_) (fun hc0 => ?_)
  · skip
    refine lv_iconst (v := 0) hx hb dl_342 (by decide) ?_
    refine lx_call_v (w1 := []) (wf := fx_ws h cA) (w3 := [(ho, .inl (cA 1, 1, .inr (.inl f)))] ++ (rf_ws h2 cA τ ++ [])) (As := [.int (if (xs (Int32.ofNat (5 * j) + 1).toNatClampNeg) = 0 then 0 else 1)]) (σ' := σ') Xc hw (c_FixityTrees_begin l D h cA (if (xs (Int32.ofNat (5 * j) + 1).toNatClampNeg) = 0 then 0 else 1)) hFC (fx_cwV Xc lq_92 hg_FixityTrees_begin fx_gok (rm := { frames := 1, cells := 0, slots := 0, locals := 21 }) rfl rfl (by decide +kernel) ⟨Nat.le_of_ble_eq_true rfl, Nat.le_of_ble_eq_true rfl⟩) (va_recv X.2.1 hw.1 (ci := 0) (q0 := 0) rfl rfl) (n := 1) rfl dl_343 hl.1 (by rw [if_pos hc0]; rfl) (lv_room (Nat.le_of_ble_eq_true rfl)) ⟨show cells ≤ 1125 by omega, show slots ≤ 30804 by omega⟩ (fun H locs hw => ?_)
    have hw : cx_B D fx_cl A s.heap ([] ++ (lw_w h cA ho σ' f ++ (rf_ws h2 cA τ ++ []))) H locs := hw
    refine lv_aload_n hx hb dl_346 rfl (lv_at hl 2 rfl) ?_
    refine lv_aload_n hx hb dl_347 rfl (lv_at hl 0 rfl) ?_
    refine lv_iload hx hb dl_348 (lv_at hl 4 rfl) ?_
    refine lv_iconst (v := 1) hx hb dl_350 (by decide) ?_
    refine lv_iadd hx hb dl_351 ?_
    refine va_sld hx hb hX hbl hbA hw.2.2 (lw_in (k := 1) (by omega) hL) dl_352 ?_
    refine lv_if_eq (tgt := 360) hx hb dl_353 (by decide) (fun hc1 => ?_) (fun hc1 => ?_)
    · skip
      refine lv_iconst (v := 0) hx hb dl_360 (by decide) ?_
      refine lx_call_v (w1 := lw_w h cA ho σ' f) (wf := rf_ws h2 cA) (w3 := []) (As := [.int (if (xs (Int32.ofNat (5 * j) + 1).toNatClampNeg) = 0 then 0 else 1)]) Xc hw (c_Md_begin l D h2 cA (if (xs (Int32.ofNat (5 * j) + 1).toNatClampNeg) = 0 then 0 else 1)) hFR (fx_cwV Xc lq_96 hg_Md_begin fx_gok (rm := { frames := 0, cells := 0, slots := 0, locals := 0 }) rfl rfl (by decide +kernel) ⟨Nat.le_of_ble_eq_true rfl, Nat.le_of_ble_eq_true rfl⟩) (va_recv X.2.1 (lx_split (w1 := lw_w h cA ho σ' f) (w2 := rf_ws h2 cA τ) (w3 := []) hw).1 (ci := 8) (q0 := 0) rfl rfl) (n := 1) rfl dl_361 hl.1 (by rw [if_pos hc1]; rfl) (lv_room (Nat.le_of_ble_eq_true rfl)) ⟨show cells ≤ 1125 by omega, show slots ≤ 30804 by omega⟩ (fun H locs hw => ?_)
      refine lv_goto (tgt := 1121) hx hb dl_364 (by decide) ?_
      exact kk _ _ _ _ _ _ _ _ hRel (by omega) (by omega) hw (lv_sub hl [0, 1, 2, 3, 4] rfl)
    · skip
      refine lv_iconst (v := 1) hx hb dl_356 (by decide) ?_
      refine lv_goto (tgt := 361) hx hb dl_357 (by decide) ?_
      refine lx_call_v (w1 := lw_w h cA ho σ' f) (wf := rf_ws h2 cA) (w3 := []) (As := [.int (if (xs (Int32.ofNat (5 * j) + 1).toNatClampNeg) = 0 then 0 else 1)]) Xc hw (c_Md_begin l D h2 cA (if (xs (Int32.ofNat (5 * j) + 1).toNatClampNeg) = 0 then 0 else 1)) hFR (fx_cwV Xc lq_96 hg_Md_begin fx_gok (rm := { frames := 0, cells := 0, slots := 0, locals := 0 }) rfl rfl (by decide +kernel) ⟨Nat.le_of_ble_eq_true rfl, Nat.le_of_ble_eq_true rfl⟩) (va_recv X.2.1 (lx_split (w1 := lw_w h cA ho σ' f) (w2 := rf_ws h2 cA τ) (w3 := []) hw).1 (ci := 8) (q0 := 0) rfl rfl) (n := 1) rfl dl_361 hl.1 (by rw [if_neg hc1]; rfl) (lv_room (Nat.le_of_ble_eq_true rfl)) ⟨show cells ≤ 1125 by omega, show slots ≤ 30804 by omega⟩ (fun H locs hw => ?_)
      refine lv_goto (tgt := 1121) hx hb dl_364 (by decide) ?_
      exact kk _ _ _ _ _ _ _ _ hRel (by omega) (by omega) hw (lv_sub hl [0, 1, 2, 3, 4] rfl)
  · skip
    refine lv_iconst (v := 1) hx hb dl_338 (by decide) ?_
    refine lv_goto (tgt := 343) hx hb dl_339 (by decide) ?_
    refine lx_call_v (w1 := []) (wf := fx_ws h cA) (w3 := [(ho, .inl (cA 1, 1, .inr (.inl f)))] ++ (rf_ws h2 cA τ ++ [])) (As := [.int (if (xs (Int32.ofNat (5 * j) + 1).toNatClampNeg) = 0 then 0 else 1)]) (σ' := σ') Xc hw (c_FixityTrees_begin l D h cA (if (xs (Int32.ofNat (5 * j) + 1).toNatClampNeg) = 0 then 0 else 1)) hFC (fx_cwV Xc lq_92 hg_FixityTrees_begin fx_gok (rm := { frames := 1, cells := 0, slots := 0, locals := 21 }) rfl rfl (by decide +kernel) ⟨Nat.le_of_ble_eq_true rfl, Nat.le_of_ble_eq_true rfl⟩) (va_recv X.2.1 hw.1 (ci := 0) (q0 := 0) rfl rfl) (n := 1) rfl dl_343 hl.1 (by rw [if_neg hc0]; rfl) (lv_room (Nat.le_of_ble_eq_true rfl)) ⟨show cells ≤ 1125 by omega, show slots ≤ 30804 by omega⟩ (fun H locs hw => ?_)
    have hw : cx_B D fx_cl A s.heap ([] ++ (lw_w h cA ho σ' f ++ (rf_ws h2 cA τ ++ []))) H locs := hw
    refine lv_aload_n hx hb dl_346 rfl (lv_at hl 2 rfl) ?_
    refine lv_aload_n hx hb dl_347 rfl (lv_at hl 0 rfl) ?_
    refine lv_iload hx hb dl_348 (lv_at hl 4 rfl) ?_
    refine lv_iconst (v := 1) hx hb dl_350 (by decide) ?_
    refine lv_iadd hx hb dl_351 ?_
    refine va_sld hx hb hX hbl hbA hw.2.2 (lw_in (k := 1) (by omega) hL) dl_352 ?_
    refine lv_if_eq (tgt := 360) hx hb dl_353 (by decide) (fun hc1 => ?_) (fun hc1 => ?_)
    · skip
      refine lv_iconst (v := 0) hx hb dl_360 (by decide) ?_
      refine lx_call_v (w1 := lw_w h cA ho σ' f) (wf := rf_ws h2 cA) (w3 := []) (As := [.int (if (xs (Int32.ofNat (5 * j) + 1).toNatClampNeg) = 0 then 0 else 1)]) Xc hw (c_Md_begin l D h2 cA (if (xs (Int32.ofNat (5 * j) + 1).toNatClampNeg) = 0 then 0 else 1)) hFR (fx_cwV Xc lq_96 hg_Md_begin fx_gok (rm := { frames := 0, cells := 0, slots := 0, locals := 0 }) rfl rfl (by decide +kernel) ⟨Nat.le_of_ble_eq_true rfl, Nat.le_of_ble_eq_true rfl⟩) (va_recv X.2.1 (lx_split (w1 := lw_w h cA ho σ' f) (w2 := rf_ws h2 cA τ) (w3 := []) hw).1 (ci := 8) (q0 := 0) rfl rfl) (n := 1) rfl dl_361 hl.1 (by rw [if_pos hc1]; rfl) (lv_room (Nat.le_of_ble_eq_true rfl)) ⟨show cells ≤ 1125 by omega, show slots ≤ 30804 by omega⟩ (fun H locs hw => ?_)
      refine lv_goto (tgt := 1121) hx hb dl_364 (by decide) ?_
      exact kk _ _ _ _ _ _ _ _ hRel (by omega) (by omega) hw (lv_sub hl [0, 1, 2, 3, 4] rfl)
    · skip
      refine lv_iconst (v := 1) hx hb dl_356 (by decide) ?_
      refine lv_goto (tgt := 361) hx hb dl_357 (by decide) ?_
      refine lx_call_v (w1 := lw_w h cA ho σ' f) (wf := rf_ws h2 cA) (w3 := []) (As := [.int (if (xs (Int32.ofNat (5 * j) + 1).toNatClampNeg) = 0 then 0 else 1)]) Xc hw (c_Md_begin l D h2 cA (if (xs (Int32.ofNat (5 * j) + 1).toNatClampNeg) = 0 then 0 else 1)) hFR (fx_cwV Xc lq_96 hg_Md_begin fx_gok (rm := { frames := 0, cells := 0, slots := 0, locals := 0 }) rfl rfl (by decide +kernel) ⟨Nat.le_of_ble_eq_true rfl, Nat.le_of_ble_eq_true rfl⟩) (va_recv X.2.1 (lx_split (w1 := lw_w h cA ho σ' f) (w2 := rf_ws h2 cA τ) (w3 := []) hw).1 (ci := 8) (q0 := 0) rfl rfl) (n := 1) rfl dl_361 hl.1 (by rw [if_neg hc1]; rfl) (lv_room (Nat.le_of_ble_eq_true rfl)) ⟨show cells ≤ 1125 by omega, show slots ≤ 30804 by omega⟩ (fun H locs hw => ?_)
      refine lv_goto (tgt := 1121) hx hb dl_364 (by decide) ?_
      exact kk _ _ _ _ _ _ _ _ hRel (by omega) (by omega) hw (lv_sub hl [0, 1, 2, 3, 4] rfl)
theorem lo_operand (l : Launch) (D : va_G) (h : Nat → Nat) (cA : Nat → ClassId) (ho : Nat) (hlt : l.stackTraces = false) (a0 : Int64) {Rel : fx_S → fx_S → Prop} {σ τ : fx_S} (f : Nat → Int64) (hO : lw_op Rel [(1, 1)] (F_FixityTrees_operand a0) (F_Md_operand a0) (fun r b => r = b) σ τ) : ∃ (b : Int32) (σ' τ' : fx_S) (k : Int32) (f' : Nat → Int64) (nc : Nat), nc ≤ 1 ∧ F_Md_operand a0 τ = some (b, τ') ∧ Rel σ' τ' ∧ lh_M l y_Lw_operand b_Lw_operand 5 [(0, 9, 12, 15)] { frames := 7, cells := 0, slots := 0, locals := 128 } D h cA ho [.ref (h 0), .long a0, .ref ho] σ f k σ' f' nc ∧ τ'.1 0 = k ∧ (k = 0 → f' ((0 : Int32).toNatClampNeg) = b.toInt64) := by
  obtain ⟨b, σ', τ', h1, h2, h3⟩ := hO
  rcases h3 with ⟨r, g1, g2, g3⟩ | ⟨q, hq, g1, g2⟩
  · exact ⟨b, σ', τ', 0, _, 0, Nat.zero_le _, h1, h2, hr_operand l D h cA ho hlt a0 g1, g2, fun _ => by rw [lw_updL, g3]⟩
  · simp only [List.mem_cons, List.not_mem_nil, or_false] at hq
    subst hq
    · exact ⟨b, σ', τ', 1, f, 1, Nat.le_refl _, h1, h2, hx_operand_1 l D h cA ho hlt a0 g1, g2, fun h9 => absurd h9 (by decide)⟩
set_option maxHeartbeats 4000000 in
set_option maxRecDepth 100000 in
theorem la_operand {p : Program} {l : Launch} {e : Env} {s : State} {m : MethodId} {below : List Frame} {meth : Method} {c : Code} {b L j : Nat} {xs : Nat → Int32} {D : va_G} {h h2 : Nat → Nat} {cA : Nat → ClassId} {ho : Nat} {A : Nat → Prop} {Rel : fx_S → fx_S → Prop} {σ τ : fx_S} {f : Nat → Int64} {H : Heap} {locs : List Loc} {cells slots : Nat} {ls : Array Slot} {Q : State → Prop} (C : lw_Cx p l s m meth c b L xs D cA A) (hj : 5 * j + 5 ≤ L) (hO :∀ (a0 : Int64), lw_op Rel [(1, 1)] (F_FixityTrees_operand a0) (F_Md_operand a0) (fun r b => r = b) σ τ) (hw : cx_B D fx_cl A s.heap ([] ++ (lw_w h cA ho σ f ++ (rf_ws h2 cA τ ++ []))) H locs) (hl : lv_has ls 8 [(0, .ref b), (1, .ref (h 0)), (2, .ref (h2 0)), (3, .ref ho), (4, .int (Int32.ofNat (5 * j)))]) (hcs : cells + 1 ≤ 1125 ∧ slots + 6 ≤ 30804) (kk : ∀ (σ' τ' : fx_S) (f' : Nat → Int64) (H' : Heap) (locs' : List Loc) (ls' : Array Slot) (cells' slots' : Nat), Rel σ' τ' → cells' ≤ cells + 1 → slots' ≤ slots + 6 → cx_B D fx_cl A s.heap ([] ++ (lw_w h cA ho σ' f' ++ (rf_ws h2 cA τ' ++ []))) H' locs' → lv_has ls' 8 [(0, .ref b), (1, .ref (h 0)), (2, .ref (h2 0)), (3, .ref ho), (4, .int (Int32.ofNat (5 * j)))] → W p l e room_1 s m #[Value.ref b] below meth c H' locs' cells' slots' Q (F0 m 1121 ls' [])) : W p l e room_1 s m #[Value.ref b] below meth c H locs cells slots Q (F0 m 367 ls []) := by
  obtain ⟨X, hHW, hX, hbl, hbA, hlt, hL⟩ := C
  have hx := X.1.1
  have hb := X.1.2.1
  have Xc : fx_X p m c code 8 s #[Value.ref b] "FixityTreesLaw" D fx_cl (fx_tys cA) fx_g fx_G A := ⟨X.1, X.2.1, X.2.2.1, fx_G_ok, X.2.2.2.2.1⟩
  obtain ⟨r, σ', τ', k, f', nc, hnc, hFR, hRel, hM, hk, hout⟩ := lo_operand l D h cA ho hlt (((xs (Int32.ofNat (5 * j) + 1).toNatClampNeg).toInt64 <<< ((32 : Int32).toInt64 &&& 63)) ||| ((xs (Int32.ofNat (5 * j) + 2).toNatClampNeg).toInt64 &&& 4294967295)) f (hO (((xs (Int32.ofNat (5 * j) + 1).toNatClampNeg).toInt64 <<< ((32 : Int32).toInt64 &&& 63)) ||| ((xs (Int32.ofNat (5 * j) + 2).toNatClampNeg).toInt64 &&& 4294967295)))
  refine lv_aload_n hx hb dl_367 rfl (lv_at hl 1 rfl) ?_
  refine lv_aload_n hx hb dl_368 rfl (lv_at hl 0 rfl) ?_
  refine lv_iload hx hb dl_369 (lv_at hl 4 rfl) ?_
  refine lv_iconst (v := 1) hx hb dl_371 (by decide) ?_
  refine lv_iadd hx hb dl_372 ?_
  refine va_sld hx hb hX hbl hbA hw.2.2 (lw_in (k := 1) (by omega) hL) dl_373 ?_
  refine lv_i2l hx hb dl_374 rfl ?_
  refine lv_bipush (v := 32) hx hb dl_375 (by decide) ?_
  refine lv_lshl hx hb dl_377 rfl ?_
  refine lv_aload_n hx hb dl_378 rfl (lv_at hl 0 rfl) ?_
  refine lv_iload hx hb dl_379 (lv_at hl 4 rfl) ?_
  refine lv_iconst (v := 2) hx hb dl_381 (by decide) ?_
  refine lv_iadd hx hb dl_382 ?_
  refine va_sld hx hb hX hbl hbA hw.2.2 (lw_in (k := 2) (by omega) hL) dl_383 ?_
  refine lv_i2l hx hb dl_384 rfl ?_
  refine lv_ldc2 (v := 4294967295) hx hb X.1.2.2.2.1 (X.1.2.2.2.2 _ (fx_in (w := .constantLong "FixityTreesLaw" 97 4294967295) 1268 (by decide +kernel) (by decide +kernel))) dl_385 ?_
  refine lv_land hx hb dl_388 ?_
  refine lv_lor hx hb dl_389 ?_
  refine lv_aload_n hx hb dl_390 rfl (lv_at hl 3 rfl) ?_
  refine lx_callH (As := [.ref (h 0), .long (((xs (Int32.ofNat (5 * j) + 1).toNatClampNeg).toInt64 <<< ((32 : Int32).toInt64 &&& 63)) ||| ((xs (Int32.ofNat (5 * j) + 2).toNatClampNeg).toInt64 &&& 4294967295)), .ref ho]) X hHW hw hM lq_99 hg_Lw_operand (by decide +kernel) ⟨Nat.le_of_ble_eq_true rfl, Nat.le_of_ble_eq_true rfl⟩ (n := 3) rfl dl_391 hl.1 rfl (lv_room (Nat.le_of_ble_eq_true rfl)) ⟨show cells + nc ≤ 1125 by omega, show slots + 6 * nc ≤ 30804 by omega⟩ (fun H locs hw => ?_)
  refine lv_istore (lv' := [(5, .int k), (0, .ref b), (1, .ref (h 0)), (2, .ref (h2 0)), (3, .ref ho), (4, .int (Int32.ofNat (5 * j)))]) hx hb dl_394 hl (by decide) rfl (fun ls hl => ?_)
  refine lv_aload_n hx hb dl_396 rfl (lv_at hl 3 rfl) ?_
  refine lv_aload_n hx hb dl_397 rfl (lv_at hl 1 rfl) ?_
  refine lv_iload hx hb dl_398 (lv_at hl 5 rfl) ?_
  refine lv_iconst (v := 1) hx hb dl_400 (by decide) ?_
  refine lv_iadd hx hb dl_401 ?_
  refine va_sld hx hb hX hbl hbA hw.2.2 (lw_in (k := 1) (by omega) hL) dl_402 ?_
  refine lv_i2l hx hb dl_403 rfl ?_
  refine lv_bipush (v := 32) hx hb dl_404 (by decide) ?_
  refine lv_lshl hx hb dl_406 rfl ?_
  refine lv_aload_n hx hb dl_407 rfl (lv_at hl 1 rfl) ?_
  refine lv_iload hx hb dl_408 (lv_at hl 5 rfl) ?_
  refine lv_iconst (v := 2) hx hb dl_410 (by decide) ?_
  refine lv_iadd hx hb dl_411 ?_
  refine va_sld hx hb hX hbl hbA hw.2.2 (lw_in (k := 2) (by omega) hL) dl_412 ?_
  refine lv_i2l hx hb dl_413 rfl ?_
  refine lv_ldc2 (v := 4294967295) hx hb X.1.2.2.2.1 (X.1.2.2.2.2 _ (fx_in (w := .constantLong "FixityTreesLaw" 97 4294967295) 1268 (by decide +kernel) (by decide +kernel))) dl_414 ?_
  refine lv_land hx hb dl_417 ?_
  refine lv_lor hx hb dl_418 ?_
  refine lx_call_i (w1 := lw_w h cA ho σ' f') (wf := rf_ws h2 cA) (w3 := []) (As := [.long (((xs (Int32.ofNat (5 * j) + 1).toNatClampNeg).toInt64 <<< ((32 : Int32).toInt64 &&& 63)) ||| ((xs (Int32.ofNat (5 * j) + 2).toNatClampNeg).toInt64 &&& 4294967295))]) Xc hw (c_Md_operand l D h2 cA (((xs (Int32.ofNat (5 * j) + 1).toNatClampNeg).toInt64 <<< ((32 : Int32).toInt64 &&& 63)) ||| ((xs (Int32.ofNat (5 * j) + 2).toNatClampNeg).toInt64 &&& 4294967295))) hFR (fx_cwV Xc lq_102 hg_Md_operand fx_gok (rm := { frames := 2, cells := 0, slots := 0, locals := 42 }) rfl rfl (by decide +kernel) ⟨Nat.le_of_ble_eq_true rfl, Nat.le_of_ble_eq_true rfl⟩) (va_recv X.2.1 (lx_split (w1 := lw_w h cA ho σ' f') (w2 := rf_ws h2 cA τ) (w3 := []) hw).1 (ci := 8) (q0 := 0) rfl rfl) (n := 1) rfl dl_419 hl.1 rfl (lv_room (Nat.le_of_ble_eq_true rfl)) ⟨show cells + nc ≤ 1125 by omega, show slots + 6 * nc ≤ 30804 by omega⟩ (fun H locs hw => ?_)
  refine lv_istore (lv' := [(6, .int r), (5, .int k), (0, .ref b), (1, .ref (h 0)), (2, .ref (h2 0)), (3, .ref ho), (4, .int (Int32.ofNat (5 * j)))]) hx hb dl_422 hl (by decide) rfl (fun ls hl => ?_)
  refine lv_aload_n hx hb dl_424 rfl (lv_at hl 4 rfl) ?_
  refine lx_call_i (w1 := lw_w h cA ho σ' f') (wf := rf_ws h2 cA) (w3 := []) (As := []) Xc hw (c_Md_thrown l D h2 cA) (lw_thrown _) (fx_cwV Xc lq_81 hg_Md_thrown fx_gok (rm := { frames := 0, cells := 0, slots := 0, locals := 0 }) rfl rfl (by decide +kernel) ⟨Nat.le_of_ble_eq_true rfl, Nat.le_of_ble_eq_true rfl⟩) (va_recv X.2.1 (lx_split (w1 := lw_w h cA ho σ' f') (w2 := rf_ws h2 cA τ') (w3 := []) hw).1 (ci := 8) (q0 := 0) rfl rfl) (n := 0) rfl dl_425 hl.1 rfl (lv_room (Nat.le_of_ble_eq_true rfl)) ⟨show cells + nc ≤ 1125 by omega, show slots + 6 * nc ≤ 30804 by omega⟩ (fun H locs hw => ?_)
  refine lv_iload hx hb dl_428 (lv_at hl 1 rfl) ?_
  refine lv_icmp_eq (tgt := 435) hx hb dl_430 (by decide) (fun hc => ?_) (fun hc => absurd hk hc)
  refine lv_iload hx hb dl_435 (lv_at hl 1 rfl) ?_
  refine lv_if_ne (tgt := 452) hx hb dl_437 (by decide) (fun hk0 => ?_) (fun hk0 => ?_)
  · skip
    refine lv_goto (tgt := 1121) hx hb dl_452 (by decide) ?_
    exact kk _ _ _ _ _ _ _ _ hRel (by omega) (by omega) hw (lv_sub hl [2, 3, 4, 5, 6] rfl)
  · have hk0 : k = 0 := hk0
    refine lv_aload_n hx hb dl_440 rfl (lv_at hl 5 rfl) ?_
    refine lv_iconst (v := 0) hx hb dl_441 (by decide) ?_
    refine va_lald hx hb X.2.1 hw.1 48 1 rfl rfl (by show ¬ ((0 : Int32) < 0 ∨ 1 ≤ (0 : Int32).toNatClampNeg); decide) dl_442 ?_
    rw [hout hk0]
    refine lv_iload hx hb dl_443 (lv_at hl 0 rfl) ?_
    refine lv_i2l hx hb dl_445 rfl ?_
    refine W.lcmp hx hb dl_446 ?_
    refine lv_if_eq (tgt := 452) hx hb dl_447 (by decide) (fun hc => ?_) (fun hc => absurd (lw_cmp _) hc)
    refine lv_goto (tgt := 1121) hx hb dl_452 (by decide) ?_
    exact kk _ _ _ _ _ _ _ _ hRel (by omega) (by omega) hw (lv_sub hl [2, 3, 4, 5, 6] rfl)
theorem lo_operator (l : Launch) (D : va_G) (h : Nat → Nat) (cA : Nat → ClassId) (ho : Nat) (hlt : l.stackTraces = false) (a0 : Int32) {Rel : fx_S → fx_S → Prop} {σ τ : fx_S} (f : Nat → Int64) (hO : lw_op Rel [(0, 1), (1, 2)] (F_FixityTrees_operator a0) (F_Md_operator a0) (fun r b => r = b) σ τ) : ∃ (b : Int32) (σ' τ' : fx_S) (k : Int32) (f' : Nat → Int64) (nc : Nat), nc ≤ 1 ∧ F_Md_operator a0 τ = some (b, τ') ∧ Rel σ' τ' ∧ lh_M l y_Lw_operator b_Lw_operator 4 [(0, 9, 12, 13), (0, 9, 15, 15)] { frames := 8, cells := 0, slots := 0, locals := 134 } D h cA ho [.ref (h 0), .int a0, .ref ho] σ f k σ' f' nc ∧ τ'.1 0 = k ∧ (k = 0 → f' ((0 : Int32).toNatClampNeg) = b.toInt64) := by
  obtain ⟨b, σ', τ', h1, h2, h3⟩ := hO
  rcases h3 with ⟨r, g1, g2, g3⟩ | ⟨q, hq, g1, g2⟩
  · exact ⟨b, σ', τ', 0, _, 0, Nat.zero_le _, h1, h2, hr_operator l D h cA ho hlt a0 g1, g2, fun _ => by rw [lw_updL, g3]⟩
  · simp only [List.mem_cons, List.not_mem_nil, or_false] at hq
    rcases hq with rfl | rfl
    · exact ⟨b, σ', τ', 1, f, 1, Nat.le_refl _, h1, h2, hx_operator_0 l D h cA ho hlt a0 g1, g2, fun h9 => absurd h9 (by decide)⟩
    · exact ⟨b, σ', τ', 2, f, 1, Nat.le_refl _, h1, h2, hx_operator_1 l D h cA ho hlt a0 g1, g2, fun h9 => absurd h9 (by decide)⟩
set_option maxHeartbeats 4000000 in
set_option maxRecDepth 100000 in
theorem la_operator {p : Program} {l : Launch} {e : Env} {s : State} {m : MethodId} {below : List Frame} {meth : Method} {c : Code} {b L j : Nat} {xs : Nat → Int32} {D : va_G} {h h2 : Nat → Nat} {cA : Nat → ClassId} {ho : Nat} {A : Nat → Prop} {Rel : fx_S → fx_S → Prop} {σ τ : fx_S} {f : Nat → Int64} {H : Heap} {locs : List Loc} {cells slots : Nat} {ls : Array Slot} {Q : State → Prop} (C : lw_Cx p l s m meth c b L xs D cA A) (hj : 5 * j + 5 ≤ L) (hO :∀ (a0 : Int32), lw_op Rel [(0, 1), (1, 2)] (F_FixityTrees_operator a0) (F_Md_operator a0) (fun r b => r = b) σ τ) (hw : cx_B D fx_cl A s.heap ([] ++ (lw_w h cA ho σ f ++ (rf_ws h2 cA τ ++ []))) H locs) (hl : lv_has ls 8 [(0, .ref b), (1, .ref (h 0)), (2, .ref (h2 0)), (3, .ref ho), (4, .int (Int32.ofNat (5 * j)))]) (hcs : cells + 1 ≤ 1125 ∧ slots + 6 ≤ 30804) (kk : ∀ (σ' τ' : fx_S) (f' : Nat → Int64) (H' : Heap) (locs' : List Loc) (ls' : Array Slot) (cells' slots' : Nat), Rel σ' τ' → cells' ≤ cells + 1 → slots' ≤ slots + 6 → cx_B D fx_cl A s.heap ([] ++ (lw_w h cA ho σ' f' ++ (rf_ws h2 cA τ' ++ []))) H' locs' → lv_has ls' 8 [(0, .ref b), (1, .ref (h 0)), (2, .ref (h2 0)), (3, .ref ho), (4, .int (Int32.ofNat (5 * j)))] → W p l e room_1 s m #[Value.ref b] below meth c H' locs' cells' slots' Q (F0 m 1121 ls' [])) : W p l e room_1 s m #[Value.ref b] below meth c H locs cells slots Q (F0 m 455 ls []) := by
  obtain ⟨X, hHW, hX, hbl, hbA, hlt, hL⟩ := C
  have hx := X.1.1
  have hb := X.1.2.1
  have Xc : fx_X p m c code 8 s #[Value.ref b] "FixityTreesLaw" D fx_cl (fx_tys cA) fx_g fx_G A := ⟨X.1, X.2.1, X.2.2.1, fx_G_ok, X.2.2.2.2.1⟩
  obtain ⟨r, σ', τ', k, f', nc, hnc, hFR, hRel, hM, hk, hout⟩ := lo_operator l D h cA ho hlt (xs (Int32.ofNat (5 * j) + 1).toNatClampNeg) f (hO (xs (Int32.ofNat (5 * j) + 1).toNatClampNeg))
  refine lv_aload_n hx hb dl_455 rfl (lv_at hl 1 rfl) ?_
  refine lv_aload_n hx hb dl_456 rfl (lv_at hl 0 rfl) ?_
  refine lv_iload hx hb dl_457 (lv_at hl 4 rfl) ?_
  refine lv_iconst (v := 1) hx hb dl_459 (by decide) ?_
  refine lv_iadd hx hb dl_460 ?_
  refine va_sld hx hb hX hbl hbA hw.2.2 (lw_in (k := 1) (by omega) hL) dl_461 ?_
  refine lv_aload_n hx hb dl_462 rfl (lv_at hl 3 rfl) ?_
  refine lx_callH (As := [.ref (h 0), .int (xs (Int32.ofNat (5 * j) + 1).toNatClampNeg), .ref ho]) X hHW hw hM lq_103 hg_Lw_operator (by decide +kernel) ⟨Nat.le_of_ble_eq_true rfl, Nat.le_of_ble_eq_true rfl⟩ (n := 3) rfl dl_463 hl.1 rfl (lv_room (Nat.le_of_ble_eq_true rfl)) ⟨show cells + nc ≤ 1125 by omega, show slots + 6 * nc ≤ 30804 by omega⟩ (fun H locs hw => ?_)
  refine lv_istore (lv' := [(5, .int k), (0, .ref b), (1, .ref (h 0)), (2, .ref (h2 0)), (3, .ref ho), (4, .int (Int32.ofNat (5 * j)))]) hx hb dl_466 hl (by decide) rfl (fun ls hl => ?_)
  refine lv_aload_n hx hb dl_468 rfl (lv_at hl 3 rfl) ?_
  refine lv_aload_n hx hb dl_469 rfl (lv_at hl 1 rfl) ?_
  refine lv_iload hx hb dl_470 (lv_at hl 5 rfl) ?_
  refine lv_iconst (v := 1) hx hb dl_472 (by decide) ?_
  refine lv_iadd hx hb dl_473 ?_
  refine va_sld hx hb hX hbl hbA hw.2.2 (lw_in (k := 1) (by omega) hL) dl_474 ?_
  refine lx_call_i (w1 := lw_w h cA ho σ' f') (wf := rf_ws h2 cA) (w3 := []) (As := [.int (xs (Int32.ofNat (5 * j) + 1).toNatClampNeg)]) Xc hw (c_Md_operator l D h2 cA (xs (Int32.ofNat (5 * j) + 1).toNatClampNeg)) hFR (fx_cwV Xc lq_105 hg_Md_operator fx_gok (rm := { frames := 2, cells := 0, slots := 0, locals := 42 }) rfl rfl (by decide +kernel) ⟨Nat.le_of_ble_eq_true rfl, Nat.le_of_ble_eq_true rfl⟩) (va_recv X.2.1 (lx_split (w1 := lw_w h cA ho σ' f') (w2 := rf_ws h2 cA τ) (w3 := []) hw).1 (ci := 8) (q0 := 0) rfl rfl) (n := 1) rfl dl_475 hl.1 rfl (lv_room (Nat.le_of_ble_eq_true rfl)) ⟨show cells + nc ≤ 1125 by omega, show slots + 6 * nc ≤ 30804 by omega⟩ (fun H locs hw => ?_)
  refine lv_istore (lv' := [(6, .int r), (5, .int k), (0, .ref b), (1, .ref (h 0)), (2, .ref (h2 0)), (3, .ref ho), (4, .int (Int32.ofNat (5 * j)))]) hx hb dl_478 hl (by decide) rfl (fun ls hl => ?_)
  refine lv_aload_n hx hb dl_480 rfl (lv_at hl 4 rfl) ?_
  refine lx_call_i (w1 := lw_w h cA ho σ' f') (wf := rf_ws h2 cA) (w3 := []) (As := []) Xc hw (c_Md_thrown l D h2 cA) (lw_thrown _) (fx_cwV Xc lq_81 hg_Md_thrown fx_gok (rm := { frames := 0, cells := 0, slots := 0, locals := 0 }) rfl rfl (by decide +kernel) ⟨Nat.le_of_ble_eq_true rfl, Nat.le_of_ble_eq_true rfl⟩) (va_recv X.2.1 (lx_split (w1 := lw_w h cA ho σ' f') (w2 := rf_ws h2 cA τ') (w3 := []) hw).1 (ci := 8) (q0 := 0) rfl rfl) (n := 0) rfl dl_481 hl.1 rfl (lv_room (Nat.le_of_ble_eq_true rfl)) ⟨show cells + nc ≤ 1125 by omega, show slots + 6 * nc ≤ 30804 by omega⟩ (fun H locs hw => ?_)
  refine lv_iload hx hb dl_484 (lv_at hl 1 rfl) ?_
  refine lv_icmp_eq (tgt := 491) hx hb dl_486 (by decide) (fun hc => ?_) (fun hc => absurd hk hc)
  refine lv_iload hx hb dl_491 (lv_at hl 1 rfl) ?_
  refine lv_if_ne (tgt := 508) hx hb dl_493 (by decide) (fun hk0 => ?_) (fun hk0 => ?_)
  · skip
    refine lv_goto (tgt := 1121) hx hb dl_508 (by decide) ?_
    exact kk _ _ _ _ _ _ _ _ hRel (by omega) (by omega) hw (lv_sub hl [2, 3, 4, 5, 6] rfl)
  · have hk0 : k = 0 := hk0
    refine lv_aload_n hx hb dl_496 rfl (lv_at hl 5 rfl) ?_
    refine lv_iconst (v := 0) hx hb dl_497 (by decide) ?_
    refine va_lald hx hb X.2.1 hw.1 48 1 rfl rfl (by show ¬ ((0 : Int32) < 0 ∨ 1 ≤ (0 : Int32).toNatClampNeg); decide) dl_498 ?_
    rw [hout hk0]
    refine lv_iload hx hb dl_499 (lv_at hl 0 rfl) ?_
    refine lv_i2l hx hb dl_501 rfl ?_
    refine W.lcmp hx hb dl_502 ?_
    refine lv_if_eq (tgt := 508) hx hb dl_503 (by decide) (fun hc => ?_) (fun hc => absurd (lw_cmp _) hc)
    refine lv_goto (tgt := 1121) hx hb dl_508 (by decide) ?_
    exact kk _ _ _ _ _ _ _ _ hRel (by omega) (by omega) hw (lv_sub hl [2, 3, 4, 5, 6] rfl)
theorem lo_open (l : Launch) (D : va_G) (h : Nat → Nat) (cA : Nat → ClassId) (ho : Nat) (hlt : l.stackTraces = false) {Rel : fx_S → fx_S → Prop} {σ τ : fx_S} (f : Nat → Int64) (hO : lw_op Rel [(1, 1)] (F_FixityTrees_open) (F_Md_open) (fun r b => r = b) σ τ) : ∃ (b : Int32) (σ' τ' : fx_S) (k : Int32) (f' : Nat → Int64) (nc : Nat), nc ≤ 1 ∧ F_Md_open τ = some (b, τ') ∧ Rel σ' τ' ∧ lh_M l y_Lw_open b_Lw_open 3 [(0, 8, 11, 15)] { frames := 7, cells := 0, slots := 0, locals := 126 } D h cA ho [.ref (h 0), .ref ho] σ f k σ' f' nc ∧ τ'.1 0 = k ∧ (k = 0 → f' ((0 : Int32).toNatClampNeg) = b.toInt64) := by
  obtain ⟨b, σ', τ', h1, h2, h3⟩ := hO
  rcases h3 with ⟨r, g1, g2, g3⟩ | ⟨q, hq, g1, g2⟩
  · exact ⟨b, σ', τ', 0, _, 0, Nat.zero_le _, h1, h2, hr_open l D h cA ho hlt g1, g2, fun _ => by rw [lw_updL, g3]⟩
  · simp only [List.mem_cons, List.not_mem_nil, or_false] at hq
    subst hq
    · exact ⟨b, σ', τ', 1, f, 1, Nat.le_refl _, h1, h2, hx_open_1 l D h cA ho hlt g1, g2, fun h9 => absurd h9 (by decide)⟩
set_option maxHeartbeats 4000000 in
set_option maxRecDepth 100000 in
theorem la_open {p : Program} {l : Launch} {e : Env} {s : State} {m : MethodId} {below : List Frame} {meth : Method} {c : Code} {b L j : Nat} {xs : Nat → Int32} {D : va_G} {h h2 : Nat → Nat} {cA : Nat → ClassId} {ho : Nat} {A : Nat → Prop} {Rel : fx_S → fx_S → Prop} {σ τ : fx_S} {f : Nat → Int64} {H : Heap} {locs : List Loc} {cells slots : Nat} {ls : Array Slot} {Q : State → Prop} (C : lw_Cx p l s m meth c b L xs D cA A) (hj : 5 * j + 5 ≤ L) (hO : lw_op Rel [(1, 1)] (F_FixityTrees_open) (F_Md_open) (fun r b => r = b) σ τ) (hw : cx_B D fx_cl A s.heap ([] ++ (lw_w h cA ho σ f ++ (rf_ws h2 cA τ ++ []))) H locs) (hl : lv_has ls 8 [(0, .ref b), (1, .ref (h 0)), (2, .ref (h2 0)), (3, .ref ho), (4, .int (Int32.ofNat (5 * j)))]) (hcs : cells + 1 ≤ 1125 ∧ slots + 6 ≤ 30804) (kk : ∀ (σ' τ' : fx_S) (f' : Nat → Int64) (H' : Heap) (locs' : List Loc) (ls' : Array Slot) (cells' slots' : Nat), Rel σ' τ' → cells' ≤ cells + 1 → slots' ≤ slots + 6 → cx_B D fx_cl A s.heap ([] ++ (lw_w h cA ho σ' f' ++ (rf_ws h2 cA τ' ++ []))) H' locs' → lv_has ls' 8 [(0, .ref b), (1, .ref (h 0)), (2, .ref (h2 0)), (3, .ref ho), (4, .int (Int32.ofNat (5 * j)))] → W p l e room_1 s m #[Value.ref b] below meth c H' locs' cells' slots' Q (F0 m 1121 ls' [])) : W p l e room_1 s m #[Value.ref b] below meth c H locs cells slots Q (F0 m 511 ls []) := by
  obtain ⟨X, hHW, hX, hbl, hbA, hlt, hL⟩ := C
  have hx := X.1.1
  have hb := X.1.2.1
  have Xc : fx_X p m c code 8 s #[Value.ref b] "FixityTreesLaw" D fx_cl (fx_tys cA) fx_g fx_G A := ⟨X.1, X.2.1, X.2.2.1, fx_G_ok, X.2.2.2.2.1⟩
  obtain ⟨r, σ', τ', k, f', nc, hnc, hFR, hRel, hM, hk, hout⟩ := lo_open l D h cA ho hlt f (hO)
  refine lv_aload_n hx hb dl_511 rfl (lv_at hl 1 rfl) ?_
  refine lv_aload_n hx hb dl_512 rfl (lv_at hl 3 rfl) ?_
  refine lx_callH (As := [.ref (h 0), .ref ho]) X hHW hw hM lq_106 hg_Lw_open (by decide +kernel) ⟨Nat.le_of_ble_eq_true rfl, Nat.le_of_ble_eq_true rfl⟩ (n := 2) rfl dl_513 hl.1 rfl (lv_room (Nat.le_of_ble_eq_true rfl)) ⟨show cells + nc ≤ 1125 by omega, show slots + 6 * nc ≤ 30804 by omega⟩ (fun H locs hw => ?_)
  refine lv_istore (lv' := [(5, .int k), (0, .ref b), (1, .ref (h 0)), (2, .ref (h2 0)), (3, .ref ho), (4, .int (Int32.ofNat (5 * j)))]) hx hb dl_516 hl (by decide) rfl (fun ls hl => ?_)
  refine lv_aload_n hx hb dl_518 rfl (lv_at hl 3 rfl) ?_
  refine lx_call_i (w1 := lw_w h cA ho σ' f') (wf := rf_ws h2 cA) (w3 := []) (As := []) Xc hw (c_Md_open l D h2 cA) hFR (fx_cwV Xc lq_109 hg_Md_open fx_gok (rm := { frames := 2, cells := 0, slots := 0, locals := 42 }) rfl rfl (by decide +kernel) ⟨Nat.le_of_ble_eq_true rfl, Nat.le_of_ble_eq_true rfl⟩) (va_recv X.2.1 (lx_split (w1 := lw_w h cA ho σ' f') (w2 := rf_ws h2 cA τ) (w3 := []) hw).1 (ci := 8) (q0 := 0) rfl rfl) (n := 0) rfl dl_519 hl.1 rfl (lv_room (Nat.le_of_ble_eq_true rfl)) ⟨show cells + nc ≤ 1125 by omega, show slots + 6 * nc ≤ 30804 by omega⟩ (fun H locs hw => ?_)
  refine lv_istore (lv' := [(6, .int r), (5, .int k), (0, .ref b), (1, .ref (h 0)), (2, .ref (h2 0)), (3, .ref ho), (4, .int (Int32.ofNat (5 * j)))]) hx hb dl_522 hl (by decide) rfl (fun ls hl => ?_)
  refine lv_aload_n hx hb dl_524 rfl (lv_at hl 4 rfl) ?_
  refine lx_call_i (w1 := lw_w h cA ho σ' f') (wf := rf_ws h2 cA) (w3 := []) (As := []) Xc hw (c_Md_thrown l D h2 cA) (lw_thrown _) (fx_cwV Xc lq_81 hg_Md_thrown fx_gok (rm := { frames := 0, cells := 0, slots := 0, locals := 0 }) rfl rfl (by decide +kernel) ⟨Nat.le_of_ble_eq_true rfl, Nat.le_of_ble_eq_true rfl⟩) (va_recv X.2.1 (lx_split (w1 := lw_w h cA ho σ' f') (w2 := rf_ws h2 cA τ') (w3 := []) hw).1 (ci := 8) (q0 := 0) rfl rfl) (n := 0) rfl dl_525 hl.1 rfl (lv_room (Nat.le_of_ble_eq_true rfl)) ⟨show cells + nc ≤ 1125 by omega, show slots + 6 * nc ≤ 30804 by omega⟩ (fun H locs hw => ?_)
  refine lv_iload hx hb dl_528 (lv_at hl 1 rfl) ?_
  refine lv_icmp_eq (tgt := 535) hx hb dl_530 (by decide) (fun hc => ?_) (fun hc => absurd hk hc)
  refine lv_iload hx hb dl_535 (lv_at hl 1 rfl) ?_
  refine lv_if_ne (tgt := 552) hx hb dl_537 (by decide) (fun hk0 => ?_) (fun hk0 => ?_)
  · skip
    refine lv_goto (tgt := 1121) hx hb dl_552 (by decide) ?_
    exact kk _ _ _ _ _ _ _ _ hRel (by omega) (by omega) hw (lv_sub hl [2, 3, 4, 5, 6] rfl)
  · have hk0 : k = 0 := hk0
    refine lv_aload_n hx hb dl_540 rfl (lv_at hl 5 rfl) ?_
    refine lv_iconst (v := 0) hx hb dl_541 (by decide) ?_
    refine va_lald hx hb X.2.1 hw.1 48 1 rfl rfl (by show ¬ ((0 : Int32) < 0 ∨ 1 ≤ (0 : Int32).toNatClampNeg); decide) dl_542 ?_
    rw [hout hk0]
    refine lv_iload hx hb dl_543 (lv_at hl 0 rfl) ?_
    refine lv_i2l hx hb dl_545 rfl ?_
    refine W.lcmp hx hb dl_546 ?_
    refine lv_if_eq (tgt := 552) hx hb dl_547 (by decide) (fun hc => ?_) (fun hc => absurd (lw_cmp _) hc)
    refine lv_goto (tgt := 1121) hx hb dl_552 (by decide) ?_
    exact kk _ _ _ _ _ _ _ _ hRel (by omega) (by omega) hw (lv_sub hl [2, 3, 4, 5, 6] rfl)
theorem lo_close (l : Launch) (D : va_G) (h : Nat → Nat) (cA : Nat → ClassId) (ho : Nat) (hlt : l.stackTraces = false) {Rel : fx_S → fx_S → Prop} {σ τ : fx_S} (f : Nat → Int64) (hO : lw_op Rel [(1, 1)] (F_FixityTrees_close) (F_Md_close) (fun r b => r = b) σ τ) : ∃ (b : Int32) (σ' τ' : fx_S) (k : Int32) (f' : Nat → Int64) (nc : Nat), nc ≤ 1 ∧ F_Md_close τ = some (b, τ') ∧ Rel σ' τ' ∧ lh_M l y_Lw_close b_Lw_close 3 [(0, 8, 11, 15)] { frames := 7, cells := 0, slots := 0, locals := 126 } D h cA ho [.ref (h 0), .ref ho] σ f k σ' f' nc ∧ τ'.1 0 = k ∧ (k = 0 → f' ((0 : Int32).toNatClampNeg) = b.toInt64) := by
  obtain ⟨b, σ', τ', h1, h2, h3⟩ := hO
  rcases h3 with ⟨r, g1, g2, g3⟩ | ⟨q, hq, g1, g2⟩
  · exact ⟨b, σ', τ', 0, _, 0, Nat.zero_le _, h1, h2, hr_close l D h cA ho hlt g1, g2, fun _ => by rw [lw_updL, g3]⟩
  · simp only [List.mem_cons, List.not_mem_nil, or_false] at hq
    subst hq
    · exact ⟨b, σ', τ', 1, f, 1, Nat.le_refl _, h1, h2, hx_close_1 l D h cA ho hlt g1, g2, fun h9 => absurd h9 (by decide)⟩
set_option maxHeartbeats 4000000 in
set_option maxRecDepth 100000 in
theorem la_close {p : Program} {l : Launch} {e : Env} {s : State} {m : MethodId} {below : List Frame} {meth : Method} {c : Code} {b L j : Nat} {xs : Nat → Int32} {D : va_G} {h h2 : Nat → Nat} {cA : Nat → ClassId} {ho : Nat} {A : Nat → Prop} {Rel : fx_S → fx_S → Prop} {σ τ : fx_S} {f : Nat → Int64} {H : Heap} {locs : List Loc} {cells slots : Nat} {ls : Array Slot} {Q : State → Prop} (C : lw_Cx p l s m meth c b L xs D cA A) (hj : 5 * j + 5 ≤ L) (hO : lw_op Rel [(1, 1)] (F_FixityTrees_close) (F_Md_close) (fun r b => r = b) σ τ) (hw : cx_B D fx_cl A s.heap ([] ++ (lw_w h cA ho σ f ++ (rf_ws h2 cA τ ++ []))) H locs) (hl : lv_has ls 8 [(0, .ref b), (1, .ref (h 0)), (2, .ref (h2 0)), (3, .ref ho), (4, .int (Int32.ofNat (5 * j)))]) (hcs : cells + 1 ≤ 1125 ∧ slots + 6 ≤ 30804) (kk : ∀ (σ' τ' : fx_S) (f' : Nat → Int64) (H' : Heap) (locs' : List Loc) (ls' : Array Slot) (cells' slots' : Nat), Rel σ' τ' → cells' ≤ cells + 1 → slots' ≤ slots + 6 → cx_B D fx_cl A s.heap ([] ++ (lw_w h cA ho σ' f' ++ (rf_ws h2 cA τ' ++ []))) H' locs' → lv_has ls' 8 [(0, .ref b), (1, .ref (h 0)), (2, .ref (h2 0)), (3, .ref ho), (4, .int (Int32.ofNat (5 * j)))] → W p l e room_1 s m #[Value.ref b] below meth c H' locs' cells' slots' Q (F0 m 1121 ls' [])) : W p l e room_1 s m #[Value.ref b] below meth c H locs cells slots Q (F0 m 555 ls []) := by
  obtain ⟨X, hHW, hX, hbl, hbA, hlt, hL⟩ := C
  have hx := X.1.1
  have hb := X.1.2.1
  have Xc : fx_X p m c code 8 s #[Value.ref b] "FixityTreesLaw" D fx_cl (fx_tys cA) fx_g fx_G A := ⟨X.1, X.2.1, X.2.2.1, fx_G_ok, X.2.2.2.2.1⟩
  obtain ⟨r, σ', τ', k, f', nc, hnc, hFR, hRel, hM, hk, hout⟩ := lo_close l D h cA ho hlt f (hO)
  refine lv_aload_n hx hb dl_555 rfl (lv_at hl 1 rfl) ?_
  refine lv_aload_n hx hb dl_556 rfl (lv_at hl 3 rfl) ?_
  refine lx_callH (As := [.ref (h 0), .ref ho]) X hHW hw hM lq_110 hg_Lw_close (by decide +kernel) ⟨Nat.le_of_ble_eq_true rfl, Nat.le_of_ble_eq_true rfl⟩ (n := 2) rfl dl_557 hl.1 rfl (lv_room (Nat.le_of_ble_eq_true rfl)) ⟨show cells + nc ≤ 1125 by omega, show slots + 6 * nc ≤ 30804 by omega⟩ (fun H locs hw => ?_)
  refine lv_istore (lv' := [(5, .int k), (0, .ref b), (1, .ref (h 0)), (2, .ref (h2 0)), (3, .ref ho), (4, .int (Int32.ofNat (5 * j)))]) hx hb dl_560 hl (by decide) rfl (fun ls hl => ?_)
  refine lv_aload_n hx hb dl_562 rfl (lv_at hl 3 rfl) ?_
  refine lx_call_i (w1 := lw_w h cA ho σ' f') (wf := rf_ws h2 cA) (w3 := []) (As := []) Xc hw (c_Md_close l D h2 cA) hFR (fx_cwV Xc lq_112 hg_Md_close fx_gok (rm := { frames := 2, cells := 0, slots := 0, locals := 42 }) rfl rfl (by decide +kernel) ⟨Nat.le_of_ble_eq_true rfl, Nat.le_of_ble_eq_true rfl⟩) (va_recv X.2.1 (lx_split (w1 := lw_w h cA ho σ' f') (w2 := rf_ws h2 cA τ) (w3 := []) hw).1 (ci := 8) (q0 := 0) rfl rfl) (n := 0) rfl dl_563 hl.1 rfl (lv_room (Nat.le_of_ble_eq_true rfl)) ⟨show cells + nc ≤ 1125 by omega, show slots + 6 * nc ≤ 30804 by omega⟩ (fun H locs hw => ?_)
  refine lv_istore (lv' := [(6, .int r), (5, .int k), (0, .ref b), (1, .ref (h 0)), (2, .ref (h2 0)), (3, .ref ho), (4, .int (Int32.ofNat (5 * j)))]) hx hb dl_566 hl (by decide) rfl (fun ls hl => ?_)
  refine lv_aload_n hx hb dl_568 rfl (lv_at hl 4 rfl) ?_
  refine lx_call_i (w1 := lw_w h cA ho σ' f') (wf := rf_ws h2 cA) (w3 := []) (As := []) Xc hw (c_Md_thrown l D h2 cA) (lw_thrown _) (fx_cwV Xc lq_81 hg_Md_thrown fx_gok (rm := { frames := 0, cells := 0, slots := 0, locals := 0 }) rfl rfl (by decide +kernel) ⟨Nat.le_of_ble_eq_true rfl, Nat.le_of_ble_eq_true rfl⟩) (va_recv X.2.1 (lx_split (w1 := lw_w h cA ho σ' f') (w2 := rf_ws h2 cA τ') (w3 := []) hw).1 (ci := 8) (q0 := 0) rfl rfl) (n := 0) rfl dl_569 hl.1 rfl (lv_room (Nat.le_of_ble_eq_true rfl)) ⟨show cells + nc ≤ 1125 by omega, show slots + 6 * nc ≤ 30804 by omega⟩ (fun H locs hw => ?_)
  refine lv_iload hx hb dl_572 (lv_at hl 1 rfl) ?_
  refine lv_icmp_eq (tgt := 579) hx hb dl_574 (by decide) (fun hc => ?_) (fun hc => absurd hk hc)
  refine lv_iload hx hb dl_579 (lv_at hl 1 rfl) ?_
  refine lv_if_ne (tgt := 596) hx hb dl_581 (by decide) (fun hk0 => ?_) (fun hk0 => ?_)
  · skip
    refine lv_goto (tgt := 1121) hx hb dl_596 (by decide) ?_
    exact kk _ _ _ _ _ _ _ _ hRel (by omega) (by omega) hw (lv_sub hl [2, 3, 4, 5, 6] rfl)
  · have hk0 : k = 0 := hk0
    refine lv_aload_n hx hb dl_584 rfl (lv_at hl 5 rfl) ?_
    refine lv_iconst (v := 0) hx hb dl_585 (by decide) ?_
    refine va_lald hx hb X.2.1 hw.1 48 1 rfl rfl (by show ¬ ((0 : Int32) < 0 ∨ 1 ≤ (0 : Int32).toNatClampNeg); decide) dl_586 ?_
    rw [hout hk0]
    refine lv_iload hx hb dl_587 (lv_at hl 0 rfl) ?_
    refine lv_i2l hx hb dl_589 rfl ?_
    refine W.lcmp hx hb dl_590 ?_
    refine lv_if_eq (tgt := 596) hx hb dl_591 (by decide) (fun hc => ?_) (fun hc => absurd (lw_cmp _) hc)
    refine lv_goto (tgt := 1121) hx hb dl_596 (by decide) ?_
    exact kk _ _ _ _ _ _ _ _ hRel (by omega) (by omega) hw (lv_sub hl [2, 3, 4, 5, 6] rfl)
