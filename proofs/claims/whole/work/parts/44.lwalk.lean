theorem lo_resolve (l : Launch) (D : va_G) (h : Nat → Nat) (cA : Nat → ClassId) (ho : Nat) (hlt : l.stackTraces = false) (a0 : Int32) {Rel : fx_S → fx_S → Prop} {σ τ : fx_S} (f : Nat → Int64) (hO : lw_op Rel [(0, 1), (1, 2)] (F_FixityTrees_resolve a0) (F_Md_resolve a0) (fun r b => r = b) σ τ) : ∃ (b : Int32) (σ' τ' : fx_S) (k : Int32) (f' : Nat → Int64) (nc : Nat), nc ≤ 1 ∧ F_Md_resolve a0 τ = some (b, τ') ∧ Rel σ' τ' ∧ lh_M l y_Lw_resolve b_Lw_resolve 4 [(0, 9, 12, 13), (0, 9, 15, 15)] { frames := 8, cells := 0, slots := 0, locals := 155 } D h cA ho [.ref (h 0), .int a0, .ref ho] σ f k σ' f' nc ∧ τ'.1 0 = k ∧ (k = 0 → f' ((0 : Int32).toNatClampNeg) = b.toInt64) := by
  obtain ⟨b, σ', τ', h1, h2, h3⟩ := hO
  rcases h3 with ⟨r, g1, g2, g3⟩ | ⟨q, hq, g1, g2⟩
  · exact ⟨b, σ', τ', 0, _, 0, Nat.zero_le _, h1, h2, hr_resolve l D h cA ho hlt a0 g1, g2, fun _ => by rw [lw_updL, g3]⟩
  · simp only [List.mem_cons, List.not_mem_nil, or_false] at hq
    rcases hq with rfl | rfl
    · exact ⟨b, σ', τ', 1, f, 1, Nat.le_refl _, h1, h2, hx_resolve_0 l D h cA ho hlt a0 g1, g2, fun h9 => absurd h9 (by decide)⟩
    · exact ⟨b, σ', τ', 2, f, 1, Nat.le_refl _, h1, h2, hx_resolve_1 l D h cA ho hlt a0 g1, g2, fun h9 => absurd h9 (by decide)⟩
set_option maxHeartbeats 4000000 in
set_option maxRecDepth 100000 in
theorem la_resolve {p : Program} {l : Launch} {e : Env} {s : State} {m : MethodId} {below : List Frame} {meth : Method} {c : Code} {b L j : Nat} {xs : Nat → Int32} {D : va_G} {h h2 : Nat → Nat} {cA : Nat → ClassId} {ho : Nat} {A : Nat → Prop} {Rel : fx_S → fx_S → Prop} {σ τ : fx_S} {f : Nat → Int64} {H : Heap} {locs : List Loc} {cells slots : Nat} {ls : Array Slot} {Q : State → Prop} (C : lw_Cx p l s m meth c b L xs D cA A) (hj : 5 * j + 5 ≤ L) (hO :∀ (a0 : Int32), lw_op Rel [(0, 1), (1, 2)] (F_FixityTrees_resolve a0) (F_Md_resolve a0) (fun r b => r = b) σ τ) (hw : cx_B D fx_cl A s.heap ([] ++ (lw_w h cA ho σ f ++ (rf_ws h2 cA τ ++ []))) H locs) (hl : lv_has ls 8 [(0, .ref b), (1, .ref (h 0)), (2, .ref (h2 0)), (3, .ref ho), (4, .int (Int32.ofNat (5 * j)))]) (hcs : cells + 1 ≤ 1125 ∧ slots + 6 ≤ 30804) (kk : ∀ (σ' τ' : fx_S) (f' : Nat → Int64) (H' : Heap) (locs' : List Loc) (ls' : Array Slot) (cells' slots' : Nat), Rel σ' τ' → cells' ≤ cells + 1 → slots' ≤ slots + 6 → cx_B D fx_cl A s.heap ([] ++ (lw_w h cA ho σ' f' ++ (rf_ws h2 cA τ' ++ []))) H' locs' → lv_has ls' 8 [(0, .ref b), (1, .ref (h 0)), (2, .ref (h2 0)), (3, .ref ho), (4, .int (Int32.ofNat (5 * j)))] → W p l e room_1 s m #[Value.ref b] below meth c H' locs' cells' slots' Q (F0 m 1121 ls' [])) : W p l e room_1 s m #[Value.ref b] below meth c H locs cells slots Q (F0 m 599 ls []) := by
  obtain ⟨X, hHW, hX, hbl, hbA, hlt, hL⟩ := C
  have hx := X.1.1
  have hb := X.1.2.1
  have Xc : fx_X p m c code 8 s #[Value.ref b] "FixityTreesLaw" D fx_cl (fx_tys cA) fx_g fx_G A := ⟨X.1, X.2.1, X.2.2.1, fx_G_ok, X.2.2.2.2.1⟩
  obtain ⟨r, σ', τ', k, f', nc, hnc, hFR, hRel, hM, hk, hout⟩ := lo_resolve l D h cA ho hlt (xs (Int32.ofNat (5 * j) + 1).toNatClampNeg) f (hO (xs (Int32.ofNat (5 * j) + 1).toNatClampNeg))
  refine lv_aload_n hx hb dl_599 rfl (lv_at hl 1 rfl) ?_
  refine lv_aload_n hx hb dl_600 rfl (lv_at hl 0 rfl) ?_
  refine lv_iload hx hb dl_601 (lv_at hl 4 rfl) ?_
  refine lv_iconst (v := 1) hx hb dl_603 (by decide) ?_
  refine lv_iadd hx hb dl_604 ?_
  refine va_sld hx hb hX hbl hbA hw.2.2 (lw_in (k := 1) (by omega) hL) dl_605 ?_
  refine lv_aload_n hx hb dl_606 rfl (lv_at hl 3 rfl) ?_
  refine lx_callH (As := [.ref (h 0), .int (xs (Int32.ofNat (5 * j) + 1).toNatClampNeg), .ref ho]) X hHW hw hM lq_113 hg_Lw_resolve (by decide +kernel) ⟨Nat.le_of_ble_eq_true rfl, Nat.le_of_ble_eq_true rfl⟩ (n := 3) rfl dl_607 hl.1 rfl (lv_room (Nat.le_of_ble_eq_true rfl)) ⟨show cells + nc ≤ 1125 by omega, show slots + 6 * nc ≤ 30804 by omega⟩ (fun H locs hw => ?_)
  refine lv_istore (lv' := [(5, .int k), (0, .ref b), (1, .ref (h 0)), (2, .ref (h2 0)), (3, .ref ho), (4, .int (Int32.ofNat (5 * j)))]) hx hb dl_610 hl (by decide) rfl (fun ls hl => ?_)
  refine lv_aload_n hx hb dl_612 rfl (lv_at hl 3 rfl) ?_
  refine lv_aload_n hx hb dl_613 rfl (lv_at hl 1 rfl) ?_
  refine lv_iload hx hb dl_614 (lv_at hl 5 rfl) ?_
  refine lv_iconst (v := 1) hx hb dl_616 (by decide) ?_
  refine lv_iadd hx hb dl_617 ?_
  refine va_sld hx hb hX hbl hbA hw.2.2 (lw_in (k := 1) (by omega) hL) dl_618 ?_
  refine lx_call_i (w1 := lw_w h cA ho σ' f') (wf := rf_ws h2 cA) (w3 := []) (As := [.int (xs (Int32.ofNat (5 * j) + 1).toNatClampNeg)]) Xc hw (c_Md_resolve l D h2 cA (xs (Int32.ofNat (5 * j) + 1).toNatClampNeg)) hFR (fx_cwV Xc lq_115 hg_Md_resolve fx_gok (rm := { frames := 5, cells := 0, slots := 0, locals := 128 }) rfl rfl (by decide +kernel) ⟨Nat.le_of_ble_eq_true rfl, Nat.le_of_ble_eq_true rfl⟩) (va_recv X.2.1 (lx_split (w1 := lw_w h cA ho σ' f') (w2 := rf_ws h2 cA τ) (w3 := []) hw).1 (ci := 8) (q0 := 0) rfl rfl) (n := 1) rfl dl_619 hl.1 rfl (lv_room (Nat.le_of_ble_eq_true rfl)) ⟨show cells + nc ≤ 1125 by omega, show slots + 6 * nc ≤ 30804 by omega⟩ (fun H locs hw => ?_)
  refine lv_istore (lv' := [(6, .int r), (5, .int k), (0, .ref b), (1, .ref (h 0)), (2, .ref (h2 0)), (3, .ref ho), (4, .int (Int32.ofNat (5 * j)))]) hx hb dl_622 hl (by decide) rfl (fun ls hl => ?_)
  refine lv_aload_n hx hb dl_624 rfl (lv_at hl 4 rfl) ?_
  refine lx_call_i (w1 := lw_w h cA ho σ' f') (wf := rf_ws h2 cA) (w3 := []) (As := []) Xc hw (c_Md_thrown l D h2 cA) (lw_thrown _) (fx_cwV Xc lq_81 hg_Md_thrown fx_gok (rm := { frames := 0, cells := 0, slots := 0, locals := 0 }) rfl rfl (by decide +kernel) ⟨Nat.le_of_ble_eq_true rfl, Nat.le_of_ble_eq_true rfl⟩) (va_recv X.2.1 (lx_split (w1 := lw_w h cA ho σ' f') (w2 := rf_ws h2 cA τ') (w3 := []) hw).1 (ci := 8) (q0 := 0) rfl rfl) (n := 0) rfl dl_625 hl.1 rfl (lv_room (Nat.le_of_ble_eq_true rfl)) ⟨show cells + nc ≤ 1125 by omega, show slots + 6 * nc ≤ 30804 by omega⟩ (fun H locs hw => ?_)
  refine lv_iload hx hb dl_628 (lv_at hl 1 rfl) ?_
  refine lv_icmp_eq (tgt := 635) hx hb dl_630 (by decide) (fun hc => ?_) (fun hc => absurd hk hc)
  refine lv_iload hx hb dl_635 (lv_at hl 1 rfl) ?_
  refine lv_if_ne (tgt := 652) hx hb dl_637 (by decide) (fun hk0 => ?_) (fun hk0 => ?_)
  · skip
    refine lv_goto (tgt := 1121) hx hb dl_652 (by decide) ?_
    exact kk _ _ _ _ _ _ _ _ hRel (by omega) (by omega) hw (lv_sub hl [2, 3, 4, 5, 6] rfl)
  · have hk0 : k = 0 := hk0
    refine lv_aload_n hx hb dl_640 rfl (lv_at hl 5 rfl) ?_
    refine lv_iconst (v := 0) hx hb dl_641 (by decide) ?_
    refine va_lald hx hb X.2.1 hw.1 48 1 rfl rfl (by show ¬ ((0 : Int32) < 0 ∨ 1 ≤ (0 : Int32).toNatClampNeg); decide) dl_642 ?_
    rw [hout hk0]
    refine lv_iload hx hb dl_643 (lv_at hl 0 rfl) ?_
    refine lv_i2l hx hb dl_645 rfl ?_
    refine W.lcmp hx hb dl_646 ?_
    refine lv_if_eq (tgt := 652) hx hb dl_647 (by decide) (fun hc => ?_) (fun hc => absurd (lw_cmp _) hc)
    refine lv_goto (tgt := 1121) hx hb dl_652 (by decide) ?_
    exact kk _ _ _ _ _ _ _ _ hRel (by omega) (by omega) hw (lv_sub hl [2, 3, 4, 5, 6] rfl)
theorem lo_clash (l : Launch) (D : va_G) (h : Nat → Nat) (cA : Nat → ClassId) (ho : Nat) (hlt : l.stackTraces = false) (a0 : Int32) {Rel : fx_S → fx_S → Prop} {σ τ : fx_S} (f : Nat → Int64) (hO : lw_op Rel [(2, 1)] (F_FixityTrees_clash a0) (F_Md_clash a0) (fun r b => r = b) σ τ) : ∃ (b : Int32) (σ' τ' : fx_S) (k : Int32) (f' : Nat → Int64) (nc : Nat), nc ≤ 1 ∧ F_Md_clash a0 τ = some (b, τ') ∧ Rel σ' τ' ∧ lh_M l y_Lw_clash b_Lw_clash 4 [(0, 9, 12, 21)] { frames := 7, cells := 0, slots := 0, locals := 112 } D h cA ho [.ref (h 0), .int a0, .ref ho] σ f k σ' f' nc ∧ τ'.1 0 = k ∧ (k = 0 → f' ((0 : Int32).toNatClampNeg) = b.toInt64) := by
  obtain ⟨b, σ', τ', h1, h2, h3⟩ := hO
  rcases h3 with ⟨r, g1, g2, g3⟩ | ⟨q, hq, g1, g2⟩
  · exact ⟨b, σ', τ', 0, _, 0, Nat.zero_le _, h1, h2, hr_clash l D h cA ho hlt a0 g1, g2, fun _ => by rw [lw_updL, g3]⟩
  · simp only [List.mem_cons, List.not_mem_nil, or_false] at hq
    subst hq
    · exact ⟨b, σ', τ', 1, f, 1, Nat.le_refl _, h1, h2, hx_clash_2 l D h cA ho hlt a0 g1, g2, fun h9 => absurd h9 (by decide)⟩
set_option maxHeartbeats 4000000 in
set_option maxRecDepth 100000 in
theorem la_clash {p : Program} {l : Launch} {e : Env} {s : State} {m : MethodId} {below : List Frame} {meth : Method} {c : Code} {b L j : Nat} {xs : Nat → Int32} {D : va_G} {h h2 : Nat → Nat} {cA : Nat → ClassId} {ho : Nat} {A : Nat → Prop} {Rel : fx_S → fx_S → Prop} {σ τ : fx_S} {f : Nat → Int64} {H : Heap} {locs : List Loc} {cells slots : Nat} {ls : Array Slot} {Q : State → Prop} (C : lw_Cx p l s m meth c b L xs D cA A) (hj : 5 * j + 5 ≤ L) (hO :∀ (a0 : Int32), lw_op Rel [(2, 1)] (F_FixityTrees_clash a0) (F_Md_clash a0) (fun r b => r = b) σ τ) (hw : cx_B D fx_cl A s.heap ([] ++ (lw_w h cA ho σ f ++ (rf_ws h2 cA τ ++ []))) H locs) (hl : lv_has ls 8 [(0, .ref b), (1, .ref (h 0)), (2, .ref (h2 0)), (3, .ref ho), (4, .int (Int32.ofNat (5 * j)))]) (hcs : cells + 1 ≤ 1125 ∧ slots + 6 ≤ 30804) (kk : ∀ (σ' τ' : fx_S) (f' : Nat → Int64) (H' : Heap) (locs' : List Loc) (ls' : Array Slot) (cells' slots' : Nat), Rel σ' τ' → cells' ≤ cells + 1 → slots' ≤ slots + 6 → cx_B D fx_cl A s.heap ([] ++ (lw_w h cA ho σ' f' ++ (rf_ws h2 cA τ' ++ []))) H' locs' → lv_has ls' 8 [(0, .ref b), (1, .ref (h 0)), (2, .ref (h2 0)), (3, .ref ho), (4, .int (Int32.ofNat (5 * j)))] → W p l e room_1 s m #[Value.ref b] below meth c H' locs' cells' slots' Q (F0 m 1121 ls' [])) : W p l e room_1 s m #[Value.ref b] below meth c H locs cells slots Q (F0 m 655 ls []) := by
  obtain ⟨X, hHW, hX, hbl, hbA, hlt, hL⟩ := C
  have hx := X.1.1
  have hb := X.1.2.1
  have Xc : fx_X p m c code 8 s #[Value.ref b] "FixityTreesLaw" D fx_cl (fx_tys cA) fx_g fx_G A := ⟨X.1, X.2.1, X.2.2.1, fx_G_ok, X.2.2.2.2.1⟩
  obtain ⟨r, σ', τ', k, f', nc, hnc, hFR, hRel, hM, hk, hout⟩ := lo_clash l D h cA ho hlt (xs (Int32.ofNat (5 * j) + 1).toNatClampNeg) f (hO (xs (Int32.ofNat (5 * j) + 1).toNatClampNeg))
  refine lv_aload_n hx hb dl_655 rfl (lv_at hl 1 rfl) ?_
  refine lv_aload_n hx hb dl_656 rfl (lv_at hl 0 rfl) ?_
  refine lv_iload hx hb dl_657 (lv_at hl 4 rfl) ?_
  refine lv_iconst (v := 1) hx hb dl_659 (by decide) ?_
  refine lv_iadd hx hb dl_660 ?_
  refine va_sld hx hb hX hbl hbA hw.2.2 (lw_in (k := 1) (by omega) hL) dl_661 ?_
  refine lv_aload_n hx hb dl_662 rfl (lv_at hl 3 rfl) ?_
  refine lx_callH (As := [.ref (h 0), .int (xs (Int32.ofNat (5 * j) + 1).toNatClampNeg), .ref ho]) X hHW hw hM lq_116 hg_Lw_clash (by decide +kernel) ⟨Nat.le_of_ble_eq_true rfl, Nat.le_of_ble_eq_true rfl⟩ (n := 3) rfl dl_663 hl.1 rfl (lv_room (Nat.le_of_ble_eq_true rfl)) ⟨show cells + nc ≤ 1125 by omega, show slots + 6 * nc ≤ 30804 by omega⟩ (fun H locs hw => ?_)
  refine lv_istore (lv' := [(5, .int k), (0, .ref b), (1, .ref (h 0)), (2, .ref (h2 0)), (3, .ref ho), (4, .int (Int32.ofNat (5 * j)))]) hx hb dl_666 hl (by decide) rfl (fun ls hl => ?_)
  refine lv_aload_n hx hb dl_668 rfl (lv_at hl 3 rfl) ?_
  refine lv_aload_n hx hb dl_669 rfl (lv_at hl 1 rfl) ?_
  refine lv_iload hx hb dl_670 (lv_at hl 5 rfl) ?_
  refine lv_iconst (v := 1) hx hb dl_672 (by decide) ?_
  refine lv_iadd hx hb dl_673 ?_
  refine va_sld hx hb hX hbl hbA hw.2.2 (lw_in (k := 1) (by omega) hL) dl_674 ?_
  refine lx_call_i (w1 := lw_w h cA ho σ' f') (wf := rf_ws h2 cA) (w3 := []) (As := [.int (xs (Int32.ofNat (5 * j) + 1).toNatClampNeg)]) Xc hw (c_Md_clash l D h2 cA (xs (Int32.ofNat (5 * j) + 1).toNatClampNeg)) hFR (fx_cwV Xc lq_118 hg_Md_clash fx_gok (rm := { frames := 1, cells := 0, slots := 0, locals := 22 }) rfl rfl (by decide +kernel) ⟨Nat.le_of_ble_eq_true rfl, Nat.le_of_ble_eq_true rfl⟩) (va_recv X.2.1 (lx_split (w1 := lw_w h cA ho σ' f') (w2 := rf_ws h2 cA τ) (w3 := []) hw).1 (ci := 8) (q0 := 0) rfl rfl) (n := 1) rfl dl_675 hl.1 rfl (lv_room (Nat.le_of_ble_eq_true rfl)) ⟨show cells + nc ≤ 1125 by omega, show slots + 6 * nc ≤ 30804 by omega⟩ (fun H locs hw => ?_)
  refine lv_istore (lv' := [(6, .int r), (5, .int k), (0, .ref b), (1, .ref (h 0)), (2, .ref (h2 0)), (3, .ref ho), (4, .int (Int32.ofNat (5 * j)))]) hx hb dl_678 hl (by decide) rfl (fun ls hl => ?_)
  refine lv_aload_n hx hb dl_680 rfl (lv_at hl 4 rfl) ?_
  refine lx_call_i (w1 := lw_w h cA ho σ' f') (wf := rf_ws h2 cA) (w3 := []) (As := []) Xc hw (c_Md_thrown l D h2 cA) (lw_thrown _) (fx_cwV Xc lq_81 hg_Md_thrown fx_gok (rm := { frames := 0, cells := 0, slots := 0, locals := 0 }) rfl rfl (by decide +kernel) ⟨Nat.le_of_ble_eq_true rfl, Nat.le_of_ble_eq_true rfl⟩) (va_recv X.2.1 (lx_split (w1 := lw_w h cA ho σ' f') (w2 := rf_ws h2 cA τ') (w3 := []) hw).1 (ci := 8) (q0 := 0) rfl rfl) (n := 0) rfl dl_681 hl.1 rfl (lv_room (Nat.le_of_ble_eq_true rfl)) ⟨show cells + nc ≤ 1125 by omega, show slots + 6 * nc ≤ 30804 by omega⟩ (fun H locs hw => ?_)
  refine lv_iload hx hb dl_684 (lv_at hl 1 rfl) ?_
  refine lv_icmp_eq (tgt := 691) hx hb dl_686 (by decide) (fun hc => ?_) (fun hc => absurd hk hc)
  refine lv_iload hx hb dl_691 (lv_at hl 1 rfl) ?_
  refine lv_if_ne (tgt := 708) hx hb dl_693 (by decide) (fun hk0 => ?_) (fun hk0 => ?_)
  · skip
    refine lv_goto (tgt := 1121) hx hb dl_708 (by decide) ?_
    exact kk _ _ _ _ _ _ _ _ hRel (by omega) (by omega) hw (lv_sub hl [2, 3, 4, 5, 6] rfl)
  · have hk0 : k = 0 := hk0
    refine lv_aload_n hx hb dl_696 rfl (lv_at hl 5 rfl) ?_
    refine lv_iconst (v := 0) hx hb dl_697 (by decide) ?_
    refine va_lald hx hb X.2.1 hw.1 48 1 rfl rfl (by show ¬ ((0 : Int32) < 0 ∨ 1 ≤ (0 : Int32).toNatClampNeg); decide) dl_698 ?_
    rw [hout hk0]
    refine lv_iload hx hb dl_699 (lv_at hl 0 rfl) ?_
    refine lv_i2l hx hb dl_701 rfl ?_
    refine W.lcmp hx hb dl_702 ?_
    refine lv_if_eq (tgt := 708) hx hb dl_703 (by decide) (fun hc => ?_) (fun hc => absurd (lw_cmp _) hc)
    refine lv_goto (tgt := 1121) hx hb dl_708 (by decide) ?_
    exact kk _ _ _ _ _ _ _ _ hRel (by omega) (by omega) hw (lv_sub hl [2, 3, 4, 5, 6] rfl)
theorem lo_node (l : Launch) (D : va_G) (h : Nat → Nat) (cA : Nat → ClassId) (ho : Nat) (hlt : l.stackTraces = false) (a0 : Int32) (a1 : Int32) {Rel : fx_S → fx_S → Prop} {σ τ : fx_S} (f : Nat → Int64) (hO : lw_op Rel [(0, 1), (2, 2)] (F_FixityTrees_node a0 a1) (F_Md_node a0 a1) (fun r b => r = b) σ τ) : ∃ (b : Int32) (σ' τ' : fx_S) (k : Int32) (f' : Nat → Int64) (nc : Nat), nc ≤ 1 ∧ F_Md_node a0 a1 τ = some (b, τ') ∧ Rel σ' τ' ∧ lh_M l y_Lw_node b_Lw_node 5 [(0, 10, 13, 13), (0, 10, 17, 21)] { frames := 7, cells := 0, slots := 0, locals := 113 } D h cA ho [.ref (h 0), .int a0, .int a1, .ref ho] σ f k σ' f' nc ∧ τ'.1 0 = k ∧ (k = 0 → f' ((0 : Int32).toNatClampNeg) = b.toInt64) := by
  obtain ⟨b, σ', τ', h1, h2, h3⟩ := hO
  rcases h3 with ⟨r, g1, g2, g3⟩ | ⟨q, hq, g1, g2⟩
  · exact ⟨b, σ', τ', 0, _, 0, Nat.zero_le _, h1, h2, hr_node l D h cA ho hlt a0 a1 g1, g2, fun _ => by rw [lw_updL, g3]⟩
  · simp only [List.mem_cons, List.not_mem_nil, or_false] at hq
    rcases hq with rfl | rfl
    · exact ⟨b, σ', τ', 1, f, 1, Nat.le_refl _, h1, h2, hx_node_0 l D h cA ho hlt a0 a1 g1, g2, fun h9 => absurd h9 (by decide)⟩
    · exact ⟨b, σ', τ', 2, f, 1, Nat.le_refl _, h1, h2, hx_node_2 l D h cA ho hlt a0 a1 g1, g2, fun h9 => absurd h9 (by decide)⟩
set_option maxHeartbeats 4000000 in
set_option maxRecDepth 100000 in
theorem la_node {p : Program} {l : Launch} {e : Env} {s : State} {m : MethodId} {below : List Frame} {meth : Method} {c : Code} {b L j : Nat} {xs : Nat → Int32} {D : va_G} {h h2 : Nat → Nat} {cA : Nat → ClassId} {ho : Nat} {A : Nat → Prop} {Rel : fx_S → fx_S → Prop} {σ τ : fx_S} {f : Nat → Int64} {H : Heap} {locs : List Loc} {cells slots : Nat} {ls : Array Slot} {Q : State → Prop} (C : lw_Cx p l s m meth c b L xs D cA A) (hj : 5 * j + 5 ≤ L) (hO :∀ (a0 : Int32) (a1 : Int32), lw_op Rel [(0, 1), (2, 2)] (F_FixityTrees_node a0 a1) (F_Md_node a0 a1) (fun r b => r = b) σ τ) (hw : cx_B D fx_cl A s.heap ([] ++ (lw_w h cA ho σ f ++ (rf_ws h2 cA τ ++ []))) H locs) (hl : lv_has ls 8 [(0, .ref b), (1, .ref (h 0)), (2, .ref (h2 0)), (3, .ref ho), (4, .int (Int32.ofNat (5 * j)))]) (hcs : cells + 1 ≤ 1125 ∧ slots + 6 ≤ 30804) (kk : ∀ (σ' τ' : fx_S) (f' : Nat → Int64) (H' : Heap) (locs' : List Loc) (ls' : Array Slot) (cells' slots' : Nat), Rel σ' τ' → cells' ≤ cells + 1 → slots' ≤ slots + 6 → cx_B D fx_cl A s.heap ([] ++ (lw_w h cA ho σ' f' ++ (rf_ws h2 cA τ' ++ []))) H' locs' → lv_has ls' 8 [(0, .ref b), (1, .ref (h 0)), (2, .ref (h2 0)), (3, .ref ho), (4, .int (Int32.ofNat (5 * j)))] → W p l e room_1 s m #[Value.ref b] below meth c H' locs' cells' slots' Q (F0 m 1121 ls' [])) : W p l e room_1 s m #[Value.ref b] below meth c H locs cells slots Q (F0 m 711 ls []) := by
  obtain ⟨X, hHW, hX, hbl, hbA, hlt, hL⟩ := C
  have hx := X.1.1
  have hb := X.1.2.1
  have Xc : fx_X p m c code 8 s #[Value.ref b] "FixityTreesLaw" D fx_cl (fx_tys cA) fx_g fx_G A := ⟨X.1, X.2.1, X.2.2.1, fx_G_ok, X.2.2.2.2.1⟩
  obtain ⟨r, σ', τ', k, f', nc, hnc, hFR, hRel, hM, hk, hout⟩ := lo_node l D h cA ho hlt (xs (Int32.ofNat (5 * j) + 1).toNatClampNeg) (xs (Int32.ofNat (5 * j) + 2).toNatClampNeg) f (hO (xs (Int32.ofNat (5 * j) + 1).toNatClampNeg) (xs (Int32.ofNat (5 * j) + 2).toNatClampNeg))
  refine lv_aload_n hx hb dl_711 rfl (lv_at hl 1 rfl) ?_
  refine lv_aload_n hx hb dl_712 rfl (lv_at hl 0 rfl) ?_
  refine lv_iload hx hb dl_713 (lv_at hl 4 rfl) ?_
  refine lv_iconst (v := 1) hx hb dl_715 (by decide) ?_
  refine lv_iadd hx hb dl_716 ?_
  refine va_sld hx hb hX hbl hbA hw.2.2 (lw_in (k := 1) (by omega) hL) dl_717 ?_
  refine lv_aload_n hx hb dl_718 rfl (lv_at hl 0 rfl) ?_
  refine lv_iload hx hb dl_719 (lv_at hl 4 rfl) ?_
  refine lv_iconst (v := 2) hx hb dl_721 (by decide) ?_
  refine lv_iadd hx hb dl_722 ?_
  refine va_sld hx hb hX hbl hbA hw.2.2 (lw_in (k := 2) (by omega) hL) dl_723 ?_
  refine lv_aload_n hx hb dl_724 rfl (lv_at hl 3 rfl) ?_
  refine lx_callH (As := [.ref (h 0), .int (xs (Int32.ofNat (5 * j) + 1).toNatClampNeg), .int (xs (Int32.ofNat (5 * j) + 2).toNatClampNeg), .ref ho]) X hHW hw hM lq_119 hg_Lw_node (by decide +kernel) ⟨Nat.le_of_ble_eq_true rfl, Nat.le_of_ble_eq_true rfl⟩ (n := 4) rfl dl_725 hl.1 rfl (lv_room (Nat.le_of_ble_eq_true rfl)) ⟨show cells + nc ≤ 1125 by omega, show slots + 6 * nc ≤ 30804 by omega⟩ (fun H locs hw => ?_)
  refine lv_istore (lv' := [(5, .int k), (0, .ref b), (1, .ref (h 0)), (2, .ref (h2 0)), (3, .ref ho), (4, .int (Int32.ofNat (5 * j)))]) hx hb dl_728 hl (by decide) rfl (fun ls hl => ?_)
  refine lv_aload_n hx hb dl_730 rfl (lv_at hl 3 rfl) ?_
  refine lv_aload_n hx hb dl_731 rfl (lv_at hl 1 rfl) ?_
  refine lv_iload hx hb dl_732 (lv_at hl 5 rfl) ?_
  refine lv_iconst (v := 1) hx hb dl_734 (by decide) ?_
  refine lv_iadd hx hb dl_735 ?_
  refine va_sld hx hb hX hbl hbA hw.2.2 (lw_in (k := 1) (by omega) hL) dl_736 ?_
  refine lv_aload_n hx hb dl_737 rfl (lv_at hl 1 rfl) ?_
  refine lv_iload hx hb dl_738 (lv_at hl 5 rfl) ?_
  refine lv_iconst (v := 2) hx hb dl_740 (by decide) ?_
  refine lv_iadd hx hb dl_741 ?_
  refine va_sld hx hb hX hbl hbA hw.2.2 (lw_in (k := 2) (by omega) hL) dl_742 ?_
  refine lx_call_i (w1 := lw_w h cA ho σ' f') (wf := rf_ws h2 cA) (w3 := []) (As := [.int (xs (Int32.ofNat (5 * j) + 1).toNatClampNeg), .int (xs (Int32.ofNat (5 * j) + 2).toNatClampNeg)]) Xc hw (c_Md_node l D h2 cA (xs (Int32.ofNat (5 * j) + 1).toNatClampNeg) (xs (Int32.ofNat (5 * j) + 2).toNatClampNeg)) hFR (fx_cwV Xc lq_122 hg_Md_node fx_gok (rm := { frames := 1, cells := 0, slots := 0, locals := 22 }) rfl rfl (by decide +kernel) ⟨Nat.le_of_ble_eq_true rfl, Nat.le_of_ble_eq_true rfl⟩) (va_recv X.2.1 (lx_split (w1 := lw_w h cA ho σ' f') (w2 := rf_ws h2 cA τ) (w3 := []) hw).1 (ci := 8) (q0 := 0) rfl rfl) (n := 2) rfl dl_743 hl.1 rfl (lv_room (Nat.le_of_ble_eq_true rfl)) ⟨show cells + nc ≤ 1125 by omega, show slots + 6 * nc ≤ 30804 by omega⟩ (fun H locs hw => ?_)
  refine lv_istore (lv' := [(6, .int r), (5, .int k), (0, .ref b), (1, .ref (h 0)), (2, .ref (h2 0)), (3, .ref ho), (4, .int (Int32.ofNat (5 * j)))]) hx hb dl_746 hl (by decide) rfl (fun ls hl => ?_)
  refine lv_aload_n hx hb dl_748 rfl (lv_at hl 4 rfl) ?_
  refine lx_call_i (w1 := lw_w h cA ho σ' f') (wf := rf_ws h2 cA) (w3 := []) (As := []) Xc hw (c_Md_thrown l D h2 cA) (lw_thrown _) (fx_cwV Xc lq_81 hg_Md_thrown fx_gok (rm := { frames := 0, cells := 0, slots := 0, locals := 0 }) rfl rfl (by decide +kernel) ⟨Nat.le_of_ble_eq_true rfl, Nat.le_of_ble_eq_true rfl⟩) (va_recv X.2.1 (lx_split (w1 := lw_w h cA ho σ' f') (w2 := rf_ws h2 cA τ') (w3 := []) hw).1 (ci := 8) (q0 := 0) rfl rfl) (n := 0) rfl dl_749 hl.1 rfl (lv_room (Nat.le_of_ble_eq_true rfl)) ⟨show cells + nc ≤ 1125 by omega, show slots + 6 * nc ≤ 30804 by omega⟩ (fun H locs hw => ?_)
  refine lv_iload hx hb dl_752 (lv_at hl 1 rfl) ?_
  refine lv_icmp_eq (tgt := 759) hx hb dl_754 (by decide) (fun hc => ?_) (fun hc => absurd hk hc)
  refine lv_iload hx hb dl_759 (lv_at hl 1 rfl) ?_
  refine lv_if_ne (tgt := 776) hx hb dl_761 (by decide) (fun hk0 => ?_) (fun hk0 => ?_)
  · skip
    refine lv_goto (tgt := 1121) hx hb dl_776 (by decide) ?_
    exact kk _ _ _ _ _ _ _ _ hRel (by omega) (by omega) hw (lv_sub hl [2, 3, 4, 5, 6] rfl)
  · have hk0 : k = 0 := hk0
    refine lv_aload_n hx hb dl_764 rfl (lv_at hl 5 rfl) ?_
    refine lv_iconst (v := 0) hx hb dl_765 (by decide) ?_
    refine va_lald hx hb X.2.1 hw.1 48 1 rfl rfl (by show ¬ ((0 : Int32) < 0 ∨ 1 ≤ (0 : Int32).toNatClampNeg); decide) dl_766 ?_
    rw [hout hk0]
    refine lv_iload hx hb dl_767 (lv_at hl 0 rfl) ?_
    refine lv_i2l hx hb dl_769 rfl ?_
    refine W.lcmp hx hb dl_770 ?_
    refine lv_if_eq (tgt := 776) hx hb dl_771 (by decide) (fun hc => ?_) (fun hc => absurd (lw_cmp _) hc)
    refine lv_goto (tgt := 1121) hx hb dl_776 (by decide) ?_
    exact kk _ _ _ _ _ _ _ _ hRel (by omega) (by omega) hw (lv_sub hl [2, 3, 4, 5, 6] rfl)
theorem lo_number (l : Launch) (D : va_G) (h : Nat → Nat) (cA : Nat → ClassId) (ho : Nat) (hlt : l.stackTraces = false) (a0 : Int32) {Rel : fx_S → fx_S → Prop} {σ τ : fx_S} (f : Nat → Int64) (hO : lw_op Rel [(0, 1)] (F_FixityTrees_number a0) (F_Md_number a0) (fun r b => r = b) σ τ) : ∃ (b : Int64) (σ' τ' : fx_S) (k : Int32) (f' : Nat → Int64) (nc : Nat), nc ≤ 1 ∧ F_Md_number a0 τ = some (b, τ') ∧ Rel σ' τ' ∧ lh_M l y_Lw_number b_Lw_number 4 [(0, 8, 11, 13)] { frames := 7, cells := 0, slots := 0, locals := 112 } D h cA ho [.ref (h 0), .int a0, .ref ho] σ f k σ' f' nc ∧ τ'.1 0 = k ∧ (k = 0 → f' ((0 : Int32).toNatClampNeg) = b) := by
  obtain ⟨b, σ', τ', h1, h2, h3⟩ := hO
  rcases h3 with ⟨r, g1, g2, g3⟩ | ⟨q, hq, g1, g2⟩
  · exact ⟨b, σ', τ', 0, _, 0, Nat.zero_le _, h1, h2, hr_number l D h cA ho hlt a0 g1, g2, fun _ => by rw [lw_updL, g3]⟩
  · simp only [List.mem_cons, List.not_mem_nil, or_false] at hq
    subst hq
    · exact ⟨b, σ', τ', 1, f, 1, Nat.le_refl _, h1, h2, hx_number_0 l D h cA ho hlt a0 g1, g2, fun h9 => absurd h9 (by decide)⟩
set_option maxHeartbeats 4000000 in
set_option maxRecDepth 100000 in
theorem la_number {p : Program} {l : Launch} {e : Env} {s : State} {m : MethodId} {below : List Frame} {meth : Method} {c : Code} {b L j : Nat} {xs : Nat → Int32} {D : va_G} {h h2 : Nat → Nat} {cA : Nat → ClassId} {ho : Nat} {A : Nat → Prop} {Rel : fx_S → fx_S → Prop} {σ τ : fx_S} {f : Nat → Int64} {H : Heap} {locs : List Loc} {cells slots : Nat} {ls : Array Slot} {Q : State → Prop} (C : lw_Cx p l s m meth c b L xs D cA A) (hj : 5 * j + 5 ≤ L) (hO :∀ (a0 : Int32), lw_op Rel [(0, 1)] (F_FixityTrees_number a0) (F_Md_number a0) (fun r b => r = b) σ τ) (hw : cx_B D fx_cl A s.heap ([] ++ (lw_w h cA ho σ f ++ (rf_ws h2 cA τ ++ []))) H locs) (hl : lv_has ls 8 [(0, .ref b), (1, .ref (h 0)), (2, .ref (h2 0)), (3, .ref ho), (4, .int (Int32.ofNat (5 * j)))]) (hcs : cells + 1 ≤ 1125 ∧ slots + 6 ≤ 30804) (kk : ∀ (σ' τ' : fx_S) (f' : Nat → Int64) (H' : Heap) (locs' : List Loc) (ls' : Array Slot) (cells' slots' : Nat), Rel σ' τ' → cells' ≤ cells + 1 → slots' ≤ slots + 6 → cx_B D fx_cl A s.heap ([] ++ (lw_w h cA ho σ' f' ++ (rf_ws h2 cA τ' ++ []))) H' locs' → lv_has ls' 8 [(0, .ref b), (1, .ref (h 0)), (2, .ref (h2 0)), (3, .ref ho), (4, .int (Int32.ofNat (5 * j)))] → W p l e room_1 s m #[Value.ref b] below meth c H' locs' cells' slots' Q (F0 m 1121 ls' [])) : W p l e room_1 s m #[Value.ref b] below meth c H locs cells slots Q (F0 m 779 ls []) := by
  obtain ⟨X, hHW, hX, hbl, hbA, hlt, hL⟩ := C
  have hx := X.1.1
  have hb := X.1.2.1
  have Xc : fx_X p m c code 8 s #[Value.ref b] "FixityTreesLaw" D fx_cl (fx_tys cA) fx_g fx_G A := ⟨X.1, X.2.1, X.2.2.1, fx_G_ok, X.2.2.2.2.1⟩
  obtain ⟨r, σ', τ', k, f', nc, hnc, hFR, hRel, hM, hk, hout⟩ := lo_number l D h cA ho hlt (xs (Int32.ofNat (5 * j) + 1).toNatClampNeg) f (hO (xs (Int32.ofNat (5 * j) + 1).toNatClampNeg))
  refine lv_aload_n hx hb dl_779 rfl (lv_at hl 1 rfl) ?_
  refine lv_aload_n hx hb dl_780 rfl (lv_at hl 0 rfl) ?_
  refine lv_iload hx hb dl_781 (lv_at hl 4 rfl) ?_
  refine lv_iconst (v := 1) hx hb dl_783 (by decide) ?_
  refine lv_iadd hx hb dl_784 ?_
  refine va_sld hx hb hX hbl hbA hw.2.2 (lw_in (k := 1) (by omega) hL) dl_785 ?_
  refine lv_aload_n hx hb dl_786 rfl (lv_at hl 3 rfl) ?_
  refine lx_callH (As := [.ref (h 0), .int (xs (Int32.ofNat (5 * j) + 1).toNatClampNeg), .ref ho]) X hHW hw hM lq_123 hg_Lw_number (by decide +kernel) ⟨Nat.le_of_ble_eq_true rfl, Nat.le_of_ble_eq_true rfl⟩ (n := 3) rfl dl_787 hl.1 rfl (lv_room (Nat.le_of_ble_eq_true rfl)) ⟨show cells + nc ≤ 1125 by omega, show slots + 6 * nc ≤ 30804 by omega⟩ (fun H locs hw => ?_)
  refine lv_istore (lv' := [(5, .int k), (0, .ref b), (1, .ref (h 0)), (2, .ref (h2 0)), (3, .ref ho), (4, .int (Int32.ofNat (5 * j)))]) hx hb dl_790 hl (by decide) rfl (fun ls hl => ?_)
  refine lv_aload_n hx hb dl_792 rfl (lv_at hl 3 rfl) ?_
  refine lv_aload_n hx hb dl_793 rfl (lv_at hl 1 rfl) ?_
  refine lv_iload hx hb dl_794 (lv_at hl 5 rfl) ?_
  refine lv_iconst (v := 1) hx hb dl_796 (by decide) ?_
  refine lv_iadd hx hb dl_797 ?_
  refine va_sld hx hb hX hbl hbA hw.2.2 (lw_in (k := 1) (by omega) hL) dl_798 ?_
  refine lx_call_l (w1 := lw_w h cA ho σ' f') (wf := rf_ws h2 cA) (w3 := []) (As := [.int (xs (Int32.ofNat (5 * j) + 1).toNatClampNeg)]) Xc hw (c_Md_number l D h2 cA (xs (Int32.ofNat (5 * j) + 1).toNatClampNeg)) hFR (fx_cwV Xc lq_125 hg_Md_number fx_gok (rm := { frames := 1, cells := 0, slots := 0, locals := 22 }) rfl rfl (by decide +kernel) ⟨Nat.le_of_ble_eq_true rfl, Nat.le_of_ble_eq_true rfl⟩) (va_recv X.2.1 (lx_split (w1 := lw_w h cA ho σ' f') (w2 := rf_ws h2 cA τ) (w3 := []) hw).1 (ci := 8) (q0 := 0) rfl rfl) (n := 1) rfl dl_799 hl.1 rfl (lv_room (Nat.le_of_ble_eq_true rfl)) ⟨show cells + nc ≤ 1125 by omega, show slots + 6 * nc ≤ 30804 by omega⟩ (fun H locs hw => ?_)
  refine lv_lstore (lv' := [(6, .long r), (5, .int k), (0, .ref b), (1, .ref (h 0)), (2, .ref (h2 0)), (3, .ref ho), (4, .int (Int32.ofNat (5 * j)))]) hx hb dl_802 hl (by decide) rfl (fun ls hl => ?_)
  refine lv_aload_n hx hb dl_804 rfl (lv_at hl 4 rfl) ?_
  refine lx_call_i (w1 := lw_w h cA ho σ' f') (wf := rf_ws h2 cA) (w3 := []) (As := []) Xc hw (c_Md_thrown l D h2 cA) (lw_thrown _) (fx_cwV Xc lq_81 hg_Md_thrown fx_gok (rm := { frames := 0, cells := 0, slots := 0, locals := 0 }) rfl rfl (by decide +kernel) ⟨Nat.le_of_ble_eq_true rfl, Nat.le_of_ble_eq_true rfl⟩) (va_recv X.2.1 (lx_split (w1 := lw_w h cA ho σ' f') (w2 := rf_ws h2 cA τ') (w3 := []) hw).1 (ci := 8) (q0 := 0) rfl rfl) (n := 0) rfl dl_805 hl.1 rfl (lv_room (Nat.le_of_ble_eq_true rfl)) ⟨show cells + nc ≤ 1125 by omega, show slots + 6 * nc ≤ 30804 by omega⟩ (fun H locs hw => ?_)
  refine lv_iload hx hb dl_808 (lv_at hl 1 rfl) ?_
  refine lv_icmp_eq (tgt := 815) hx hb dl_810 (by decide) (fun hc => ?_) (fun hc => absurd hk hc)
  refine lv_iload hx hb dl_815 (lv_at hl 1 rfl) ?_
  refine lv_if_ne (tgt := 831) hx hb dl_817 (by decide) (fun hk0 => ?_) (fun hk0 => ?_)
  · skip
    refine lv_goto (tgt := 1121) hx hb dl_831 (by decide) ?_
    exact kk _ _ _ _ _ _ _ _ hRel (by omega) (by omega) hw (lv_sub hl [2, 3, 4, 5, 6] rfl)
  · have hk0 : k = 0 := hk0
    refine lv_aload_n hx hb dl_820 rfl (lv_at hl 5 rfl) ?_
    refine lv_iconst (v := 0) hx hb dl_821 (by decide) ?_
    refine va_lald hx hb X.2.1 hw.1 48 1 rfl rfl (by show ¬ ((0 : Int32) < 0 ∨ 1 ≤ (0 : Int32).toNatClampNeg); decide) dl_822 ?_
    rw [hout hk0]
    refine lv_lload hx hb dl_823 (lv_at hl 0 rfl) ?_
    refine W.lcmp hx hb dl_825 ?_
    refine lv_if_eq (tgt := 831) hx hb dl_826 (by decide) (fun hc => ?_) (fun hc => absurd (lw_cmp _) hc)
    refine lv_goto (tgt := 1121) hx hb dl_831 (by decide) ?_
    exact kk _ _ _ _ _ _ _ _ hRel (by omega) (by omega) hw (lv_sub hl [2, 3, 4, 5, 6] rfl)
theorem lo_write (l : Launch) (D : va_G) (h : Nat → Nat) (cA : Nat → ClassId) (ho : Nat) (hlt : l.stackTraces = false) (a0 : Int32) {Rel : fx_S → fx_S → Prop} {σ τ : fx_S} (f : Nat → Int64) (hO : lw_op Rel [(0, 1), (1, 2)] (F_FixityTrees_write a0) (F_Md_write a0) (fun r b => r = b) σ τ) : ∃ (b : Int32) (σ' τ' : fx_S) (k : Int32) (f' : Nat → Int64) (nc : Nat), nc ≤ 1 ∧ F_Md_write a0 τ = some (b, τ') ∧ Rel σ' τ' ∧ lh_M l y_Lw_write b_Lw_write 4 [(0, 9, 12, 13), (0, 9, 15, 15)] { frames := 8, cells := 0, slots := 0, locals := 134 } D h cA ho [.ref (h 0), .int a0, .ref ho] σ f k σ' f' nc ∧ τ'.1 0 = k ∧ (k = 0 → f' ((0 : Int32).toNatClampNeg) = b.toInt64) := by
  obtain ⟨b, σ', τ', h1, h2, h3⟩ := hO
  rcases h3 with ⟨r, g1, g2, g3⟩ | ⟨q, hq, g1, g2⟩
  · exact ⟨b, σ', τ', 0, _, 0, Nat.zero_le _, h1, h2, hr_write l D h cA ho hlt a0 g1, g2, fun _ => by rw [lw_updL, g3]⟩
  · simp only [List.mem_cons, List.not_mem_nil, or_false] at hq
    rcases hq with rfl | rfl
    · exact ⟨b, σ', τ', 1, f, 1, Nat.le_refl _, h1, h2, hx_write_0 l D h cA ho hlt a0 g1, g2, fun h9 => absurd h9 (by decide)⟩
    · exact ⟨b, σ', τ', 2, f, 1, Nat.le_refl _, h1, h2, hx_write_1 l D h cA ho hlt a0 g1, g2, fun h9 => absurd h9 (by decide)⟩
set_option maxHeartbeats 4000000 in
set_option maxRecDepth 100000 in
theorem la_write {p : Program} {l : Launch} {e : Env} {s : State} {m : MethodId} {below : List Frame} {meth : Method} {c : Code} {b L j : Nat} {xs : Nat → Int32} {D : va_G} {h h2 : Nat → Nat} {cA : Nat → ClassId} {ho : Nat} {A : Nat → Prop} {Rel : fx_S → fx_S → Prop} {σ τ : fx_S} {f : Nat → Int64} {H : Heap} {locs : List Loc} {cells slots : Nat} {ls : Array Slot} {Q : State → Prop} (C : lw_Cx p l s m meth c b L xs D cA A) (hj : 5 * j + 5 ≤ L) (hO :∀ (a0 : Int32), lw_op Rel [(0, 1), (1, 2)] (F_FixityTrees_write a0) (F_Md_write a0) (fun r b => r = b) σ τ) (hw : cx_B D fx_cl A s.heap ([] ++ (lw_w h cA ho σ f ++ (rf_ws h2 cA τ ++ []))) H locs) (hl : lv_has ls 8 [(0, .ref b), (1, .ref (h 0)), (2, .ref (h2 0)), (3, .ref ho), (4, .int (Int32.ofNat (5 * j)))]) (hcs : cells + 1 ≤ 1125 ∧ slots + 6 ≤ 30804) (kk : ∀ (σ' τ' : fx_S) (f' : Nat → Int64) (H' : Heap) (locs' : List Loc) (ls' : Array Slot) (cells' slots' : Nat), Rel σ' τ' → cells' ≤ cells + 1 → slots' ≤ slots + 6 → cx_B D fx_cl A s.heap ([] ++ (lw_w h cA ho σ' f' ++ (rf_ws h2 cA τ' ++ []))) H' locs' → lv_has ls' 8 [(0, .ref b), (1, .ref (h 0)), (2, .ref (h2 0)), (3, .ref ho), (4, .int (Int32.ofNat (5 * j)))] → W p l e room_1 s m #[Value.ref b] below meth c H' locs' cells' slots' Q (F0 m 1121 ls' [])) : W p l e room_1 s m #[Value.ref b] below meth c H locs cells slots Q (F0 m 834 ls []) := by
  obtain ⟨X, hHW, hX, hbl, hbA, hlt, hL⟩ := C
  have hx := X.1.1
  have hb := X.1.2.1
  have Xc : fx_X p m c code 8 s #[Value.ref b] "FixityTreesLaw" D fx_cl (fx_tys cA) fx_g fx_G A := ⟨X.1, X.2.1, X.2.2.1, fx_G_ok, X.2.2.2.2.1⟩
  obtain ⟨r, σ', τ', k, f', nc, hnc, hFR, hRel, hM, hk, hout⟩ := lo_write l D h cA ho hlt (xs (Int32.ofNat (5 * j) + 1).toNatClampNeg) f (hO (xs (Int32.ofNat (5 * j) + 1).toNatClampNeg))
  refine lv_aload_n hx hb dl_834 rfl (lv_at hl 1 rfl) ?_
  refine lv_aload_n hx hb dl_835 rfl (lv_at hl 0 rfl) ?_
  refine lv_iload hx hb dl_836 (lv_at hl 4 rfl) ?_
  refine lv_iconst (v := 1) hx hb dl_838 (by decide) ?_
  refine lv_iadd hx hb dl_839 ?_
  refine va_sld hx hb hX hbl hbA hw.2.2 (lw_in (k := 1) (by omega) hL) dl_840 ?_
  refine lv_aload_n hx hb dl_841 rfl (lv_at hl 3 rfl) ?_
  refine lx_callH (As := [.ref (h 0), .int (xs (Int32.ofNat (5 * j) + 1).toNatClampNeg), .ref ho]) X hHW hw hM lq_126 hg_Lw_write (by decide +kernel) ⟨Nat.le_of_ble_eq_true rfl, Nat.le_of_ble_eq_true rfl⟩ (n := 3) rfl dl_842 hl.1 rfl (lv_room (Nat.le_of_ble_eq_true rfl)) ⟨show cells + nc ≤ 1125 by omega, show slots + 6 * nc ≤ 30804 by omega⟩ (fun H locs hw => ?_)
  refine lv_istore (lv' := [(5, .int k), (0, .ref b), (1, .ref (h 0)), (2, .ref (h2 0)), (3, .ref ho), (4, .int (Int32.ofNat (5 * j)))]) hx hb dl_845 hl (by decide) rfl (fun ls hl => ?_)
  refine lv_aload_n hx hb dl_847 rfl (lv_at hl 3 rfl) ?_
  refine lv_aload_n hx hb dl_848 rfl (lv_at hl 1 rfl) ?_
  refine lv_iload hx hb dl_849 (lv_at hl 5 rfl) ?_
  refine lv_iconst (v := 1) hx hb dl_851 (by decide) ?_
  refine lv_iadd hx hb dl_852 ?_
  refine va_sld hx hb hX hbl hbA hw.2.2 (lw_in (k := 1) (by omega) hL) dl_853 ?_
  refine lx_call_i (w1 := lw_w h cA ho σ' f') (wf := rf_ws h2 cA) (w3 := []) (As := [.int (xs (Int32.ofNat (5 * j) + 1).toNatClampNeg)]) Xc hw (c_Md_write l D h2 cA (xs (Int32.ofNat (5 * j) + 1).toNatClampNeg)) hFR (fx_cwV Xc lq_128 hg_Md_write fx_gok (rm := { frames := 5, cells := 0, slots := 0, locals := 120 }) rfl rfl (by decide +kernel) ⟨Nat.le_of_ble_eq_true rfl, Nat.le_of_ble_eq_true rfl⟩) (va_recv X.2.1 (lx_split (w1 := lw_w h cA ho σ' f') (w2 := rf_ws h2 cA τ) (w3 := []) hw).1 (ci := 8) (q0 := 0) rfl rfl) (n := 1) rfl dl_854 hl.1 rfl (lv_room (Nat.le_of_ble_eq_true rfl)) ⟨show cells + nc ≤ 1125 by omega, show slots + 6 * nc ≤ 30804 by omega⟩ (fun H locs hw => ?_)
  refine lv_istore (lv' := [(6, .int r), (5, .int k), (0, .ref b), (1, .ref (h 0)), (2, .ref (h2 0)), (3, .ref ho), (4, .int (Int32.ofNat (5 * j)))]) hx hb dl_857 hl (by decide) rfl (fun ls hl => ?_)
  refine lv_aload_n hx hb dl_859 rfl (lv_at hl 4 rfl) ?_
  refine lx_call_i (w1 := lw_w h cA ho σ' f') (wf := rf_ws h2 cA) (w3 := []) (As := []) Xc hw (c_Md_thrown l D h2 cA) (lw_thrown _) (fx_cwV Xc lq_81 hg_Md_thrown fx_gok (rm := { frames := 0, cells := 0, slots := 0, locals := 0 }) rfl rfl (by decide +kernel) ⟨Nat.le_of_ble_eq_true rfl, Nat.le_of_ble_eq_true rfl⟩) (va_recv X.2.1 (lx_split (w1 := lw_w h cA ho σ' f') (w2 := rf_ws h2 cA τ') (w3 := []) hw).1 (ci := 8) (q0 := 0) rfl rfl) (n := 0) rfl dl_860 hl.1 rfl (lv_room (Nat.le_of_ble_eq_true rfl)) ⟨show cells + nc ≤ 1125 by omega, show slots + 6 * nc ≤ 30804 by omega⟩ (fun H locs hw => ?_)
  refine lv_iload hx hb dl_863 (lv_at hl 1 rfl) ?_
  refine lv_icmp_eq (tgt := 870) hx hb dl_865 (by decide) (fun hc => ?_) (fun hc => absurd hk hc)
  refine lv_iload hx hb dl_870 (lv_at hl 1 rfl) ?_
  refine lv_if_ne (tgt := 887) hx hb dl_872 (by decide) (fun hk0 => ?_) (fun hk0 => ?_)
  · skip
    refine lv_goto (tgt := 1121) hx hb dl_887 (by decide) ?_
    exact kk _ _ _ _ _ _ _ _ hRel (by omega) (by omega) hw (lv_sub hl [2, 3, 4, 5, 6] rfl)
  · have hk0 : k = 0 := hk0
    refine lv_aload_n hx hb dl_875 rfl (lv_at hl 5 rfl) ?_
    refine lv_iconst (v := 0) hx hb dl_876 (by decide) ?_
    refine va_lald hx hb X.2.1 hw.1 48 1 rfl rfl (by show ¬ ((0 : Int32) < 0 ∨ 1 ≤ (0 : Int32).toNatClampNeg); decide) dl_877 ?_
    rw [hout hk0]
    refine lv_iload hx hb dl_878 (lv_at hl 0 rfl) ?_
    refine lv_i2l hx hb dl_880 rfl ?_
    refine W.lcmp hx hb dl_881 ?_
    refine lv_if_eq (tgt := 887) hx hb dl_882 (by decide) (fun hc => ?_) (fun hc => absurd (lw_cmp _) hc)
    refine lv_goto (tgt := 1121) hx hb dl_887 (by decide) ?_
    exact kk _ _ _ _ _ _ _ _ hRel (by omega) (by omega) hw (lv_sub hl [2, 3, 4, 5, 6] rfl)
theorem lo_written (l : Launch) (D : va_G) (h : Nat → Nat) (cA : Nat → ClassId) (ho : Nat) (hlt : l.stackTraces = false) (a0 : Int32) (a1 : Int32) {Rel : fx_S → fx_S → Prop} {σ τ : fx_S} (f : Nat → Int64) (hO : lw_op Rel [(0, 1), (2, 2)] (F_FixityTrees_written a0 a1) (F_Md_written a0 a1) (fun r b => r = b) σ τ) : ∃ (b : Int32) (σ' τ' : fx_S) (k : Int32) (f' : Nat → Int64) (nc : Nat), nc ≤ 1 ∧ F_Md_written a0 a1 τ = some (b, τ') ∧ Rel σ' τ' ∧ lh_M l y_Lw_written b_Lw_written 5 [(0, 10, 13, 13), (0, 10, 17, 21)] { frames := 7, cells := 0, slots := 0, locals := 113 } D h cA ho [.ref (h 0), .int a0, .int a1, .ref ho] σ f k σ' f' nc ∧ τ'.1 0 = k ∧ (k = 0 → f' ((0 : Int32).toNatClampNeg) = b.toInt64) := by
  obtain ⟨b, σ', τ', h1, h2, h3⟩ := hO
  rcases h3 with ⟨r, g1, g2, g3⟩ | ⟨q, hq, g1, g2⟩
  · exact ⟨b, σ', τ', 0, _, 0, Nat.zero_le _, h1, h2, hr_written l D h cA ho hlt a0 a1 g1, g2, fun _ => by rw [lw_updL, g3]⟩
  · simp only [List.mem_cons, List.not_mem_nil, or_false] at hq
    rcases hq with rfl | rfl
    · exact ⟨b, σ', τ', 1, f, 1, Nat.le_refl _, h1, h2, hx_written_0 l D h cA ho hlt a0 a1 g1, g2, fun h9 => absurd h9 (by decide)⟩
    · exact ⟨b, σ', τ', 2, f, 1, Nat.le_refl _, h1, h2, hx_written_2 l D h cA ho hlt a0 a1 g1, g2, fun h9 => absurd h9 (by decide)⟩
set_option maxHeartbeats 4000000 in
set_option maxRecDepth 100000 in
theorem la_written {p : Program} {l : Launch} {e : Env} {s : State} {m : MethodId} {below : List Frame} {meth : Method} {c : Code} {b L j : Nat} {xs : Nat → Int32} {D : va_G} {h h2 : Nat → Nat} {cA : Nat → ClassId} {ho : Nat} {A : Nat → Prop} {Rel : fx_S → fx_S → Prop} {σ τ : fx_S} {f : Nat → Int64} {H : Heap} {locs : List Loc} {cells slots : Nat} {ls : Array Slot} {Q : State → Prop} (C : lw_Cx p l s m meth c b L xs D cA A) (hj : 5 * j + 5 ≤ L) (hO :∀ (a0 : Int32) (a1 : Int32), lw_op Rel [(0, 1), (2, 2)] (F_FixityTrees_written a0 a1) (F_Md_written a0 a1) (fun r b => r = b) σ τ) (hw : cx_B D fx_cl A s.heap ([] ++ (lw_w h cA ho σ f ++ (rf_ws h2 cA τ ++ []))) H locs) (hl : lv_has ls 8 [(0, .ref b), (1, .ref (h 0)), (2, .ref (h2 0)), (3, .ref ho), (4, .int (Int32.ofNat (5 * j)))]) (hcs : cells + 1 ≤ 1125 ∧ slots + 6 ≤ 30804) (kk : ∀ (σ' τ' : fx_S) (f' : Nat → Int64) (H' : Heap) (locs' : List Loc) (ls' : Array Slot) (cells' slots' : Nat), Rel σ' τ' → cells' ≤ cells + 1 → slots' ≤ slots + 6 → cx_B D fx_cl A s.heap ([] ++ (lw_w h cA ho σ' f' ++ (rf_ws h2 cA τ' ++ []))) H' locs' → lv_has ls' 8 [(0, .ref b), (1, .ref (h 0)), (2, .ref (h2 0)), (3, .ref ho), (4, .int (Int32.ofNat (5 * j)))] → W p l e room_1 s m #[Value.ref b] below meth c H' locs' cells' slots' Q (F0 m 1121 ls' [])) : W p l e room_1 s m #[Value.ref b] below meth c H locs cells slots Q (F0 m 890 ls []) := by
  obtain ⟨X, hHW, hX, hbl, hbA, hlt, hL⟩ := C
  have hx := X.1.1
  have hb := X.1.2.1
  have Xc : fx_X p m c code 8 s #[Value.ref b] "FixityTreesLaw" D fx_cl (fx_tys cA) fx_g fx_G A := ⟨X.1, X.2.1, X.2.2.1, fx_G_ok, X.2.2.2.2.1⟩
  obtain ⟨r, σ', τ', k, f', nc, hnc, hFR, hRel, hM, hk, hout⟩ := lo_written l D h cA ho hlt (xs (Int32.ofNat (5 * j) + 1).toNatClampNeg) (xs (Int32.ofNat (5 * j) + 2).toNatClampNeg) f (hO (xs (Int32.ofNat (5 * j) + 1).toNatClampNeg) (xs (Int32.ofNat (5 * j) + 2).toNatClampNeg))
  refine lv_aload_n hx hb dl_890 rfl (lv_at hl 1 rfl) ?_
  refine lv_aload_n hx hb dl_891 rfl (lv_at hl 0 rfl) ?_
  refine lv_iload hx hb dl_892 (lv_at hl 4 rfl) ?_
  refine lv_iconst (v := 1) hx hb dl_894 (by decide) ?_
  refine lv_iadd hx hb dl_895 ?_
  refine va_sld hx hb hX hbl hbA hw.2.2 (lw_in (k := 1) (by omega) hL) dl_896 ?_
  refine lv_aload_n hx hb dl_897 rfl (lv_at hl 0 rfl) ?_
  refine lv_iload hx hb dl_898 (lv_at hl 4 rfl) ?_
  refine lv_iconst (v := 2) hx hb dl_900 (by decide) ?_
  refine lv_iadd hx hb dl_901 ?_
  refine va_sld hx hb hX hbl hbA hw.2.2 (lw_in (k := 2) (by omega) hL) dl_902 ?_
  refine lv_aload_n hx hb dl_903 rfl (lv_at hl 3 rfl) ?_
  refine lx_callH (As := [.ref (h 0), .int (xs (Int32.ofNat (5 * j) + 1).toNatClampNeg), .int (xs (Int32.ofNat (5 * j) + 2).toNatClampNeg), .ref ho]) X hHW hw hM lq_129 hg_Lw_written (by decide +kernel) ⟨Nat.le_of_ble_eq_true rfl, Nat.le_of_ble_eq_true rfl⟩ (n := 4) rfl dl_904 hl.1 rfl (lv_room (Nat.le_of_ble_eq_true rfl)) ⟨show cells + nc ≤ 1125 by omega, show slots + 6 * nc ≤ 30804 by omega⟩ (fun H locs hw => ?_)
  refine lv_istore (lv' := [(5, .int k), (0, .ref b), (1, .ref (h 0)), (2, .ref (h2 0)), (3, .ref ho), (4, .int (Int32.ofNat (5 * j)))]) hx hb dl_907 hl (by decide) rfl (fun ls hl => ?_)
  refine lv_aload_n hx hb dl_909 rfl (lv_at hl 3 rfl) ?_
  refine lv_aload_n hx hb dl_910 rfl (lv_at hl 1 rfl) ?_
  refine lv_iload hx hb dl_911 (lv_at hl 5 rfl) ?_
  refine lv_iconst (v := 1) hx hb dl_913 (by decide) ?_
  refine lv_iadd hx hb dl_914 ?_
  refine va_sld hx hb hX hbl hbA hw.2.2 (lw_in (k := 1) (by omega) hL) dl_915 ?_
  refine lv_aload_n hx hb dl_916 rfl (lv_at hl 1 rfl) ?_
  refine lv_iload hx hb dl_917 (lv_at hl 5 rfl) ?_
  refine lv_iconst (v := 2) hx hb dl_919 (by decide) ?_
  refine lv_iadd hx hb dl_920 ?_
  refine va_sld hx hb hX hbl hbA hw.2.2 (lw_in (k := 2) (by omega) hL) dl_921 ?_
  refine lx_call_i (w1 := lw_w h cA ho σ' f') (wf := rf_ws h2 cA) (w3 := []) (As := [.int (xs (Int32.ofNat (5 * j) + 1).toNatClampNeg), .int (xs (Int32.ofNat (5 * j) + 2).toNatClampNeg)]) Xc hw (c_Md_written l D h2 cA (xs (Int32.ofNat (5 * j) + 1).toNatClampNeg) (xs (Int32.ofNat (5 * j) + 2).toNatClampNeg)) hFR (fx_cwV Xc lq_131 hg_Md_written fx_gok (rm := { frames := 1, cells := 0, slots := 0, locals := 22 }) rfl rfl (by decide +kernel) ⟨Nat.le_of_ble_eq_true rfl, Nat.le_of_ble_eq_true rfl⟩) (va_recv X.2.1 (lx_split (w1 := lw_w h cA ho σ' f') (w2 := rf_ws h2 cA τ) (w3 := []) hw).1 (ci := 8) (q0 := 0) rfl rfl) (n := 2) rfl dl_922 hl.1 rfl (lv_room (Nat.le_of_ble_eq_true rfl)) ⟨show cells + nc ≤ 1125 by omega, show slots + 6 * nc ≤ 30804 by omega⟩ (fun H locs hw => ?_)
  refine lv_istore (lv' := [(6, .int r), (5, .int k), (0, .ref b), (1, .ref (h 0)), (2, .ref (h2 0)), (3, .ref ho), (4, .int (Int32.ofNat (5 * j)))]) hx hb dl_925 hl (by decide) rfl (fun ls hl => ?_)
  refine lv_aload_n hx hb dl_927 rfl (lv_at hl 4 rfl) ?_
  refine lx_call_i (w1 := lw_w h cA ho σ' f') (wf := rf_ws h2 cA) (w3 := []) (As := []) Xc hw (c_Md_thrown l D h2 cA) (lw_thrown _) (fx_cwV Xc lq_81 hg_Md_thrown fx_gok (rm := { frames := 0, cells := 0, slots := 0, locals := 0 }) rfl rfl (by decide +kernel) ⟨Nat.le_of_ble_eq_true rfl, Nat.le_of_ble_eq_true rfl⟩) (va_recv X.2.1 (lx_split (w1 := lw_w h cA ho σ' f') (w2 := rf_ws h2 cA τ') (w3 := []) hw).1 (ci := 8) (q0 := 0) rfl rfl) (n := 0) rfl dl_928 hl.1 rfl (lv_room (Nat.le_of_ble_eq_true rfl)) ⟨show cells + nc ≤ 1125 by omega, show slots + 6 * nc ≤ 30804 by omega⟩ (fun H locs hw => ?_)
  refine lv_iload hx hb dl_931 (lv_at hl 1 rfl) ?_
  refine lv_icmp_eq (tgt := 938) hx hb dl_933 (by decide) (fun hc => ?_) (fun hc => absurd hk hc)
  refine lv_iload hx hb dl_938 (lv_at hl 1 rfl) ?_
  refine lv_if_ne (tgt := 955) hx hb dl_940 (by decide) (fun hk0 => ?_) (fun hk0 => ?_)
  · skip
    refine lv_goto (tgt := 1121) hx hb dl_955 (by decide) ?_
    exact kk _ _ _ _ _ _ _ _ hRel (by omega) (by omega) hw (lv_sub hl [2, 3, 4, 5, 6] rfl)
  · have hk0 : k = 0 := hk0
    refine lv_aload_n hx hb dl_943 rfl (lv_at hl 5 rfl) ?_
    refine lv_iconst (v := 0) hx hb dl_944 (by decide) ?_
    refine va_lald hx hb X.2.1 hw.1 48 1 rfl rfl (by show ¬ ((0 : Int32) < 0 ∨ 1 ≤ (0 : Int32).toNatClampNeg); decide) dl_945 ?_
    rw [hout hk0]
    refine lv_iload hx hb dl_946 (lv_at hl 0 rfl) ?_
    refine lv_i2l hx hb dl_948 rfl ?_
    refine W.lcmp hx hb dl_949 ?_
    refine lv_if_eq (tgt := 955) hx hb dl_950 (by decide) (fun hc => ?_) (fun hc => absurd (lw_cmp _) hc)
    refine lv_goto (tgt := 1121) hx hb dl_955 (by decide) ?_
    exact kk _ _ _ _ _ _ _ _ hRel (by omega) (by omega) hw (lv_sub hl [2, 3, 4, 5, 6] rfl)
theorem lo_take (l : Launch) (D : va_G) (h : Nat → Nat) (cA : Nat → ClassId) (ho : Nat) (hlt : l.stackTraces = false) {Rel : fx_S → fx_S → Prop} {σ τ : fx_S} (f : Nat → Int64) (hO : lw_op Rel [(1, 1)] (F_FixityTrees_take) (F_Md_take) (fun r b => r = b) σ τ) : ∃ (b : Int32) (σ' τ' : fx_S) (k : Int32) (f' : Nat → Int64) (nc : Nat), nc ≤ 1 ∧ F_Md_take τ = some (b, τ') ∧ Rel σ' τ' ∧ lh_M l y_Lw_take b_Lw_take 3 [(0, 8, 11, 15)] { frames := 7, cells := 0, slots := 0, locals := 127 } D h cA ho [.ref (h 0), .ref ho] σ f k σ' f' nc ∧ τ'.1 0 = k ∧ (k = 0 → f' ((0 : Int32).toNatClampNeg) = b.toInt64) := by
  obtain ⟨b, σ', τ', h1, h2, h3⟩ := hO
  rcases h3 with ⟨r, g1, g2, g3⟩ | ⟨q, hq, g1, g2⟩
  · exact ⟨b, σ', τ', 0, _, 0, Nat.zero_le _, h1, h2, hr_take l D h cA ho hlt g1, g2, fun _ => by rw [lw_updL, g3]⟩
  · simp only [List.mem_cons, List.not_mem_nil, or_false] at hq
    subst hq
    · exact ⟨b, σ', τ', 1, f, 1, Nat.le_refl _, h1, h2, hx_take_1 l D h cA ho hlt g1, g2, fun h9 => absurd h9 (by decide)⟩
set_option maxHeartbeats 4000000 in
set_option maxRecDepth 100000 in
theorem la_take {p : Program} {l : Launch} {e : Env} {s : State} {m : MethodId} {below : List Frame} {meth : Method} {c : Code} {b L j : Nat} {xs : Nat → Int32} {D : va_G} {h h2 : Nat → Nat} {cA : Nat → ClassId} {ho : Nat} {A : Nat → Prop} {Rel : fx_S → fx_S → Prop} {σ τ : fx_S} {f : Nat → Int64} {H : Heap} {locs : List Loc} {cells slots : Nat} {ls : Array Slot} {Q : State → Prop} (C : lw_Cx p l s m meth c b L xs D cA A) (hj : 5 * j + 5 ≤ L) (hO : lw_op Rel [(1, 1)] (F_FixityTrees_take) (F_Md_take) (fun r b => r = b) σ τ) (hw : cx_B D fx_cl A s.heap ([] ++ (lw_w h cA ho σ f ++ (rf_ws h2 cA τ ++ []))) H locs) (hl : lv_has ls 8 [(0, .ref b), (1, .ref (h 0)), (2, .ref (h2 0)), (3, .ref ho), (4, .int (Int32.ofNat (5 * j)))]) (hcs : cells + 1 ≤ 1125 ∧ slots + 6 ≤ 30804) (kk : ∀ (σ' τ' : fx_S) (f' : Nat → Int64) (H' : Heap) (locs' : List Loc) (ls' : Array Slot) (cells' slots' : Nat), Rel σ' τ' → cells' ≤ cells + 1 → slots' ≤ slots + 6 → cx_B D fx_cl A s.heap ([] ++ (lw_w h cA ho σ' f' ++ (rf_ws h2 cA τ' ++ []))) H' locs' → lv_has ls' 8 [(0, .ref b), (1, .ref (h 0)), (2, .ref (h2 0)), (3, .ref ho), (4, .int (Int32.ofNat (5 * j)))] → W p l e room_1 s m #[Value.ref b] below meth c H' locs' cells' slots' Q (F0 m 1121 ls' [])) : W p l e room_1 s m #[Value.ref b] below meth c H locs cells slots Q (F0 m 958 ls []) := by
  obtain ⟨X, hHW, hX, hbl, hbA, hlt, hL⟩ := C
  have hx := X.1.1
  have hb := X.1.2.1
  have Xc : fx_X p m c code 8 s #[Value.ref b] "FixityTreesLaw" D fx_cl (fx_tys cA) fx_g fx_G A := ⟨X.1, X.2.1, X.2.2.1, fx_G_ok, X.2.2.2.2.1⟩
  obtain ⟨r, σ', τ', k, f', nc, hnc, hFR, hRel, hM, hk, hout⟩ := lo_take l D h cA ho hlt f (hO)
  refine lv_aload_n hx hb dl_958 rfl (lv_at hl 1 rfl) ?_
  refine lv_aload_n hx hb dl_959 rfl (lv_at hl 3 rfl) ?_
  refine lx_callH (As := [.ref (h 0), .ref ho]) X hHW hw hM lq_132 hg_Lw_take (by decide +kernel) ⟨Nat.le_of_ble_eq_true rfl, Nat.le_of_ble_eq_true rfl⟩ (n := 2) rfl dl_960 hl.1 rfl (lv_room (Nat.le_of_ble_eq_true rfl)) ⟨show cells + nc ≤ 1125 by omega, show slots + 6 * nc ≤ 30804 by omega⟩ (fun H locs hw => ?_)
  refine lv_istore (lv' := [(5, .int k), (0, .ref b), (1, .ref (h 0)), (2, .ref (h2 0)), (3, .ref ho), (4, .int (Int32.ofNat (5 * j)))]) hx hb dl_963 hl (by decide) rfl (fun ls hl => ?_)
  refine lv_aload_n hx hb dl_965 rfl (lv_at hl 3 rfl) ?_
  refine lx_call_i (w1 := lw_w h cA ho σ' f') (wf := rf_ws h2 cA) (w3 := []) (As := []) Xc hw (c_Md_take l D h2 cA) hFR (fx_cwV Xc lq_134 hg_Md_take fx_gok (rm := { frames := 1, cells := 0, slots := 0, locals := 24 }) rfl rfl (by decide +kernel) ⟨Nat.le_of_ble_eq_true rfl, Nat.le_of_ble_eq_true rfl⟩) (va_recv X.2.1 (lx_split (w1 := lw_w h cA ho σ' f') (w2 := rf_ws h2 cA τ) (w3 := []) hw).1 (ci := 8) (q0 := 0) rfl rfl) (n := 0) rfl dl_966 hl.1 rfl (lv_room (Nat.le_of_ble_eq_true rfl)) ⟨show cells + nc ≤ 1125 by omega, show slots + 6 * nc ≤ 30804 by omega⟩ (fun H locs hw => ?_)
  refine lv_istore (lv' := [(6, .int r), (5, .int k), (0, .ref b), (1, .ref (h 0)), (2, .ref (h2 0)), (3, .ref ho), (4, .int (Int32.ofNat (5 * j)))]) hx hb dl_969 hl (by decide) rfl (fun ls hl => ?_)
  refine lv_aload_n hx hb dl_971 rfl (lv_at hl 4 rfl) ?_
  refine lx_call_i (w1 := lw_w h cA ho σ' f') (wf := rf_ws h2 cA) (w3 := []) (As := []) Xc hw (c_Md_thrown l D h2 cA) (lw_thrown _) (fx_cwV Xc lq_81 hg_Md_thrown fx_gok (rm := { frames := 0, cells := 0, slots := 0, locals := 0 }) rfl rfl (by decide +kernel) ⟨Nat.le_of_ble_eq_true rfl, Nat.le_of_ble_eq_true rfl⟩) (va_recv X.2.1 (lx_split (w1 := lw_w h cA ho σ' f') (w2 := rf_ws h2 cA τ') (w3 := []) hw).1 (ci := 8) (q0 := 0) rfl rfl) (n := 0) rfl dl_972 hl.1 rfl (lv_room (Nat.le_of_ble_eq_true rfl)) ⟨show cells + nc ≤ 1125 by omega, show slots + 6 * nc ≤ 30804 by omega⟩ (fun H locs hw => ?_)
  refine lv_iload hx hb dl_975 (lv_at hl 1 rfl) ?_
  refine lv_icmp_eq (tgt := 982) hx hb dl_977 (by decide) (fun hc => ?_) (fun hc => absurd hk hc)
  refine lv_iload hx hb dl_982 (lv_at hl 1 rfl) ?_
  refine lv_if_ne (tgt := 999) hx hb dl_984 (by decide) (fun hk0 => ?_) (fun hk0 => ?_)
  · skip
    refine lv_goto (tgt := 1121) hx hb dl_999 (by decide) ?_
    exact kk _ _ _ _ _ _ _ _ hRel (by omega) (by omega) hw (lv_sub hl [2, 3, 4, 5, 6] rfl)
  · have hk0 : k = 0 := hk0
    refine lv_aload_n hx hb dl_987 rfl (lv_at hl 5 rfl) ?_
    refine lv_iconst (v := 0) hx hb dl_988 (by decide) ?_
    refine va_lald hx hb X.2.1 hw.1 48 1 rfl rfl (by show ¬ ((0 : Int32) < 0 ∨ 1 ≤ (0 : Int32).toNatClampNeg); decide) dl_989 ?_
    rw [hout hk0]
    refine lv_iload hx hb dl_990 (lv_at hl 0 rfl) ?_
    refine lv_i2l hx hb dl_992 rfl ?_
    refine W.lcmp hx hb dl_993 ?_
    refine lv_if_eq (tgt := 999) hx hb dl_994 (by decide) (fun hc => ?_) (fun hc => absurd (lw_cmp _) hc)
    refine lv_goto (tgt := 1121) hx hb dl_999 (by decide) ?_
    exact kk _ _ _ _ _ _ _ _ hRel (by omega) (by omega) hw (lv_sub hl [2, 3, 4, 5, 6] rfl)
theorem lo_same (l : Launch) (D : va_G) (h : Nat → Nat) (cA : Nat → ClassId) (ho : Nat) (hlt : l.stackTraces = false) (a0 : Int32) {Rel : fx_S → fx_S → Prop} {σ τ : fx_S} (f : Nat → Int64) (hO : lw_op Rel [(0, 1), (1, 2)] (F_FixityTrees_same a0) (F_Md_same a0) (fun r b => (r = 0 ↔ b = 0)) σ τ) : ∃ (b : Int32) (σ' τ' : fx_S) (k : Int32) (f' : Nat → Int64) (nc : Nat), nc ≤ 1 ∧ F_Md_same a0 τ = some (b, τ') ∧ Rel σ' τ' ∧ lh_M l y_Lw_same b_Lw_same 4 [(0, 16, 19, 13), (0, 16, 22, 15)] { frames := 8, cells := 0, slots := 0, locals := 155 } D h cA ho [.ref (h 0), .int a0, .ref ho] σ f k σ' f' nc ∧ τ'.1 0 = k ∧ (k = 0 → f' ((0 : Int32).toNatClampNeg) = (if b = 0 then 0 else 1)) := by
  obtain ⟨b, σ', τ', h1, h2, h3⟩ := hO
  rcases h3 with ⟨r, g1, g2, g3⟩ | ⟨q, hq, g1, g2⟩
  · exact ⟨b, σ', τ', 0, _, 0, Nat.zero_le _, h1, h2, hr_same l D h cA ho hlt a0 g1, g2, fun _ => by rw [lw_updL]; by_cases h9 : r = 0 <;> simp [h9, ← g3]⟩
  · simp only [List.mem_cons, List.not_mem_nil, or_false] at hq
    rcases hq with rfl | rfl
    · exact ⟨b, σ', τ', 1, f, 1, Nat.le_refl _, h1, h2, hx_same_0 l D h cA ho hlt a0 g1, g2, fun h9 => absurd h9 (by decide)⟩
    · exact ⟨b, σ', τ', 2, f, 1, Nat.le_refl _, h1, h2, hx_same_1 l D h cA ho hlt a0 g1, g2, fun h9 => absurd h9 (by decide)⟩
set_option maxHeartbeats 4000000 in
set_option maxRecDepth 100000 in
theorem la_same {p : Program} {l : Launch} {e : Env} {s : State} {m : MethodId} {below : List Frame} {meth : Method} {c : Code} {b L j : Nat} {xs : Nat → Int32} {D : va_G} {h h2 : Nat → Nat} {cA : Nat → ClassId} {ho : Nat} {A : Nat → Prop} {Rel : fx_S → fx_S → Prop} {σ τ : fx_S} {f : Nat → Int64} {H : Heap} {locs : List Loc} {cells slots : Nat} {ls : Array Slot} {Q : State → Prop} (C : lw_Cx p l s m meth c b L xs D cA A) (hj : 5 * j + 5 ≤ L) (hO :∀ (a0 : Int32), lw_op Rel [(0, 1), (1, 2)] (F_FixityTrees_same a0) (F_Md_same a0) (fun r b => (r = 0 ↔ b = 0)) σ τ) (hw : cx_B D fx_cl A s.heap ([] ++ (lw_w h cA ho σ f ++ (rf_ws h2 cA τ ++ []))) H locs) (hl : lv_has ls 8 [(0, .ref b), (1, .ref (h 0)), (2, .ref (h2 0)), (3, .ref ho), (4, .int (Int32.ofNat (5 * j)))]) (hcs : cells + 1 ≤ 1125 ∧ slots + 6 ≤ 30804) (kk : ∀ (σ' τ' : fx_S) (f' : Nat → Int64) (H' : Heap) (locs' : List Loc) (ls' : Array Slot) (cells' slots' : Nat), Rel σ' τ' → cells' ≤ cells + 1 → slots' ≤ slots + 6 → cx_B D fx_cl A s.heap ([] ++ (lw_w h cA ho σ' f' ++ (rf_ws h2 cA τ' ++ []))) H' locs' → lv_has ls' 8 [(0, .ref b), (1, .ref (h 0)), (2, .ref (h2 0)), (3, .ref ho), (4, .int (Int32.ofNat (5 * j)))] → W p l e room_1 s m #[Value.ref b] below meth c H' locs' cells' slots' Q (F0 m 1121 ls' [])) : W p l e room_1 s m #[Value.ref b] below meth c H locs cells slots Q (F0 m 1002 ls []) := by
  obtain ⟨X, hHW, hX, hbl, hbA, hlt, hL⟩ := C
  have hx := X.1.1
  have hb := X.1.2.1
  have Xc : fx_X p m c code 8 s #[Value.ref b] "FixityTreesLaw" D fx_cl (fx_tys cA) fx_g fx_G A := ⟨X.1, X.2.1, X.2.2.1, fx_G_ok, X.2.2.2.2.1⟩
  obtain ⟨r, σ', τ', k, f', nc, hnc, hFR, hRel, hM, hk, hout⟩ := lo_same l D h cA ho hlt (xs (Int32.ofNat (5 * j) + 1).toNatClampNeg) f (hO (xs (Int32.ofNat (5 * j) + 1).toNatClampNeg))
  refine lv_aload_n hx hb dl_1002 rfl (lv_at hl 1 rfl) ?_
  refine lv_aload_n hx hb dl_1003 rfl (lv_at hl 0 rfl) ?_
  refine lv_iload hx hb dl_1004 (lv_at hl 4 rfl) ?_
  refine lv_iconst (v := 1) hx hb dl_1006 (by decide) ?_
  refine lv_iadd hx hb dl_1007 ?_
  refine va_sld hx hb hX hbl hbA hw.2.2 (lw_in (k := 1) (by omega) hL) dl_1008 ?_
  refine lv_aload_n hx hb dl_1009 rfl (lv_at hl 3 rfl) ?_
  refine lx_callH (As := [.ref (h 0), .int (xs (Int32.ofNat (5 * j) + 1).toNatClampNeg), .ref ho]) X hHW hw hM lq_135 hg_Lw_same (by decide +kernel) ⟨Nat.le_of_ble_eq_true rfl, Nat.le_of_ble_eq_true rfl⟩ (n := 3) rfl dl_1010 hl.1 rfl (lv_room (Nat.le_of_ble_eq_true rfl)) ⟨show cells + nc ≤ 1125 by omega, show slots + 6 * nc ≤ 30804 by omega⟩ (fun H locs hw => ?_)
  refine lv_istore (lv' := [(5, .int k), (0, .ref b), (1, .ref (h 0)), (2, .ref (h2 0)), (3, .ref ho), (4, .int (Int32.ofNat (5 * j)))]) hx hb dl_1013 hl (by decide) rfl (fun ls hl => ?_)
  refine lv_aload_n hx hb dl_1015 rfl (lv_at hl 3 rfl) ?_
  refine lv_aload_n hx hb dl_1016 rfl (lv_at hl 1 rfl) ?_
  refine lv_iload hx hb dl_1017 (lv_at hl 5 rfl) ?_
  refine lv_iconst (v := 1) hx hb dl_1019 (by decide) ?_
  refine lv_iadd hx hb dl_1020 ?_
  refine va_sld hx hb hX hbl hbA hw.2.2 (lw_in (k := 1) (by omega) hL) dl_1021 ?_
  refine lx_call_i (w1 := lw_w h cA ho σ' f') (wf := rf_ws h2 cA) (w3 := []) (As := [.int (xs (Int32.ofNat (5 * j) + 1).toNatClampNeg)]) Xc hw (c_Md_same l D h2 cA (xs (Int32.ofNat (5 * j) + 1).toNatClampNeg)) hFR (fx_cwV Xc lq_137 hg_Md_same fx_gok (rm := { frames := 5, cells := 0, slots := 0, locals := 128 }) rfl rfl (by decide +kernel) ⟨Nat.le_of_ble_eq_true rfl, Nat.le_of_ble_eq_true rfl⟩) (va_recv X.2.1 (lx_split (w1 := lw_w h cA ho σ' f') (w2 := rf_ws h2 cA τ) (w3 := []) hw).1 (ci := 8) (q0 := 0) rfl rfl) (n := 1) rfl dl_1022 hl.1 rfl (lv_room (Nat.le_of_ble_eq_true rfl)) ⟨show cells + nc ≤ 1125 by omega, show slots + 6 * nc ≤ 30804 by omega⟩ (fun H locs hw => ?_)
  refine lv_istore (lv' := [(6, .int r), (5, .int k), (0, .ref b), (1, .ref (h 0)), (2, .ref (h2 0)), (3, .ref ho), (4, .int (Int32.ofNat (5 * j)))]) hx hb dl_1025 hl (by decide) rfl (fun ls hl => ?_)
  refine lv_aload_n hx hb dl_1027 rfl (lv_at hl 4 rfl) ?_
  refine lx_call_i (w1 := lw_w h cA ho σ' f') (wf := rf_ws h2 cA) (w3 := []) (As := []) Xc hw (c_Md_thrown l D h2 cA) (lw_thrown _) (fx_cwV Xc lq_81 hg_Md_thrown fx_gok (rm := { frames := 0, cells := 0, slots := 0, locals := 0 }) rfl rfl (by decide +kernel) ⟨Nat.le_of_ble_eq_true rfl, Nat.le_of_ble_eq_true rfl⟩) (va_recv X.2.1 (lx_split (w1 := lw_w h cA ho σ' f') (w2 := rf_ws h2 cA τ') (w3 := []) hw).1 (ci := 8) (q0 := 0) rfl rfl) (n := 0) rfl dl_1028 hl.1 rfl (lv_room (Nat.le_of_ble_eq_true rfl)) ⟨show cells + nc ≤ 1125 by omega, show slots + 6 * nc ≤ 30804 by omega⟩ (fun H locs hw => ?_)
  refine lv_iload hx hb dl_1031 (lv_at hl 1 rfl) ?_
  refine lv_icmp_eq (tgt := 1038) hx hb dl_1033 (by decide) (fun hc => ?_) (fun hc => absurd hk hc)
  refine lv_iload hx hb dl_1038 (lv_at hl 1 rfl) ?_
  refine lv_if_ne (tgt := 1062) hx hb dl_1040 (by decide) (fun hk0 => ?_) (fun hk0 => ?_)
  · skip
    refine lv_goto (tgt := 1121) hx hb dl_1062 (by decide) ?_
    exact kk _ _ _ _ _ _ _ _ hRel (by omega) (by omega) hw (lv_sub hl [2, 3, 4, 5, 6] rfl)
  · have hk0 : k = 0 := hk0
    refine lv_aload_n hx hb dl_1043 rfl (lv_at hl 5 rfl) ?_
    refine lv_iconst (v := 0) hx hb dl_1044 (by decide) ?_
    refine va_lald hx hb X.2.1 hw.1 48 1 rfl rfl (by show ¬ ((0 : Int32) < 0 ∨ 1 ≤ (0 : Int32).toNatClampNeg); decide) dl_1045 ?_
    rw [hout hk0]
    refine lv_iload hx hb dl_1046 (lv_at hl 0 rfl) ?_
    refine lv_if_eq (tgt := 1055) hx hb dl_1048 (by decide) (fun hc => ?_) (fun hc => ?_)
    · rw [if_pos hc]
      refine lv_lconst (v := 0) hx hb dl_1055 (by decide) ?_
      refine W.lcmp hx hb dl_1056 ?_
      refine lv_if_eq (tgt := 1062) hx hb dl_1057 (by decide) (fun hc => ?_) (fun hc => absurd (lw_cmp _) hc)
      refine lv_goto (tgt := 1121) hx hb dl_1062 (by decide) ?_
      exact kk _ _ _ _ _ _ _ _ hRel (by omega) (by omega) hw (lv_sub hl [2, 3, 4, 5, 6] rfl)
    · rw [if_neg hc]
      refine lv_lconst (v := 1) hx hb dl_1051 (by decide) ?_
      refine lv_goto (tgt := 1056) hx hb dl_1052 (by decide) ?_
      refine W.lcmp hx hb dl_1056 ?_
      refine lv_if_eq (tgt := 1062) hx hb dl_1057 (by decide) (fun hc => ?_) (fun hc => absurd (lw_cmp _) hc)
      refine lv_goto (tgt := 1121) hx hb dl_1062 (by decide) ?_
      exact kk _ _ _ _ _ _ _ _ hRel (by omega) (by omega) hw (lv_sub hl [2, 3, 4, 5, 6] rfl)
theorem lo_told (l : Launch) (D : va_G) (h : Nat → Nat) (cA : Nat → ClassId) (ho : Nat) (hlt : l.stackTraces = false) (a0 : Int32) {Rel : fx_S → fx_S → Prop} {σ τ : fx_S} (f : Nat → Int64) (hO : lw_op Rel [(2, 1)] (F_FixityTrees_told a0) (F_Md_told a0) (fun r b => r = b) σ τ) : ∃ (b : Int32) (σ' τ' : fx_S) (k : Int32) (f' : Nat → Int64) (nc : Nat), nc ≤ 1 ∧ F_Md_told a0 τ = some (b, τ') ∧ Rel σ' τ' ∧ lh_M l y_Lw_told b_Lw_told 4 [(0, 9, 12, 21)] { frames := 7, cells := 0, slots := 0, locals := 112 } D h cA ho [.ref (h 0), .int a0, .ref ho] σ f k σ' f' nc ∧ τ'.1 0 = k ∧ (k = 0 → f' ((0 : Int32).toNatClampNeg) = b.toInt64) := by
  obtain ⟨b, σ', τ', h1, h2, h3⟩ := hO
  rcases h3 with ⟨r, g1, g2, g3⟩ | ⟨q, hq, g1, g2⟩
  · exact ⟨b, σ', τ', 0, _, 0, Nat.zero_le _, h1, h2, hr_told l D h cA ho hlt a0 g1, g2, fun _ => by rw [lw_updL, g3]⟩
  · simp only [List.mem_cons, List.not_mem_nil, or_false] at hq
    subst hq
    · exact ⟨b, σ', τ', 1, f, 1, Nat.le_refl _, h1, h2, hx_told_2 l D h cA ho hlt a0 g1, g2, fun h9 => absurd h9 (by decide)⟩
set_option maxHeartbeats 4000000 in
set_option maxRecDepth 100000 in
theorem la_told {p : Program} {l : Launch} {e : Env} {s : State} {m : MethodId} {below : List Frame} {meth : Method} {c : Code} {b L j : Nat} {xs : Nat → Int32} {D : va_G} {h h2 : Nat → Nat} {cA : Nat → ClassId} {ho : Nat} {A : Nat → Prop} {Rel : fx_S → fx_S → Prop} {σ τ : fx_S} {f : Nat → Int64} {H : Heap} {locs : List Loc} {cells slots : Nat} {ls : Array Slot} {Q : State → Prop} (C : lw_Cx p l s m meth c b L xs D cA A) (hj : 5 * j + 5 ≤ L) (hO :∀ (a0 : Int32), lw_op Rel [(2, 1)] (F_FixityTrees_told a0) (F_Md_told a0) (fun r b => r = b) σ τ) (hw : cx_B D fx_cl A s.heap ([] ++ (lw_w h cA ho σ f ++ (rf_ws h2 cA τ ++ []))) H locs) (hl : lv_has ls 8 [(0, .ref b), (1, .ref (h 0)), (2, .ref (h2 0)), (3, .ref ho), (4, .int (Int32.ofNat (5 * j)))]) (hcs : cells + 1 ≤ 1125 ∧ slots + 6 ≤ 30804) (kk : ∀ (σ' τ' : fx_S) (f' : Nat → Int64) (H' : Heap) (locs' : List Loc) (ls' : Array Slot) (cells' slots' : Nat), Rel σ' τ' → cells' ≤ cells + 1 → slots' ≤ slots + 6 → cx_B D fx_cl A s.heap ([] ++ (lw_w h cA ho σ' f' ++ (rf_ws h2 cA τ' ++ []))) H' locs' → lv_has ls' 8 [(0, .ref b), (1, .ref (h 0)), (2, .ref (h2 0)), (3, .ref ho), (4, .int (Int32.ofNat (5 * j)))] → W p l e room_1 s m #[Value.ref b] below meth c H' locs' cells' slots' Q (F0 m 1121 ls' [])) : W p l e room_1 s m #[Value.ref b] below meth c H locs cells slots Q (F0 m 1065 ls []) := by
  obtain ⟨X, hHW, hX, hbl, hbA, hlt, hL⟩ := C
  have hx := X.1.1
  have hb := X.1.2.1
  have Xc : fx_X p m c code 8 s #[Value.ref b] "FixityTreesLaw" D fx_cl (fx_tys cA) fx_g fx_G A := ⟨X.1, X.2.1, X.2.2.1, fx_G_ok, X.2.2.2.2.1⟩
  obtain ⟨r, σ', τ', k, f', nc, hnc, hFR, hRel, hM, hk, hout⟩ := lo_told l D h cA ho hlt (xs (Int32.ofNat (5 * j) + 1).toNatClampNeg) f (hO (xs (Int32.ofNat (5 * j) + 1).toNatClampNeg))
  refine lv_aload_n hx hb dl_1065 rfl (lv_at hl 1 rfl) ?_
  refine lv_aload_n hx hb dl_1066 rfl (lv_at hl 0 rfl) ?_
  refine lv_iload hx hb dl_1067 (lv_at hl 4 rfl) ?_
  refine lv_iconst (v := 1) hx hb dl_1069 (by decide) ?_
  refine lv_iadd hx hb dl_1070 ?_
  refine va_sld hx hb hX hbl hbA hw.2.2 (lw_in (k := 1) (by omega) hL) dl_1071 ?_
  refine lv_aload_n hx hb dl_1072 rfl (lv_at hl 3 rfl) ?_
  refine lx_callH (As := [.ref (h 0), .int (xs (Int32.ofNat (5 * j) + 1).toNatClampNeg), .ref ho]) X hHW hw hM lq_138 hg_Lw_told (by decide +kernel) ⟨Nat.le_of_ble_eq_true rfl, Nat.le_of_ble_eq_true rfl⟩ (n := 3) rfl dl_1073 hl.1 rfl (lv_room (Nat.le_of_ble_eq_true rfl)) ⟨show cells + nc ≤ 1125 by omega, show slots + 6 * nc ≤ 30804 by omega⟩ (fun H locs hw => ?_)
  refine lv_istore (lv' := [(5, .int k), (0, .ref b), (1, .ref (h 0)), (2, .ref (h2 0)), (3, .ref ho), (4, .int (Int32.ofNat (5 * j)))]) hx hb dl_1076 hl (by decide) rfl (fun ls hl => ?_)
  refine lv_aload_n hx hb dl_1078 rfl (lv_at hl 3 rfl) ?_
  refine lv_aload_n hx hb dl_1079 rfl (lv_at hl 1 rfl) ?_
  refine lv_iload hx hb dl_1080 (lv_at hl 5 rfl) ?_
  refine lv_iconst (v := 1) hx hb dl_1082 (by decide) ?_
  refine lv_iadd hx hb dl_1083 ?_
  refine va_sld hx hb hX hbl hbA hw.2.2 (lw_in (k := 1) (by omega) hL) dl_1084 ?_
  refine lx_call_i (w1 := lw_w h cA ho σ' f') (wf := rf_ws h2 cA) (w3 := []) (As := [.int (xs (Int32.ofNat (5 * j) + 1).toNatClampNeg)]) Xc hw (c_Md_told l D h2 cA (xs (Int32.ofNat (5 * j) + 1).toNatClampNeg)) hFR (fx_cwV Xc lq_140 hg_Md_told fx_gok (rm := { frames := 2, cells := 0, slots := 0, locals := 42 }) rfl rfl (by decide +kernel) ⟨Nat.le_of_ble_eq_true rfl, Nat.le_of_ble_eq_true rfl⟩) (va_recv X.2.1 (lx_split (w1 := lw_w h cA ho σ' f') (w2 := rf_ws h2 cA τ) (w3 := []) hw).1 (ci := 8) (q0 := 0) rfl rfl) (n := 1) rfl dl_1085 hl.1 rfl (lv_room (Nat.le_of_ble_eq_true rfl)) ⟨show cells + nc ≤ 1125 by omega, show slots + 6 * nc ≤ 30804 by omega⟩ (fun H locs hw => ?_)
  refine lv_istore (lv' := [(6, .int r), (5, .int k), (0, .ref b), (1, .ref (h 0)), (2, .ref (h2 0)), (3, .ref ho), (4, .int (Int32.ofNat (5 * j)))]) hx hb dl_1088 hl (by decide) rfl (fun ls hl => ?_)
  refine lv_aload_n hx hb dl_1090 rfl (lv_at hl 4 rfl) ?_
  refine lx_call_i (w1 := lw_w h cA ho σ' f') (wf := rf_ws h2 cA) (w3 := []) (As := []) Xc hw (c_Md_thrown l D h2 cA) (lw_thrown _) (fx_cwV Xc lq_81 hg_Md_thrown fx_gok (rm := { frames := 0, cells := 0, slots := 0, locals := 0 }) rfl rfl (by decide +kernel) ⟨Nat.le_of_ble_eq_true rfl, Nat.le_of_ble_eq_true rfl⟩) (va_recv X.2.1 (lx_split (w1 := lw_w h cA ho σ' f') (w2 := rf_ws h2 cA τ') (w3 := []) hw).1 (ci := 8) (q0 := 0) rfl rfl) (n := 0) rfl dl_1091 hl.1 rfl (lv_room (Nat.le_of_ble_eq_true rfl)) ⟨show cells + nc ≤ 1125 by omega, show slots + 6 * nc ≤ 30804 by omega⟩ (fun H locs hw => ?_)
  refine lv_iload hx hb dl_1094 (lv_at hl 1 rfl) ?_
  refine lv_icmp_eq (tgt := 1101) hx hb dl_1096 (by decide) (fun hc => ?_) (fun hc => absurd hk hc)
  refine lv_iload hx hb dl_1101 (lv_at hl 1 rfl) ?_
  refine lv_if_ne (tgt := 1118) hx hb dl_1103 (by decide) (fun hk0 => ?_) (fun hk0 => ?_)
  · skip
    refine lv_goto (tgt := 1121) hx hb dl_1118 (by decide) ?_
    exact kk _ _ _ _ _ _ _ _ hRel (by omega) (by omega) hw (lv_sub hl [2, 3, 4, 5, 6] rfl)
  · have hk0 : k = 0 := hk0
    refine lv_aload_n hx hb dl_1106 rfl (lv_at hl 5 rfl) ?_
    refine lv_iconst (v := 0) hx hb dl_1107 (by decide) ?_
    refine va_lald hx hb X.2.1 hw.1 48 1 rfl rfl (by show ¬ ((0 : Int32) < 0 ∨ 1 ≤ (0 : Int32).toNatClampNeg); decide) dl_1108 ?_
    rw [hout hk0]
    refine lv_iload hx hb dl_1109 (lv_at hl 0 rfl) ?_
    refine lv_i2l hx hb dl_1111 rfl ?_
    refine W.lcmp hx hb dl_1112 ?_
    refine lv_if_eq (tgt := 1118) hx hb dl_1113 (by decide) (fun hc => ?_) (fun hc => absurd (lw_cmp _) hc)
    refine lv_goto (tgt := 1121) hx hb dl_1118 (by decide) ?_
    exact kk _ _ _ _ _ _ _ _ hRel (by omega) (by omega) hw (lv_sub hl [2, 3, 4, 5, 6] rfl)
