/-! THE START -/
theorem lw_Zk {s V : State} {A : Nat → Prop} {args a : Array Value} {C n d : String} (hW : s.WarmedH V.vm) (hk : ∀ q : Nat, q < s.heap.size → ¬ A q → V.heap[q]? = s.heap[q]?) (hA : ∀ q : Nat, q < s.heap.size → ¬ A q) (hl : (Cond.laysStatic C n d).before args s = true) : (Cond.laysStatic C n d).before a V = true := by
  obtain ⟨c, k, i, f, ad, cell, hc, hi, hst, ha, hcell, hs, hcls, hlt, hty⟩ := Cond.laysStatic_spec hl
  obtain ⟨k', hi', hek⟩ := State.fieldFound?_setVm hW.alike hi
  have h9 := (Array.getElem?_eq_some_iff.mp hcell).1
  exact Cond.laysStatic_of (s := V) (by rw [hW.alike.findClass]; exact hc) hi' hst (by rw [hek]; exact ha) (by rw [hk ad h9 (hA ad h9)]; exact hcell) hs hcls hlt (by rw [hek]; exact hty)
theorem lw_Zr {s V : State} {A : Nat → Prop} {args a : Array Value} {C n d : String} (hW : s.WarmedH V.vm) (hk : ∀ q : Nat, q < s.heap.size → ¬ A q → V.heap[q]? = s.heap[q]?) (hA : ∀ q : Nat, q < s.heap.size → ¬ A q) (hl : (Cond.laysStatic C n d).before args s = true) (h : (Cond.isRef (.static C n d)).before args s = true) : (Cond.isRef (.static C n d)).before a V = true := by
  obtain ⟨c, k, i, f, ad, cell, hc, hi, hst, ha, hcell, hs, hcls, hlt, hty⟩ := Cond.laysStatic_spec hl
  obtain ⟨k', hi', hek⟩ := State.fieldFound?_setVm hW.alike hi
  have h9 := (Array.getElem?_eq_some_iff.mp hcell).1
  cases hv : (Term.static C n d).eval args s none [] s with
  | none => simp [Cond.before, Cond.holds, Cond.value, hv] at h
  | some v =>
    obtain ⟨-, ad', cell', ha', hcell', -, hslot⟩ := Term.static_spec hi hv
    cases ha.symm.trans ha'
    cases hcell.symm.trans hcell'
    have h8 : (Term.static C n d).eval a V none [] V = some v := Term.static_eval (s := V) hi' hst (by rw [hek]; exact ha) (by rw [hk ad h9 (hA ad h9)]; exact hcell) hs hslot
    simp only [Cond.before, Cond.holds, Cond.value, hv] at h
    simp only [Cond.before, Cond.holds, Cond.value, h8]
    exact h
theorem lw_HW {s : State} {A : Nat → Prop} {args : Array Value} (h1 : (Cond.isRef (.static Bundle.tN "UNASSIGNED_STACK" Bundle.steD)).before args s = true) (h2 : (Cond.isRef (.static Bundle.tN "SUPPRESSED_SENTINEL" Bundle.listD)).before args s = true) (h3 : (Cond.laysStatic Bundle.tN "UNASSIGNED_STACK" Bundle.steD).before args s = true) (h4 : (Cond.laysStatic Bundle.tN "SUPPRESSED_SENTINEL" Bundle.listD).before args s = true) (hA : ∀ q : Nat, q < s.heap.size → ¬ A q) : fx_HW A s s.heap := by
  intro V hW hk w hw a
  simp only [fx_hws, List.mem_cons, List.not_mem_nil, or_false] at hw
  rcases hw with rfl | rfl | rfl | rfl
  · exact lw_Zr hW hk hA h3 h1
  · exact lw_Zr hW hk hA h4 h2
  · exact lw_Zk hW hk hA h3
  · exact lw_Zk hW hk hA h4
theorem lw_arr {s : State} {args : Array Value} {ty : FieldType} (hp : ∀ (U : State) (cA : ClassId), U.vm.findClass ("[" ++ ty.toString) = some cA → va_RA U cA ty) (h : (Cond.arrayClass ty).before args s = true) : ∃ cA : ClassId, ArrOfT s cA ty ∧ va_RA s cA ty := by
  obtain ⟨cA, kA, comp, h1, h2, h3⟩ := Cond.arrayClass_spec h
  exact ⟨cA, fun n z => ⟨fun k h => (by cases h), kA, h2, comp, h3⟩, hp _ _ h1⟩
theorem lx_swap {D : va_G} {cl : List vw_C} {A : Nat → Prop} {H0 H : Heap} {locs : List Loc} {a b c : va_W} (hw : cx_B D cl A H0 (a ++ (b ++ c)) H locs) : cx_B D cl A H0 (a ++ (c ++ b)) H locs := by
  have key : ∀ (i : Nat) (x : Nat × va_E), (a ++ (c ++ b))[i]? = some x → ∃ j, (a ++ (b ++ c))[j]? = some x ∧ ((i < a.length ∧ j = i) ∨ (a.length ≤ i ∧ i < a.length + c.length ∧ j = i + b.length) ∨ (a.length + c.length ≤ i ∧ i < a.length + c.length + b.length ∧ j = i - c.length)) := by
    intro i x h
    have hl := (List.getElem?_eq_some_iff.mp h).1
    simp only [List.length_append] at hl
    by_cases h1 : i < a.length
    · refine ⟨i, ?_, Or.inl ⟨h1, rfl⟩⟩
      rw [List.getElem?_append_left h1] at h ⊢
      exact h
    · rw [List.getElem?_append_right (by omega)] at h
      by_cases h2 : i < a.length + c.length
      · refine ⟨i + b.length, ?_, Or.inr (Or.inl ⟨by omega, h2, rfl⟩)⟩
        rw [List.getElem?_append_left (by omega)] at h
        rw [List.getElem?_append_right (by omega), List.getElem?_append_right (by omega), ← h]
        congr 1
        omega
      · refine ⟨i - c.length, ?_, Or.inr (Or.inr ⟨by omega, by omega, rfl⟩)⟩
        rw [List.getElem?_append_right (by omega)] at h
        rw [List.getElem?_append_right (by omega), List.getElem?_append_left (by omega), ← h]
        congr 1
        omega
  refine ⟨fun k q h => ?_, ⟨fun i j x y hi hj hxy => ?_, fun k q h => ?_⟩, hw.2.2⟩
  · obtain ⟨j, hj, -⟩ := key k q h
    exact hw.1 j q hj
  · obtain ⟨i', hi', e1⟩ := key i x hi
    obtain ⟨j', hj', e2⟩ := key j y hj
    have := hw.2.1.1 i' j' x y hi' hj' hxy
    omega
  · obtain ⟨j, hj, -⟩ := key k q h
    exact hw.2.1.2 j q hj
theorem lw_good {s : State} {args : Array Value} (hts : ∀ w ∈ lw_tbl, w.before args s = true) : ∀ w ∈ fx_g, w.before args s = true := fun w h => hts w (List.mem_filter.mp h).1
theorem lw_tb {s : State} {args : Array Value} (hts : ∀ w ∈ lw_tbl, w.before args s = true) {w : Cond} (i : Nat) (h : tables_1[i]? = some w) : w.before args s = true := hts w (List.mem_append_right _ (List.mem_of_getElem? h))
theorem lw_str {s : State} {args : Array Value} {own tx : String} {k : Nat} (h1 : (Cond.stringRef own k tx).before args s = true) (h2 : (Cond.exactly (.string own k) "java/lang/String").before args s = true) : ∃ sa, vk_R own k tx sa s := by
  obtain ⟨a, c, cell, k', h, -⟩ := Cond.exactly_spec h2
  exact ⟨a, vk_R.of h1 h⟩
theorem lw_known {s : State} {args : Array Value} (hts : ∀ w ∈ lw_tbl, w.before args s = true) : ∃ (D : va_G) (cA : Nat → ClassId), va_K D fx_cl (fx_tys cA) s := by
  obtain ⟨c0, i0, k0⟩ := u_known (C := "FixityTrees") (T := T_FixityTrees) (N := 11) (n := 11) (lw_good hts) in_FixityTrees (lw_tb hts 18 (by decide +kernel))
  obtain ⟨c1, i1, k1⟩ := u_known (C := "FixityTrees$Scopes") (T := T_Scopes) (N := 3) (n := 3) (lw_good hts) in_Scopes (lw_tb hts 26 (by decide +kernel))
  obtain ⟨c2, i2, k2⟩ := u_known (C := "FixityTrees$Fixities") (T := T_Fixities) (N := 2) (n := 2) (lw_good hts) in_Fixities (lw_tb hts 43 (by decide +kernel))
  obtain ⟨c3, i3, k3⟩ := u_known (C := "FixityTrees$Row") (T := T_Row) (N := 8) (n := 8) (lw_good hts) in_Row (lw_tb hts 56 (by decide +kernel))
  obtain ⟨c4, i4, k4⟩ := u_known (C := "FixityTrees$Resolver") (T := T_Resolver) (N := 14) (n := 14) (lw_good hts) in_Resolver (lw_tb hts 89 (by decide +kernel))
  obtain ⟨c5, i5, k5⟩ := u_known (C := "FixityTrees$IntStack") (T := T_IntStack) (N := 2) (n := 2) (lw_good hts) in_IntStack (lw_tb hts 95 (by decide +kernel))
  obtain ⟨c6, i6, k6⟩ := u_known (C := "FixityTrees$Tree") (T := T_Tree) (N := 8) (n := 8) (lw_good hts) in_Tree (lw_tb hts 151 (by decide +kernel))
  obtain ⟨c7, i7, k7⟩ := u_known (C := "FixityTrees$Written") (T := T_Written) (N := 11) (n := 11) (lw_good hts) in_Written (lw_tb hts 182 (by decide +kernel))
  obtain ⟨c8, i8, k8⟩ := u_known (C := "FixityTreesModel") (T := T_Md) (N := 48) (n := 48) (lw_good hts) in_Md (lw_tb hts 928 (by decide +kernel))
  obtain ⟨a0, ha0⟩ := lw_arr (ty := .int) (fun _ _ h9 => h9) (lw_tb hts 41 (by decide +kernel))
  obtain ⟨a1, ha1⟩ := lw_arr (ty := .long) (fun _ _ h9 => h9) (lw_tb hts 86 (by decide +kernel))
  obtain ⟨a2, ha2⟩ := lw_arr (ty := .boolean) (fun _ _ h9 => h9) (lw_tb hts 87 (by decide +kernel))
  refine ⟨(fun k => match k with | 0 => c0 | 1 => c1 | 2 => c2 | 3 => c3 | 4 => c4 | 5 => c5 | 6 => c6 | 7 => c7 | _ => c8, fun k => match k with | 0 => i0 | 1 => i1 | 2 => i2 | 3 => i3 | 4 => i4 | 5 => i5 | 6 => i6 | 7 => i7 | _ => i8), fun k => match k with | 0 => a0 | 1 => a1 | _ => a2, ?_, ?_⟩
  · intro k q hq
    match k, hq with
    | 0, hq => cases hq; exact k0
    | 1, hq => cases hq; exact k1
    | 2, hq => cases hq; exact k2
    | 3, hq => cases hq; exact k3
    | 4, hq => cases hq; exact k4
    | 5, hq => cases hq; exact k5
    | 6, hq => cases hq; exact k6
    | 7, hq => cases hq; exact k7
    | 8, hq => cases hq; exact k8
    | k + 9, hq => simp [fx_cl] at hq
  · intro k q hq
    match k, hq with
    | 0, hq => cases hq; exact ha0
    | 1, hq => cases hq; exact ha1
    | 2, hq => cases hq; exact ha2
    | k + 3, hq => simp [fx_tys] at hq
set_option maxRecDepth 100000 in
theorem lw_G0 {s : State} {b : Nat} (hts : ∀ w ∈ lw_tbl, w.before #[Value.ref b] s = true) (hgv : (Jvm.Cond.and given_1 narrow_1).before #[Value.ref b] s = true) : lw_G s := by
  have hf := flat_of_before _ hgv
  refine ⟨⟨va_Nw.of rfl (lw_tb hts 44 (by decide +kernel)), va_Nw.of rfl (lw_tb hts 57 (by decide +kernel)), va_Nw.of rfl (lw_tb hts 96 (by decide +kernel)), va_Nw.of rfl (lw_tb hts 152 (by decide +kernel)), va_Nw.of rfl (lw_tb hts 399 (by decide +kernel)), va_Nw.of rfl (lw_tb hts 638 (by decide +kernel)), va_Nw.of rfl (lw_tb hts 282 (by decide +kernel)), va_Nw.of rfl (lw_tb hts 354 (by decide +kernel)), va_Nw.of rfl (lw_tb hts 403 (by decide +kernel)), va_Nw.of rfl (lw_tb hts 284 (by decide +kernel)), va_Nw.of rfl (lw_tb hts 286 (by decide +kernel)), va_Nw.of rfl (lw_tb hts 288 (by decide +kernel)), ?_⟩, va_Nc.of (hf _ (by decide +kernel)), va_Nc.of (hf _ (by decide +kernel)), va_Nc.of (hf _ (by decide +kernel))⟩
  intro q hq
  simp only [fx_strs, List.mem_cons, List.not_mem_nil, or_false] at hq
  rcases hq with rfl | rfl | rfl | rfl | rfl | rfl | rfl | rfl | rfl | rfl | rfl | rfl | rfl | rfl | rfl | rfl | rfl | rfl | rfl | rfl | rfl
  · exact lw_str (lw_tb hts 321 (by decide +kernel)) (hf _ (by decide +kernel))
  · exact lw_str (lw_tb hts 361 (by decide +kernel)) (hf _ (by decide +kernel))
  · exact lw_str (lw_tb hts 388 (by decide +kernel)) (hf _ (by decide +kernel))
  · exact lw_str (lw_tb hts 389 (by decide +kernel)) (hf _ (by decide +kernel))
  · exact lw_str (lw_tb hts 400 (by decide +kernel)) (hf _ (by decide +kernel))
  · exact lw_str (lw_tb hts 410 (by decide +kernel)) (hf _ (by decide +kernel))
  · exact lw_str (lw_tb hts 417 (by decide +kernel)) (hf _ (by decide +kernel))
  · exact lw_str (lw_tb hts 442 (by decide +kernel)) (hf _ (by decide +kernel))
  · exact lw_str (lw_tb hts 474 (by decide +kernel)) (hf _ (by decide +kernel))
  · exact lw_str (lw_tb hts 510 (by decide +kernel)) (hf _ (by decide +kernel))
  · exact lw_str (lw_tb hts 522 (by decide +kernel)) (hf _ (by decide +kernel))
  · exact lw_str (lw_tb hts 538 (by decide +kernel)) (hf _ (by decide +kernel))
  · exact lw_str (lw_tb hts 555 (by decide +kernel)) (hf _ (by decide +kernel))
  · exact lw_str (lw_tb hts 743 (by decide +kernel)) (hf _ (by decide +kernel))
  · exact lw_str (lw_tb hts 764 (by decide +kernel)) (hf _ (by decide +kernel))
  · exact lw_str (lw_tb hts 772 (by decide +kernel)) (hf _ (by decide +kernel))
  · exact lw_str (lw_tb hts 788 (by decide +kernel)) (hf _ (by decide +kernel))
  · exact lw_str (lw_tb hts 869 (by decide +kernel)) (hf _ (by decide +kernel))
  · exact lw_str (lw_tb hts 886 (by decide +kernel)) (hf _ (by decide +kernel))
  · exact lw_str (lw_tb hts 891 (by decide +kernel)) (hf _ (by decide +kernel))
  · exact lw_str (lw_tb hts 926 (by decide +kernel)) (hf _ (by decide +kernel))
/-- the state of a new FixityTrees -/
def fx_0 : fx_S := (fun r => if r = 7 then (-1) else if r = 8 then (-1) else if r = 9 then (-1) else if r = 18 then 1 else 0, fun a => if a = 2 then (upd (fun _ => 0) ((0 : Int32).toNatClampNeg) (-1)) else (fun _ => 0), fun _ _ => 0)
set_option maxHeartbeats 8000000 in
set_option maxRecDepth 100000 in
theorem fx_start0 {p : Program} {e : Env} {s : State} {m : MethodId} {below : List Frame} {meth : Method} {c : Code} (l : Launch) (hlt : l.stackTraces = false) {Rel : fx_S → fx_S → Prop} {τ : fx_S} (hT : F_Md_tellNothing 0 md_0 = some ((), τ)) (hR0 : Rel fx_0 τ) (OK : lw_OK Rel) {b L : Nat} {xs : Nat → Int32} (hL : L ≤ 2560) (C0 : lw_At p s m meth c b L xs) : W p l e room_1 s m #[Value.ref b] below meth c s.heap [] 0 0 (lw_Z below #[Value.ref b] s) (entryFrame m ([Value.ref b] : List Value).toArray 8) := by
  obtain ⟨hx, hb, hr, hml, hown, hts, hX, hbl, hlocks, hgv⟩ := id C0
  obtain ⟨D, cA, hK⟩ := lw_known hts
  have hG := lw_G0 hts hgv
  have hf := flat_of_before _ hgv
  have hbA : ¬ (fun q : Nat => s.heap.size ≤ q) b := Nat.not_le.mpr hbl
  have hHW : fx_HW (fun q : Nat => s.heap.size ≤ q) s s.heap := lw_HW (hf _ (by decide +kernel)) (hf _ (by decide +kernel)) (lw_tb hts 307 (by decide +kernel)) (lw_tb hts 309 (by decide +kernel)) (fun q h1 h2 => Nat.not_le.mpr h1 h2)
  have X : fx_X p m c code 8 s #[Value.ref b] "FixityTreesLaw" D fx_cl (fx_tys cA) fx_g lw_G (fun q : Nat => s.heap.size ≤ q) := ⟨⟨hx, hb, hml, hown, lw_good hts⟩, hK, fun _ h => h, lw_G_ok, hG⟩
  have Xc : fx_X p m c code 8 s #[Value.ref b] "FixityTreesLaw" D fx_cl (fx_tys cA) fx_g fx_G (fun q : Nat => s.heap.size ≤ q) := ⟨X.1, X.2.1, X.2.2.1, fx_G_ok, hG.1⟩
  have hw : cx_B D fx_cl (fun q : Nat => s.heap.size ≤ q) s.heap ([] ++ []) s.heap [] := ⟨fun k q h => by simp at h, ⟨fun i j p q h => by simp at h, fun k q h => by simp at h⟩, va_S.rf⟩
  have hl := lv_entry ([.ref b]) (n := 8) (Nat.le_of_ble_eq_true rfl)
  rw [lg_entry_eq]
  generalize (lg_sl ([.ref b]) ++ List.replicate (8 - (lg_sl ([.ref b])).length) Slot.unset).toArray = ls at hl ⊢
  have hl : lv_has ls 8 [(0, .ref b)] := hl
  refine cx_new (ci := 0) (fs := [.null, .null, .null, .null, .null, .null, .null, .int 0, .int 0, .int 0, .int 0]) Xc hw (fx_in 17 (by decide +kernel) (by decide +kernel)) in_FixityTrees (fx_in 18 (by decide +kernel) (by decide +kernel)) (fx_in 1 (by decide +kernel) (by decide +kernel)) t_FixityTrees t_FixityTrees_ok rfl (by decide +kernel) (Nat.le_of_ble_eq_true rfl) (Nat.le_of_ble_eq_true rfl) dl_0 (fun q1 H hw => ?_)
  refine lv_dup hx hb dl_3 rfl ?_
  refine cx_call (n := 0) (rm := { frames := 3, cells := 47, slots := 9244, locals := 62 }) (cs := []) Xc hw (cc_FixityTrees l D cA q1) lq_71 hc_FixityTrees_init.1 hc_FixityTrees_init.2.1 hc_FixityTrees_init.2.2 fx_gok rfl (by decide +kernel) ⟨Nat.le_of_ble_eq_true rfl, Nat.le_of_ble_eq_true rfl⟩ (As := []) rfl dl_4 hl.1 rfl (lv_room (Nat.le_of_ble_eq_true rfl)) ⟨Nat.le_of_ble_eq_true rfl, Nat.le_of_ble_eq_true rfl⟩ (fun u1 H locs hw => ?_)
  obtain ⟨h, hh⟩ : ∃ h : Nat → Nat, h = fun k => if k = 0 then q1 else u1 k := ⟨_, rfl⟩
  have hw : cx_B D fx_cl (fun q : Nat => s.heap.size ≤ q) s.heap ([] ++ fx_ws h cA fx_0) H locs := by rw [hh]; exact hw
  refine lv_astore_n (lv' := [(1, .ref (h 0)), (0, .ref b)]) hx hb dl_7 rfl hl (by decide) (by rw [hh]; rfl) (fun ls hl => ?_)
  refine cx_new (ci := 8) (fs := [.int 0, .int 0, .null, .null, .null, .int 0, .int 0, .null, .null, .null, .int 0, .null, .int 0, .int 0, .null, .null, .null, .null, .null, .null, .null, .int 0, .int 0, .int 0, .int 0, .int 0, .null, .null, .null, .null, .int 0, .int 0, .int 0, .int 0, .null, .null, .null, .null, .int 0, .int 0, .int 0, .null, .null, .null, .null, .null, .null, .int 0]) Xc hw (fx_in 927 (by decide +kernel) (by decide +kernel)) in_Md (fx_in 928 (by decide +kernel) (by decide +kernel)) (fx_in 9 (by decide +kernel) (by decide +kernel)) t_Md t_Md_ok rfl (by decide +kernel) (Nat.le_of_ble_eq_true rfl) (Nat.le_of_ble_eq_true rfl) dl_8 (fun q2 H hw => ?_)
  refine lv_dup hx hb dl_11 rfl ?_
  refine cx_call (n := 0) (rm := { frames := 1, cells := 28, slots := 13170, locals := 22 }) (cs := fx_ws h cA fx_0) Xc hw (cc_Md l D cA q2 hT) lq_74 hc_Md_init.1 hc_Md_init.2.1 hc_Md_init.2.2 fx_gok rfl (by decide +kernel) ⟨Nat.le_of_ble_eq_true rfl, Nat.le_of_ble_eq_true rfl⟩ (As := []) rfl dl_12 hl.1 rfl (lv_room (Nat.le_of_ble_eq_true rfl)) ⟨Nat.le_of_ble_eq_true rfl, Nat.le_of_ble_eq_true rfl⟩ (fun u2 H locs hw => ?_)
  obtain ⟨h2, hh2⟩ : ∃ h2 : Nat → Nat, h2 = fun k => if k = 0 then q2 else u2 k := ⟨_, rfl⟩
  have hw : cx_B D fx_cl (fun q : Nat => s.heap.size ≤ q) s.heap ([] ++ (fx_ws h cA fx_0 ++ rf_ws h2 cA τ)) H locs := by rw [hh2]; exact hw
  refine lv_astore_n (lv' := [(2, .ref (h2 0)), (1, .ref (h 0)), (0, .ref b)]) hx hb dl_15 rfl hl (by decide) (by rw [hh2]; rfl) (fun ls hl => ?_)
  refine lv_iconst (v := 1) hx hb dl_16 (by decide) ?_
  refine cx_newA (a0 := (1, .inr (.inl (fun _ => 0)))) (N := 1) Xc hw (atype := .long) rfl (fun _ _ h9 => h9) (fx_in 86 (by decide +kernel) (by decide +kernel)) 1 rfl rfl (by decide) (by decide) (by decide) (Nat.le_of_ble_eq_true rfl) (Nat.le_of_ble_eq_true rfl) dl_17 (fun ho H hw => ?_)
  have hw : cx_B D fx_cl (fun q : Nat => s.heap.size ≤ q) s.heap (fx_ws h cA fx_0 ++ (rf_ws h2 cA τ ++ [(ho, .inl (cA 1, 1, .inr (.inl (fun _ => 0))))])) H locs := by
    have h9 := hw
    rw [List.nil_append, List.append_assoc] at h9
    exact h9
  have hw : cx_B D fx_cl (fun q : Nat => s.heap.size ≤ q) s.heap ([] ++ (lw_w h cA ho fx_0 (fun _ => 0) ++ (rf_ws h2 cA τ ++ []))) H locs := by
    have h9 := lx_swap hw
    rw [← List.append_assoc] at h9
    rw [List.append_nil]
    exact h9
  refine lv_astore_n (lv' := [(3, .ref ho), (2, .ref (h2 0)), (1, .ref (h 0)), (0, .ref b)]) hx hb dl_19 rfl hl (by decide) rfl (fun ls hl => ?_)
  refine lv_iconst (v := 0) hx hb dl_20 (by decide) ?_
  refine lv_istore (lv' := [(4, .int 0), (3, .ref ho), (2, .ref (h2 0)), (1, .ref (h 0)), (0, .ref b)]) hx hb dl_21 hl (by decide) rfl (fun ls hl => ?_)
  exact law_loop ⟨X, hHW, hX, hbl, hbA, hlt, hL⟩ hr hlocks OK (L + 1) 0 (Nat.zero_le _) (by omega) fx_0 τ (fun _ => 0) H locs ls _ _ hR0 (Nat.le_of_ble_eq_true rfl) (Nat.le_of_ble_eq_true rfl) hw (lv_sub hl [4, 3, 2, 1, 0] rfl)
