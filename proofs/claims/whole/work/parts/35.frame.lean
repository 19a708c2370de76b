/-! A PART OF A WORLD: what is called on it leaves the rest as it was -/
theorem lx_in {α : Type} {w1 w2 w3 : List α} {k : Nat} {x : α} (h : w2[k]? = some x) : (w1 ++ (w2 ++ w3))[w1.length + k]? = some x := by
  have hk : k < w2.length := (List.getElem?_eq_some_iff.mp h).1
  rw [List.getElem?_append_right (by omega), List.getElem?_append_left (by omega)]
  rw [← h]
  congr 1
  omega
theorem lx_split {D : va_G} {cl : List vw_C} {A : Nat → Prop} {H0 H : Heap} {locs : List Loc} {w1 w2 w3 : va_W} (hw : cx_B D cl A H0 (w1 ++ (w2 ++ w3)) H locs) : va_P D cl w2 H ∧ va_D A w2 := by
  refine ⟨fun k q hk => hw.1 _ q (lx_in hk), fun i j x y hi hj hxy => ?_, fun k q hk => hw.2.1.2 _ q (lx_in hk)⟩
  have := hw.2.1.1 _ _ x y (lx_in (w1 := w1) (w3 := w3) hi) (lx_in (w1 := w1) (w3 := w3) hj) hxy
  omega
theorem lx_free {D : va_G} {cl : List vw_C} {A : Nat → Prop} {H0 H : Heap} {locs : List Loc} {w1 w2 w3 : va_W} (hw : cx_B D cl A H0 (w1 ++ (w2 ++ w3)) H locs) (hA : ∀ q : Nat, H0.size ≤ q → A q) : ∀ q, va_A w2 H.size q → A q := by
  intro q h
  rcases h with ⟨k, e, h⟩ | h
  · exact hw.2.1.2 _ (q, e) (lx_in h)
  · exact hA q (Nat.le_trans hw.2.2.1 h)
theorem lx_join {D : va_G} {cl : List vw_C} {A : Nat → Prop} {H0 H H1 : Heap} {locs locs1 : List Loc} {w1 w2 w2' w3 : va_W} (hw : cx_B D cl A H0 (w1 ++ (w2 ++ w3)) H locs) (hA : ∀ q : Nat, H0.size ≤ q → A q) (hk : ∀ q : Nat, q < H.size → ¬ va_A w2 H.size q → H1[q]? = H[q]?) (hP1 : va_P D cl w2' H1) (hD1 : va_D (va_A w2 H.size) w2') (hS : va_S A H0 H1 locs1) : cx_B D cl A H0 (w1 ++ (w2' ++ w3)) H1 locs1 := by
  have apart : ∀ (i : Nat) (x : Nat × va_E), (w1 ++ (w2 ++ w3))[i]? = some x → (i < w1.length ∨ w1.length + w2.length ≤ i) → ¬ va_A w2 H.size x.1 := by
    intro i x hx hi h
    have hl := (hw.1 i x hx).lt
    rcases h with ⟨k, e, h⟩ | h
    · have h2 := lx_in (w1 := w1) (w3 := w3) h
      have hk2 : k < w2.length := (List.getElem?_eq_some_iff.mp h).1
      have := hw.2.1.1 _ _ x (x.1, e) hx h2 rfl
      omega
    · omega
  have e1 : ∀ (k : Nat) (x : Nat × va_E), w1[k]? = some x → (w1 ++ (w2 ++ w3))[k]? = some x ∧ k < w1.length := fun k x h => by
    have hk1 : k < w1.length := (List.getElem?_eq_some_iff.mp h).1
    exact ⟨by rw [List.getElem?_append_left hk1]; exact h, hk1⟩
  have e3 : ∀ (k : Nat) (x : Nat × va_E), w3[k]? = some x → (w1 ++ (w2 ++ w3))[w1.length + w2.length + k]? = some x := fun k x h => by
    rw [List.getElem?_append_right (by omega), List.getElem?_append_right (by omega), ← h]
    congr 1
    omega
  have p1 : va_P D cl w1 H1 := fun k x h => by
    obtain ⟨g1, g2⟩ := e1 k x h
    exact (hw.1 k x g1).kept (hk x.1 ((hw.1 k x g1).lt) (apart k x g1 (Or.inl g2)))
  have p3 : va_P D cl w3 H1 := fun k x h => by
    have g1 := e3 k x h
    exact (hw.1 _ x g1).kept (hk x.1 ((hw.1 _ x g1).lt) (apart _ x g1 (Or.inr (by omega))))
  have hfr := lx_free hw hA
  have d1 : va_D A w1 := ⟨fun i j x y hi hj hxy => hw.2.1.1 i j x y (e1 i x hi).1 (e1 j y hj).1 hxy, fun k x h => hw.2.1.2 k x (e1 k x h).1⟩
  have d3 : va_D A w3 := ⟨fun i j x y hi hj hxy => by
    have := hw.2.1.1 _ _ x y (e3 i x hi) (e3 j y hj) hxy
    omega, fun k x h => hw.2.1.2 _ x (e3 k x h)⟩
  have d2 : va_D A w2' := hD1.weaken (fun _ x _ h => hfr x.1 h)
  refine ⟨p1.app (hP1.app p3), va_D.app d1 (va_D.app d2 d3 (fun i j x y hx hy hxy => ?_)) (fun i j x y hx hy hxy => ?_), hS⟩
  · have g1 := e3 j y hy
    exact apart _ y g1 (Or.inr (by omega)) (hxy ▸ hD1.2 i x hx)
  · obtain ⟨g1, g2⟩ := e1 i x hx
    by_cases hj : j < w2'.length
    · rw [List.getElem?_append_left hj] at hy
      exact apart i x g1 (Or.inl g2) (hxy ▸ hD1.2 j y hy)
    · rw [List.getElem?_append_right (by omega)] at hy
      have g3 := e3 _ y hy
      have := hw.2.1.1 _ _ x y g1 g3 hxy
      omega
section LX
variable {p : Program} {l : Launch} {e : Env} {R : Room} {s : State} {m : MethodId} {args : Array Value} {below : List Frame} {meth : Method} {c : Code} {H : Heap} {locs : List Loc} {cells slots : Nat} {Q : State → Prop}
variable {cc : ByteArray} {pc nL : Nat} {ls : Array Slot} {rest : List Value} {own : String} {D : va_G} {cl : List vw_C} {tys : List (ClassId × FieldType)} {gw : List Cond} {G : State → Prop} {A : Nat → Prop} {w1 w3 : va_W} {wf : fx_S → va_W} {σ : fx_S}
theorem lx_pre {av : List Value} (X : fx_X p m c cc nL s args own D cl tys gw G A) (hw : cx_B D cl A s.heap (w1 ++ (wf σ ++ w3)) H locs) : ∀ U : State, U.heap = H → s.WarmedH U.vm → fx_Pre D cl tys G wf av H.size σ av.toArray U :=
  fun U hU hW => ⟨rfl, by rw [hU], by rw [hU]; exact (lx_split hw).1, va_K.moved hW.alike X.2.1, (lx_split hw).2.weaken (fun _ _ _ _ => trivial), X.2.2.2.1 s U hW X.2.2.2.2⟩
theorem lx_call_v {y : MethodName} {bytes : ByteArray} {maxL : Nat} {ret : Option FieldType} {rm : Room} {F : fx_M Unit} {b : Addr} {As : List Value} {n ix : Nat} {C : String} {st : List Value} {σ' : fx_S}
    (X : fx_X p m c cc nL s args own D cl tys gw G A) (hw : cx_B D cl A s.heap (w1 ++ (wf σ ++ w3)) H locs) (hM : fx_Mv l y bytes maxL ret rm D cl tys gw G wf (.ref b :: As) F) (hF : F σ = some ((), σ')) (cw : CallW R s args own C ix y bytes maxL ret (Cond.code y bytes maxL ret :: gw) rm 0 0 n)
    (hrecv : ∃ cellB : Cell, H[b]? = some cellB ∧ cellB.vm.isStatics = false ∧ s.vm.findClass C = some cellB.cls) (hn : As.length = n) (hdg : decode cc pc = .ok (.invokevirtual ix, 3)) (hsize : ls.size = nL) (hst : st = As.reverse ++ .ref b :: rest) (hW : 2 * (F0 m pc ls st).monitorRoom + (rest.map fun v => v.category).sum ≤ 8) (hf : cells ≤ R.cells ∧ slots ≤ R.slots)
    (kk : ∀ (H' : Heap) (locs' : List Loc), cx_B D cl A s.heap (w1 ++ (wf σ' ++ w3)) H' locs' → W p l e R s m args below meth c H' locs' cells slots Q (F0 m (pc + 3) ls rest)) :
    W p l e R s m args below meth c H locs cells slots Q (F0 m pc ls st) := by
  have hfr := lx_free hw X.2.2.1
  refine va_callv (va_runV (As := As) (rest := rest) X.1 (hM H.size σ ((), σ') hF) cw ⟨fx_blind X.2.2.2.1, hrecv, lx_pre X hw⟩ rfl hn hsize hst hW hdg hf) hw.2.2 (fun q _ h => hfr q h) hfr (fun u t H1 locs1 ht hvm hp hB _ hk1 hS => ?_)
  cases hp
  subst ht
  exact kk _ locs1 (lx_join hw X.2.2.1 hk1 hB.1 hB.2.2 hS)
theorem lx_call_i {y : MethodName} {bytes : ByteArray} {maxL : Nat} {ret : Option FieldType} {rm : Room} {F : fx_M Int32} {b : Addr} {As : List Value} {n ix : Nat} {C : String} {st : List Value} {r : Int32} {σ' : fx_S}
    (X : fx_X p m c cc nL s args own D cl tys gw G A) (hw : cx_B D cl A s.heap (w1 ++ (wf σ ++ w3)) H locs) (hM : fx_Mi l y bytes maxL ret rm D cl tys gw G wf (.ref b :: As) F) (hF : F σ = some (r, σ')) (cw : CallW R s args own C ix y bytes maxL ret (Cond.code y bytes maxL ret :: gw) rm 0 0 n)
    (hrecv : ∃ cellB : Cell, H[b]? = some cellB ∧ cellB.vm.isStatics = false ∧ s.vm.findClass C = some cellB.cls) (hn : As.length = n) (hdg : decode cc pc = .ok (.invokevirtual ix, 3)) (hsize : ls.size = nL) (hst : st = As.reverse ++ .ref b :: rest) (hW : 2 * (F0 m pc ls st).monitorRoom + (rest.map fun v => v.category).sum ≤ 8) (hf : cells ≤ R.cells ∧ slots ≤ R.slots)
    (kk : ∀ (H' : Heap) (locs' : List Loc), cx_B D cl A s.heap (w1 ++ (wf σ' ++ w3)) H' locs' → W p l e R s m args below meth c H' locs' cells slots Q (F0 m (pc + 3) ls (.int r :: rest))) :
    W p l e R s m args below meth c H locs cells slots Q (F0 m pc ls st) := by
  have hfr := lx_free hw X.2.2.1
  refine va_calli (va_runV (As := As) (rest := rest) X.1 (hM H.size σ (r, σ') hF) cw ⟨fx_blind X.2.2.2.1, hrecv, lx_pre X hw⟩ rfl hn hsize hst hW hdg hf) hw.2.2 (fun q _ h => hfr q h) hfr (fun r u t H1 locs1 ht hvm hp hB _ hk1 hS => ?_)
  cases hp
  subst ht
  exact kk _ locs1 (lx_join hw X.2.2.1 hk1 hB.1 hB.2.2 hS)
theorem lx_call_l {y : MethodName} {bytes : ByteArray} {maxL : Nat} {ret : Option FieldType} {rm : Room} {F : fx_M Int64} {b : Addr} {As : List Value} {n ix : Nat} {C : String} {st : List Value} {r : Int64} {σ' : fx_S}
    (X : fx_X p m c cc nL s args own D cl tys gw G A) (hw : cx_B D cl A s.heap (w1 ++ (wf σ ++ w3)) H locs) (hM : fx_Ml l y bytes maxL ret rm D cl tys gw G wf (.ref b :: As) F) (hF : F σ = some (r, σ')) (cw : CallW R s args own C ix y bytes maxL ret (Cond.code y bytes maxL ret :: gw) rm 0 0 n)
    (hrecv : ∃ cellB : Cell, H[b]? = some cellB ∧ cellB.vm.isStatics = false ∧ s.vm.findClass C = some cellB.cls) (hn : As.length = n) (hdg : decode cc pc = .ok (.invokevirtual ix, 3)) (hsize : ls.size = nL) (hst : st = As.reverse ++ .ref b :: rest) (hW : 2 * (F0 m pc ls st).monitorRoom + (rest.map fun v => v.category).sum ≤ 8) (hf : cells ≤ R.cells ∧ slots ≤ R.slots)
    (kk : ∀ (H' : Heap) (locs' : List Loc), cx_B D cl A s.heap (w1 ++ (wf σ' ++ w3)) H' locs' → W p l e R s m args below meth c H' locs' cells slots Q (F0 m (pc + 3) ls (.long r :: rest))) :
    W p l e R s m args below meth c H locs cells slots Q (F0 m pc ls st) := by
  have hfr := lx_free hw X.2.2.1
  refine va_calll (va_runV (As := As) (rest := rest) X.1 (hM H.size σ (r, σ') hF) cw ⟨fx_blind X.2.2.2.1, hrecv, lx_pre X hw⟩ rfl hn hsize hst hW hdg hf) hw.2.2 (fun q _ h => hfr q h) hfr (fun r u t H1 locs1 ht hvm hp hB _ hk1 hS => ?_)
  cases hp
  subst ht
  exact kk _ locs1 (lx_join hw X.2.2.1 hk1 hB.1 hB.2.2 hS)
end LX
