/-! THE LAW'S HELPERS: static methods with an exception table round one call of the class -/
theorem lx_table {t : List ExceptionTableEntry} {hh : List (Nat × Nat × Nat × Nat)} (h : t.map (fun h => (h.startPc, h.endPc, h.handlerPc, h.catchType)) = hh) : t = hh.map (fun q => ({ startPc := q.1, endPc := q.2.1, handlerPc := q.2.2.1, catchType := q.2.2.2 } : ExceptionTableEntry)) := by
  subst h
  rw [List.map_map]
  exact (List.map_id' t).symm
/-- what the tables say beside: who is no one of whom -/
def lw_G (U : State) : Prop := fx_G U ∧ va_Nc (fx_ex 1) (fx_ex 0) U ∧ va_Nc (fx_ex 2) (fx_ex 0) U ∧ va_Nc (fx_ex 2) (fx_ex 1) U
theorem lw_G_ok : ∀ u U : State, u.WarmedH U.vm → lw_G u → lw_G U := fun u U hW h => ⟨fx_G_ok u U hW h.1, va_Nc.moved hW.alike h.2.1, va_Nc.moved hW.alike h.2.2.1, va_Nc.moved hW.alike h.2.2.2⟩
section LH
variable {p : Program} {l : Launch} {e : Env} {R : Room} {s : State} {m : MethodId} {args : Array Value} {below : List Frame} {meth : Method} {c : Code} {H : Heap} {locs : List Loc} {cells slots : Nat} {Q : State → Prop}
variable {cc : ByteArray} {pc nL : Nat} {ls : Array Slot} {rest : List Value} {own : String} {D : va_G} {cl : List vw_C} {tys : List (ClassId × FieldType)} {gw : List Cond} {G : State → Prop} {A : Nat → Prop} {w1 w3 : va_W} {wf : fx_S → va_W} {σ : fx_S} {α : Type}
theorem lx_catch (X : fx_X p m c cc nL s args own D cl tys gw G A) {E : String} {ce : Cell} {q : Addr} (pre : List ExceptionTableEntry) (x : ExceptionTableEntry) (suf : List ExceptionTableEntry) (hsplit : c.exceptionTable.toList = pre ++ x :: suf)
    (hpass : ∀ z ∈ pre, z.catchType ≠ 0 ∧ ∃ nm : String, Cond.classLink own z.catchType nm ∈ gw ∧ va_Nc E nm s) (hx : covers x pc = true) (h0 : x.catchType ≠ 0) (lk : Cond.classLink own x.catchType E ∈ gw) (hcast : va_Nw (.castable E E) s) (hce : H[q]? = some ce) (hcv : ce.vm = .none) (hcl : s.vm.findClass E = some ce.cls)
    (kk : W p l e R s m args below meth c H locs cells slots Q (F0 m x.handlerPc ls [.ref q])) : fx_V p l e R s m args below meth c H locs cells slots Q (F0 m pc ls rest) q := by
  intro T hT Y
  have hpl : e.platform.magicAccessors = ({} : Platform).magicAccessors := by rw [Y.admits.platform]
  obtain ⟨c3, c4, hc3, hc4, hasg⟩ := Cond.castable_spec (va_Nw.use (A := args) rfl hcast)
  cases Option.some.inj (hc3.symm.trans hcl)
  obtain ⟨c5, hc5, hl5⟩ := Cond.classLink_spec X.1.2.2.2.1 (X.1.2.2.2.2 _ lk) e.platform hpl
  cases Option.some.inj (hc4.symm.trans hc5)
  have hk0 : ∃ k, s.vm.classes[ce.cls]? = some k := by
    obtain ⟨k9, h9, -⟩ := Vm.findClass_spec hcl
    exact ⟨k9, h9⟩
  have hp : ∀ z ∈ pre, RowPassed e.platform s m.cls pc ce.cls z := fun z hz => by
    obtain ⟨hz0, nm, hl1, a8, b8, g1, g2, g3⟩ := hpass z hz
    obtain ⟨c6, hc6, hl6⟩ := Cond.classLink_spec X.1.2.2.2.1 (X.1.2.2.2.2 _ hl1) e.platform hpl
    cases Option.some.inj (g1.symm.trans hcl)
    cases Option.some.inj (g2.symm.trans hc6)
    exact Or.inr ⟨hz0, _, hl6, g3⟩
  obtain ⟨vm', Y', st⟩ := Y.thenCaughtThrough q (g := F0 m pc ls rest) rfl (Steps.refl _) (by rw [hT]; exact hce) (by rw [hcv]; rfl) hk0 pre x suf hsplit hp hx (Or.inr ⟨h0, c4, hl5, hasg⟩)
  obtain ⟨t, a1, b1⟩ := kk (T.setVm vm') hT Y'
  exact ⟨t, st.trans a1, b1⟩
theorem lx_prex {av : List Value} (X : fx_X p m c cc nL s args own D cl tys gw G A) (hHW : fx_HW A s s.heap) (hw : cx_B D cl A s.heap (w1 ++ (wf σ ++ w3)) H locs) : ∀ U : State, U.heap = H → s.WarmedH U.vm → fx_PreX D cl tys G wf av H.size σ av.toArray U :=
  fun U hU hW => ⟨rfl, by rw [hU], by rw [hU]; exact (lx_split hw).1, va_K.moved hW.alike X.2.1, (lx_split hw).2.weaken (fun _ _ _ _ => trivial), X.2.2.2.1 s U hW X.2.2.2.2, by
    rw [hU]
    exact fx_HW.moved hW ((hHW.kept hw.2.2.1 hw.2.2.2.1).narrow (lx_free hw X.2.2.1))⟩
theorem lx_callT {y : MethodName} {bytes : ByteArray} {maxL : Nat} {ret : Option FieldType} {rm : Room} {F : fx_M (α ⊕ Nat)} {b : Addr} {As : List Value} {n ix code : Nat} {C : String} {σ' : fx_S} {st : List Value}
    (X : fx_X p m c cc nL s args own D cl tys gw G A) (hHW : fx_HW A s s.heap) (hw : cx_B D cl A s.heap (w1 ++ (wf σ ++ w3)) H locs) (hM : fx_Tx l y bytes maxL ret rm D cl tys gw G wf (.ref b :: As) F) (hF : F σ = some (.inr code, σ')) (cw : CallW R s args own C ix y bytes maxL ret (Cond.code y bytes maxL ret :: gw) (fx_r1 rm) 1 6 n)
    (hrecv : ∃ cellB : Cell, H[b]? = some cellB ∧ cellB.vm.isStatics = false ∧ s.vm.findClass C = some cellB.cls) (hn : As.length = n) (hdg : decode cc pc = .ok (.invokevirtual ix, 3)) (hsize : ls.size = nL) (hst : st = As.reverse ++ .ref b :: rest) (hW : 2 * (F0 m pc ls st).monitorRoom + (rest.map fun v => v.category).sum ≤ 8) (hf : cells + 1 ≤ R.cells ∧ slots + 6 ≤ R.slots)
    (kx : ∀ (H1 : Heap) (locs1 : List Loc) (q9 : Addr) (ce : Cell), cx_B D cl A s.heap (w1 ++ (wf σ' ++ w3)) H1 locs1 → H1[q9]? = some ce → ce.vm = .none → s.vm.findClass (fx_ex code) = some ce.cls → fx_V p l e R s m args below meth c H1 locs1 (cells + 1) (slots + 6) Q (F0 m pc ls rest) q9) :
    W p l e R s m args below meth c H locs cells slots Q (F0 m pc ls st) := by
  obtain ⟨⟨hrc, hrs, hfr, hlo, hws, hcw, hcode, hini, hy, hlen, hl⟩, hin, hse⟩ := cw
  obtain ⟨cellB, hcB, hoB, hclB⟩ := hrecv
  intro T hT Y
  subst hT
  obtain ⟨mk, methM, hnamed, hmethM, hstM, habM⟩ := Cond.instanceMethod_spec hin
  obtain ⟨methM', cM, hmethM', -, -, -, -, -, -, hsigM⟩ := Cond.code_spec hnamed hcode
  cases hmethM.symm.trans hmethM'
  obtain ⟨c2, r2, m2, q1, q2, q3, q4, kP, hkP, hkPi⟩ := Cond.selects_spec hse
  cases hclB.symm.trans q1
  cases (State.methodFound?_of_named hnamed hy).symm.trans q2
  cases hnamed.symm.trans q3
  have hselP : selectMethod e.platform s.vm cellB.cls mk = .method mk := by rw [Launch.admits_selectMethod Y.admits]; exact q4
  obtain ⟨vm₁, Y₁, hstep₁⟩ := Y.invokevirtual X.1.1 X.1.2.2.2.1 hl hnamed hmethM hstM hkP hkPi hy (a := b) (cell := cellB) hcB
    (fun z h => by rw [h] at hoB; cases hoB) hselP hmethM habM hkP hkPi (g := F0 m pc ls st) rfl (argsL := As) (rest := rest) (hn.trans (hlen _ hsigM)) hst (by rw [X.1.2.1]; exact hdg)
  have hPre := lx_prex (av := .ref b :: As) X hHW hw (T.setVm vm₁) rfl Y₁.warmed
  have hini' : (Cond.initialized y.cls).before (Value.ref b :: As).toArray (T.setVm vm₁) = true := word_at Y₁.warmed (Or.inl (by first | rfl | simp [Cond.onTables, Cond.keeps, Cond.steady])) hini
  obtain ⟨q, t, U', L, e1, e2, hTO, hL, Y', hsteps⟩ := fx_thrownB (a := (Value.ref b :: As).toArray) (g := { F0 m pc ls st with stack := rest }) Y₁ (hM T.heap.size σ code σ' hF) rfl (hsize.trans X.1.2.2.1.symm) (ig := .invokevirtual ix) (len := 3) (by rw [X.1.2.1]; exact hdg) (Y₁.named hnamed) hfr hlo hf.1 hf.2 hW
    (fun w hw' => hws w hw' _ _ Y₁.warmed) (hws _ hcw _ _ Y₁.warmed) hini' (fx_blindx X.2.2.2.1 _ _ _ _ hPre)
  obtain ⟨q', ce, L', hq', hce, hcv, hcl, hW2, -, -, hat, hF2⟩ := hTO
  cases hq'
  have hfr9 := lx_free hw X.2.2.1
  have hz : T.heap.size ≤ t.heap.size := hF2.1
  have hkept : ∀ x : Nat, x < T.heap.size → ¬ va_A (wf σ) T.heap.size x → t.heap[x]? = T.heap[x]? := hF2.2
  have hS : va_S A s.heap U'.heap (locs ++ L) := by
    rw [e1]
    refine ⟨Nat.le_trans hw.2.2.1 hz, fun x h1 h2 => ?_, fun x hx => ?_⟩
    · rw [hkept x (Nat.lt_of_lt_of_le h1 hw.2.2.1) (fun z => h2 (hfr9 x z))]
      exact hw.2.2.2.1 x h1 h2
    · rcases List.mem_append.mp hx with h | h
      · exact hw.2.2.2.2 x h
      · exact hfr9 _ (hL x h)
  have hcl' : s.vm.findClass (fx_ex code) = some ce.cls := by
    have h9 : (T.setVm vm₁).vm.findClass (fx_ex code) = some ce.cls := hcl
    rw [Y₁.warmed.alike.findClass] at h9
    exact h9
  obtain ⟨t2, a1, b1⟩ := kx U'.heap (locs ++ L) q ce (lx_join hw X.2.2.1 (by rw [e1]; exact hkept) (by rw [e1]; exact hat.1) hat.2.2 hS) (by rw [e1]; exact hce) hcv hcl' U' rfl Y'
  exact ⟨t2, hstep₁ _ fun acts => by rw [doInvoke_state]; exact hsteps.trans a1, b1⟩
theorem lx_callR_i {y : MethodName} {bytes : ByteArray} {maxL : Nat} {ret : Option FieldType} {rm : Room} {F : fx_M (Int32 ⊕ Nat)} {b : Addr} {As : List Value} {n ix : Nat} {C : String} {σ' : fx_S} {st : List Value} {r : Int32}
    (X : fx_X p m c cc nL s args own D cl tys gw G A) (hHW : fx_HW A s s.heap) (hw : cx_B D cl A s.heap (w1 ++ (wf σ ++ w3)) H locs) (hM : fx_Rn va_Qi l y bytes maxL ret rm D cl tys gw G wf (.ref b :: As) F) (hF : F σ = some (.inl r, σ')) (cw : CallW R s args own C ix y bytes maxL ret (Cond.code y bytes maxL ret :: gw) (fx_r0 rm) 0 0 n)
    (hrecv : ∃ cellB : Cell, H[b]? = some cellB ∧ cellB.vm.isStatics = false ∧ s.vm.findClass C = some cellB.cls) (hn : As.length = n) (hdg : decode cc pc = .ok (.invokevirtual ix, 3)) (hsize : ls.size = nL) (hst : st = As.reverse ++ .ref b :: rest) (hW : 2 * (F0 m pc ls st).monitorRoom + (rest.map fun v => v.category).sum ≤ 8) (hf : cells ≤ R.cells ∧ slots ≤ R.slots)
    (kk : ∀ (H' : Heap) (locs' : List Loc), cx_B D cl A s.heap (w1 ++ (wf σ' ++ w3)) H' locs' → W p l e R s m args below meth c H' locs' cells slots Q (F0 m (pc + 3) ls (.int r :: rest))) :
    W p l e R s m args below meth c H locs cells slots Q (F0 m pc ls st) := by
  have hfr := lx_free hw X.2.2.1
  refine va_calli (va_runV (As := As) (rest := rest) X.1 (hM H.size σ r σ' hF) cw ⟨fx_blindx X.2.2.2.1, hrecv, lx_prex X hHW hw⟩ rfl hn hsize hst hW hdg hf) hw.2.2 (fun q _ h => hfr q h) hfr (fun r1 u t H1 locs1 ht hvm hp hB _ hk1 hS => ?_)
  cases hp
  subst ht
  exact kk _ locs1 (lx_join hw X.2.2.1 hk1 hB.1 hB.2.2 hS)
theorem lx_callR_l {y : MethodName} {bytes : ByteArray} {maxL : Nat} {ret : Option FieldType} {rm : Room} {F : fx_M (Int64 ⊕ Nat)} {b : Addr} {As : List Value} {n ix : Nat} {C : String} {σ' : fx_S} {st : List Value} {r : Int64}
    (X : fx_X p m c cc nL s args own D cl tys gw G A) (hHW : fx_HW A s s.heap) (hw : cx_B D cl A s.heap (w1 ++ (wf σ ++ w3)) H locs) (hM : fx_Rn va_Ql l y bytes maxL ret rm D cl tys gw G wf (.ref b :: As) F) (hF : F σ = some (.inl r, σ')) (cw : CallW R s args own C ix y bytes maxL ret (Cond.code y bytes maxL ret :: gw) (fx_r0 rm) 0 0 n)
    (hrecv : ∃ cellB : Cell, H[b]? = some cellB ∧ cellB.vm.isStatics = false ∧ s.vm.findClass C = some cellB.cls) (hn : As.length = n) (hdg : decode cc pc = .ok (.invokevirtual ix, 3)) (hsize : ls.size = nL) (hst : st = As.reverse ++ .ref b :: rest) (hW : 2 * (F0 m pc ls st).monitorRoom + (rest.map fun v => v.category).sum ≤ 8) (hf : cells ≤ R.cells ∧ slots ≤ R.slots)
    (kk : ∀ (H' : Heap) (locs' : List Loc), cx_B D cl A s.heap (w1 ++ (wf σ' ++ w3)) H' locs' → W p l e R s m args below meth c H' locs' cells slots Q (F0 m (pc + 3) ls (.long r :: rest))) :
    W p l e R s m args below meth c H locs cells slots Q (F0 m pc ls st) := by
  have hfr := lx_free hw X.2.2.1
  refine va_calll (va_runV (As := As) (rest := rest) X.1 (hM H.size σ r σ' hF) cw ⟨fx_blindx X.2.2.2.1, hrecv, lx_prex X hHW hw⟩ rfl hn hsize hst hW hdg hf) hw.2.2 (fun q _ h => hfr q h) hfr (fun r1 u t H1 locs1 ht hvm hp hB _ hk1 hS => ?_)
  cases hp
  subst ht
  exact kk _ locs1 (lx_join hw X.2.2.1 hk1 hB.1 hB.2.2 hS)
theorem lx_callR_v {y : MethodName} {bytes : ByteArray} {maxL : Nat} {ret : Option FieldType} {rm : Room} {F : fx_M (Unit ⊕ Nat)} {b : Addr} {As : List Value} {n ix : Nat} {C : String} {σ' : fx_S} {st : List Value}
    (X : fx_X p m c cc nL s args own D cl tys gw G A) (hHW : fx_HW A s s.heap) (hw : cx_B D cl A s.heap (w1 ++ (wf σ ++ w3)) H locs) (hM : fx_Rn fx_Qv l y bytes maxL ret rm D cl tys gw G wf (.ref b :: As) F) (hF : F σ = some (.inl (), σ')) (cw : CallW R s args own C ix y bytes maxL ret (Cond.code y bytes maxL ret :: gw) (fx_r0 rm) 0 0 n)
    (hrecv : ∃ cellB : Cell, H[b]? = some cellB ∧ cellB.vm.isStatics = false ∧ s.vm.findClass C = some cellB.cls) (hn : As.length = n) (hdg : decode cc pc = .ok (.invokevirtual ix, 3)) (hsize : ls.size = nL) (hst : st = As.reverse ++ .ref b :: rest) (hW : 2 * (F0 m pc ls st).monitorRoom + (rest.map fun v => v.category).sum ≤ 8) (hf : cells ≤ R.cells ∧ slots ≤ R.slots)
    (kk : ∀ (H' : Heap) (locs' : List Loc), cx_B D cl A s.heap (w1 ++ (wf σ' ++ w3)) H' locs' → W p l e R s m args below meth c H' locs' cells slots Q (F0 m (pc + 3) ls rest)) :
    W p l e R s m args below meth c H locs cells slots Q (F0 m pc ls st) := by
  have hfr := lx_free hw X.2.2.1
  refine va_callv (va_runV (As := As) (rest := rest) X.1 (hM H.size σ () σ' hF) cw ⟨fx_blindx X.2.2.2.1, hrecv, lx_prex X hHW hw⟩ rfl hn hsize hst hW hdg hf) hw.2.2 (fun q _ h => hfr q h) hfr (fun u t H1 locs1 ht hvm hp hB _ hk1 hS => ?_)
  cases hp
  subst ht
  exact kk _ locs1 (lx_join hw X.2.2.1 hk1 hB.1 hB.2.2 hS)
/-- a static call of a method with an exception table -/
theorem lx_runSW {y : MethodName} {bytes : ByteArray} {maxL mc ms n ix : Nat} {ret : Option FieldType} {hh : List (Nat × Nat × Nat × Nat)} {rm : Room} {Pc : Array Value → State → Prop} {Qc : Array Value → State → Outcome → State → Prop} {free : Addr → Prop} {As st : List Value}
    (X : fx_X p m c cc nL s args own D cl tys gw G A) (hM : Met l y (Cond.codeWith y bytes maxL ret hh :: gw) rm Pc Qc mc ms free) (hp : PreS s H Pc As) (hrc : rm.cells = mc) (hrs : rm.slots = ms) (hR : rm.frames + 1 ≤ R.frames ∧ 8 + (maxL + 11) + rm.locals ≤ R.locals)
    (lk : Cond.methodLink own ix y ∈ gw) (hstat : Cond.static y ∈ gw) (hini : Cond.initialized y.cls ∈ gw) (hcode : Cond.codeWith y bytes maxL ret hh ∈ gw) (hok : ∀ w ∈ gw, goodWord w = true) (hd : y.cls ≠ "java/lang/invoke/MethodHandle" ∧ y.cls ≠ "java/lang/invoke/VarHandle" ∧ (parseMethodDescriptor y.desc).map (fun d => d.parameters.length) = some n)
    (hn : As.length = n) (hsize : ls.size = nL) (hst : st = As.reverse ++ rest) (hW : 2 * (F0 m pc ls st).monitorRoom + (rest.map fun v => v.category).sum ≤ 8) (hdg : decode cc pc = .ok (.invokestatic ix, 3)) (hf : cells + mc ≤ R.cells ∧ slots + ms ≤ R.slots) :
    va_Run p l e R s m args below meth c H locs cells slots mc ms (F0 m pc ls st) rest (Qc As.toArray) free := by
  have hws := pay_in X.1.2.2.2.2 (fx_good hcode hok)
  have hiniB : (Cond.initialized y.cls).before args s = true := X.1.2.2.2.2 _ hini
  have hK : Back l R p e below s args y 3 8 (PreOf R mc ms Pc) (PostOf Qc mc ms free) := va_backW (bytes := bytes) (maxL := maxL) (ret := ret) (hh := hh) hM hp.1 hrc hrs hR.1 hR.2 hws List.mem_cons_self (fun a' U hW => word_at hW (Or.inl (by first | rfl | simp [Cond.onTables, Cond.keeps, Cond.steady])) hiniB)
  intro T hT Y
  obtain ⟨mk, methM, cM, hnamed, hmethM, -, -, -, -, -, -, hsigM⟩ := Cond.codeWith_spec (X.1.2.2.2.2 _ hcode)
  have hstatic : methM.isStatic = true := Cond.static_spec hnamed hmethM (X.1.2.2.2.2 _ hstat)
  obtain ⟨kP, hkP, -⟩ := className_of_methodNamed hnamed
  have hinitP : kP.init = .initialized := Cond.initialized_spec (findClass_of_methodNamed hnamed) hkP hiniB
  have hlen : As.length = methM.sig.parameters.length := by
    have h2 := hd.2.2
    rw [hsigM] at h2
    exact hn.trans (Option.some.inj h2).symm
  obtain ⟨vm₁, Y₁, hstep₁⟩ := Y.invokestatic X.1.1 X.1.2.2.2.1 (X.1.2.2.2.2 _ lk) hnamed hmethM hstatic hkP hinitP ⟨hd.1, hd.2.1⟩ (g := F0 m pc ls st) rfl (argsL := As) (rest := rest) hlen hst (by rw [X.1.2.1]; exact hdg)
  obtain ⟨v, ⟨U', l2, c2, s2⟩, Y', ⟨g', mk', t, L, e1, e2, hq, h1, hL, h2, h3⟩, hsteps⟩ := hK m meth c ⟨T.setVm vm₁, locs, cells, slots⟩ { F0 m pc ls st with stack := rest } (.invokestatic ix) mk As.toArray Y₁ rfl (hsize.trans X.1.2.2.1.symm) (by rw [X.1.2.1]; exact hdg) hW (Y₁.named hnamed) ⟨hf.1, hf.2, hp.2 (T.setVm vm₁) hT Y₁.warmed⟩
  dsimp only [Pt.U, Pt.locs, Pt.cells, Pt.slots] at Y' e1 e2 h1 h2 h3 hsteps
  subst h1; subst h2; subst h3
  exact ⟨v, (T.setVm vm₁).calling g' mk' As.toArray, t, U', L, hT, Y', hL, e1, e2, hq, fun target h => hstep₁ _ fun acts => by rw [doInvoke_state]; exact hsteps.trans h⟩
end LH
