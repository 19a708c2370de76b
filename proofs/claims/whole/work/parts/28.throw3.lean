section FXR
variable {p : Program} {l : Launch} {e : Env} {R : Room} {s : State} {m : MethodId} {args : Array Value} {below : List Frame} {meth : Method} {c : Code} {H : Heap} {locs : List Loc} {cells slots : Nat} {Q : State → Prop} {T : State}
variable {cc : ByteArray} {pc nL : Nat} {ls : Array Slot} {rest : List Value} {own : String} {D : va_G} {cl : List vw_C} {tys : List (ClassId × FieldType)} {gw : List Cond} {G : State → Prop} {A : Nat → Prop} {wf : fx_S → va_W} {σ : fx_S} {α β : Type} {res : (β ⊕ Nat) × fx_S}
def fx_Qv (post : Unit → fx_S → Prop) (B : fx_S → State → Prop) (A : Nat → Prop) : Array Value → State → Outcome → State → Prop := va_Qv (fun u => post () u) B A
theorem fx_ofr_i {y : MethodName} {bytes : ByteArray} {maxL : Nat} {rm : Room} {av : List Value} {F : fx_M (Int32 ⊕ Nat)}
    (hw : fx_WX fx_Exi l y bytes maxL rm D cl tys gw G wf av F) (hGok : ∀ u U : State, u.WarmedH U.vm → G u → G U) (hlt : l.stackTraces = false) (hy : plainName y.cls = true) (hlen : (lg_sl av).length ≤ maxL) : fx_Rn va_Qi l y bytes maxL (some .int) rm D cl tys gw G wf av F := by
  intro sz σ r σ' hF
  refine fx_enter (Qo := fun A st o t => va_Qi (fun r' u => (r', u) = (r, σ')) (fx_at D cl tys wf A) A #[] st o t ∧ ∃ L, FrameEnd st o t L 0 0 ∧ ∀ q ∈ L, A q.base) (rm := fx_r0 rm) hGok hlt hy hlen ?_
  intro p e s m args below meth c A ls X XT hr hlocks hB hl
  refine hw p e s m args below meth c A ls σ _ _ hF X XT hB hl ?_ ?_ ?_
  · intro r1 σ1 H locs ls pc hd h1 h2
    cases Option.some.inj h1
    show W p l e _ s m args below meth c H locs 0 0 (MQ below (va_Qi (fun r' u => (r', u) = (r, σ')) (fx_at D cl tys wf A) A) args s 0 0 A) _
    exact W.iret X.1.1 X.1.2.1 hr (fun t ht hW => ⟨⟨_, _, rfl, rfl, by rw [ht]; exact h2.1, va_K.moved hW.alike X.2.1, h2.2.1⟩, h2.2.2.F ht⟩) h2.2.2.2.2 hd hlocks
  · intro code' σ1 H locs ls rest pc htw hrest hsize hF1 hB1
    cases Option.some.inj hF1
  · intro code' σ1 H1 locs1 ls rest pc q9 ce hres hB1 hce hcv hcl
    cases hres
theorem fx_ofr_z {y : MethodName} {bytes : ByteArray} {maxL : Nat} {rm : Room} {av : List Value} {F : fx_M (Int32 ⊕ Nat)}
    (hw : fx_WX fx_Exz l y bytes maxL rm D cl tys gw G wf av F) (hGok : ∀ u U : State, u.WarmedH U.vm → G u → G U) (hlt : l.stackTraces = false) (hy : plainName y.cls = true) (hlen : (lg_sl av).length ≤ maxL) : fx_Rn va_Qi l y bytes maxL (some .boolean) rm D cl tys gw G wf av F := by
  intro sz σ r σ' hF
  refine fx_enter (Qo := fun A st o t => va_Qi (fun r' u => (r', u) = (r, σ')) (fx_at D cl tys wf A) A #[] st o t ∧ ∃ L, FrameEnd st o t L 0 0 ∧ ∀ q ∈ L, A q.base) (rm := fx_r0 rm) hGok hlt hy hlen ?_
  intro p e s m args below meth c A ls X XT hr hlocks hB hl
  refine hw p e s m args below meth c A ls σ _ _ hF X XT hB hl ?_ ?_ ?_
  · intro r1 σ1 H locs ls pc hd h1 h2
    unfold fx_retzx at h1
    split at h1
    · next hz =>
      cases Option.some.inj h1
      show W p l e _ s m args below meth c H locs 0 0 (MQ below (va_Qi (fun r' u => (r', u) = (r, σ')) (fx_at D cl tys wf A) A) args s 0 0 A) _
      exact W.zret X.1.1 X.1.2.1 hr (fx_nz hz).1 (fun t ht hW => ⟨⟨_, _, rfl, rfl, by rw [ht]; exact h2.1, va_K.moved hW.alike X.2.1, h2.2.1⟩, h2.2.2.F ht⟩) h2.2.2.2.2 hd hlocks
    · cases h1
  · intro code' σ1 H locs ls rest pc htw hrest hsize hF1 hB1
    cases Option.some.inj hF1
  · intro code' σ1 H1 locs1 ls rest pc q9 ce hres hB1 hce hcv hcl
    cases hres
theorem fx_ofr_l {y : MethodName} {bytes : ByteArray} {maxL : Nat} {rm : Room} {av : List Value} {F : fx_M (Int64 ⊕ Nat)}
    (hw : fx_WX fx_Exl l y bytes maxL rm D cl tys gw G wf av F) (hGok : ∀ u U : State, u.WarmedH U.vm → G u → G U) (hlt : l.stackTraces = false) (hy : plainName y.cls = true) (hlen : (lg_sl av).length ≤ maxL) : fx_Rn va_Ql l y bytes maxL (some .long) rm D cl tys gw G wf av F := by
  intro sz σ r σ' hF
  refine fx_enter (Qo := fun A st o t => va_Ql (fun r' u => (r', u) = (r, σ')) (fx_at D cl tys wf A) A #[] st o t ∧ ∃ L, FrameEnd st o t L 0 0 ∧ ∀ q ∈ L, A q.base) (rm := fx_r0 rm) hGok hlt hy hlen ?_
  intro p e s m args below meth c A ls X XT hr hlocks hB hl
  refine hw p e s m args below meth c A ls σ _ _ hF X XT hB hl ?_ ?_ ?_
  · intro r1 σ1 H locs ls pc hd h1 h2
    cases Option.some.inj h1
    show W p l e _ s m args below meth c H locs 0 0 (MQ below (va_Ql (fun r' u => (r', u) = (r, σ')) (fx_at D cl tys wf A) A) args s 0 0 A) _
    exact W.lret X.1.1 X.1.2.1 hr (fun t ht hW => ⟨⟨_, _, rfl, rfl, by rw [ht]; exact h2.1, va_K.moved hW.alike X.2.1, h2.2.1⟩, h2.2.2.F ht⟩) h2.2.2.2.2 hd hlocks
  · intro code' σ1 H locs ls rest pc htw hrest hsize hF1 hB1
    cases Option.some.inj hF1
  · intro code' σ1 H1 locs1 ls rest pc q9 ce hres hB1 hce hcv hcl
    cases hres
theorem fx_ofr_v {y : MethodName} {bytes : ByteArray} {maxL : Nat} {rm : Room} {av : List Value} {F : fx_M (Unit ⊕ Nat)}
    (hw : fx_WX fx_Exv l y bytes maxL rm D cl tys gw G wf av F) (hGok : ∀ u U : State, u.WarmedH U.vm → G u → G U) (hlt : l.stackTraces = false) (hy : plainName y.cls = true) (hlen : (lg_sl av).length ≤ maxL) : fx_Rn fx_Qv l y bytes maxL none rm D cl tys gw G wf av F := by
  intro sz σ r σ' hF
  refine fx_enter (Qo := fun A st o t => fx_Qv (fun r' u => (r', u) = (r, σ')) (fx_at D cl tys wf A) A #[] st o t ∧ ∃ L, FrameEnd st o t L 0 0 ∧ ∀ q ∈ L, A q.base) (rm := fx_r0 rm) hGok hlt hy hlen ?_
  intro p e s m args below meth c A ls X XT hr hlocks hB hl
  refine hw p e s m args below meth c A ls σ _ _ hF X XT hB hl ?_ ?_ ?_
  · intro σ1 H locs ls pc hd h1 h2
    cases Option.some.inj h1
    show W p l e _ s m args below meth c H locs 0 0 (MQ below (fx_Qv (fun r' u => (r', u) = (r, σ')) (fx_at D cl tys wf A) A) args s 0 0 A) _
    exact W.vret X.1.1 X.1.2.1 hr (fun t ht hW => ⟨⟨_, rfl, rfl, by rw [ht]; exact h2.1, va_K.moved hW.alike X.2.1, h2.2.1⟩, h2.2.2.F ht⟩) h2.2.2.2.2 hd hlocks
  · intro code' σ1 H locs ls rest pc htw hrest hsize hF1 hB1
    cases Option.some.inj hF1
  · intro code' σ1 H1 locs1 ls rest pc q9 ce hres hB1 hce hcv hcl
    cases hres
theorem fx_nEi (p : Program) (e : Env) (s : State) (m : MethodId) (args : Array Value) (below : List Frame) (meth : Method) (c : Code) (A : Nat → Prop) (Q : State → Prop) (code : Nat) (σ' : fx_S) : fx_Exi p l e R s m args below meth c cc D cl wf A Q (.inr code, σ') := by
  intro r σ1 H locs ls pc hd h1 h2
  cases Option.some.inj h1
theorem fx_nEz (p : Program) (e : Env) (s : State) (m : MethodId) (args : Array Value) (below : List Frame) (meth : Method) (c : Code) (A : Nat → Prop) (Q : State → Prop) (code : Nat) (σ' : fx_S) : fx_Exz p l e R s m args below meth c cc D cl wf A Q (.inr code, σ') := by
  intro r σ1 H locs ls pc hd h1 h2
  unfold fx_retzx at h1
  split at h1
  · cases Option.some.inj h1
  · cases h1
theorem fx_nEl (p : Program) (e : Env) (s : State) (m : MethodId) (args : Array Value) (below : List Frame) (meth : Method) (c : Code) (A : Nat → Prop) (Q : State → Prop) (code : Nat) (σ' : fx_S) : fx_Exl p l e R s m args below meth c cc D cl wf A Q (.inr code, σ') := by
  intro r σ1 H locs ls pc hd h1 h2
  cases Option.some.inj h1
theorem fx_nEv (p : Program) (e : Env) (s : State) (m : MethodId) (args : Array Value) (below : List Frame) (meth : Method) (c : Code) (A : Nat → Prop) (Q : State → Prop) (code : Nat) (σ' : fx_S) : fx_Exv p l e R s m args below meth c cc D cl wf A Q (.inr code, σ') := by
  intro σ1 H locs ls pc hd h1 h2
  cases Option.some.inj h1
/-! a throwing callee in its caller's frame -/
theorem fx_blindx {av : List Value} {sz : Nat} (hGok : ∀ u U : State, u.WarmedH U.vm → G u → G U) : FrameBlind (fx_PreX D cl tys G wf av sz σ) := by
  intro a U g mk q
  obtain ⟨q0, q1, qP, qK, qD, qG, qT⟩ := q
  exact ⟨q0, q1, qP, va_K.moved (u := U) (U := U.calling g mk a) (Vm.Alike.refl U.vm) qK, qD, hGok U (U.calling g mk a) (State.WarmedH.refl U) qG, fx_HW.moved (U := U) (V := U.calling g mk a) (State.WarmedH.refl U) qT⟩
theorem fx_prex {av : List Value} (X : fx_X p m c cc nL s args own D cl tys gw G A) (hHW : fx_HW A s s.heap) (hw : fx_B D cl wf A s.heap σ H locs) : ∀ U : State, U.heap = H → s.WarmedH U.vm → fx_PreX D cl tys G wf av H.size σ av.toArray U :=
  fun U hU hW => ⟨rfl, by rw [hU], by rw [hU]; exact hw.1, va_K.moved hW.alike X.2.1, hw.2.1.weaken (fun _ _ _ _ => trivial), X.2.2.2.1 s U hW X.2.2.2.2, by
    rw [hU]
    exact fx_HW.moved hW ((hHW.kept hw.2.2.1 hw.2.2.2.1).narrow (fx_fr X hw))⟩
theorem fx_thrownB {ws : List Cond} {rm : Room} {Pc : Array Value → State → Prop} {E : String} {A' : Nat → Prop} {σ' : fx_S} {y : MethodName} {bytes : ByteArray} {maxL : Nat} {ret : Option FieldType} {g : JFrame} {ig : Instr} {len : Nat} {mk : MethodId} {a : Array Value} {U : State}
    (X : Stand p l e R s m args below meth c U locs cells slots) (hM : MetFree l y (headSpec ws rm) Pc (fun _ _ _ _ _ => True) (fun _ st o t => fx_TO E D cl tys wf A' σ' st o t)) (hg : g.method = m) (hsize : g.locals.size = c.maxLocals) (hdg : decode c.code g.pc = .ok (ig, len)) (hn : U.methodNamed? y = some mk)
    (hfr : rm.frames + 1 ≤ R.frames) (hlo : 8 + (maxL + 11) + rm.locals ≤ R.locals) (hc : cells + rm.cells ≤ R.cells) (hs : slots + rm.slots ≤ R.slots) (hst : 2 * g.monitorRoom + (g.stack.map fun v => v.category).sum ≤ 8)
    (hws : ∀ w ∈ ws, w.before a U = true) (hcode : (Cond.code y bytes maxL ret).before a U = true) (hinit : (Cond.initialized y.cls).before a U = true) (hPc : Pc a (U.calling g mk a)) :
    ∃ (q : Addr) (t U' : State) (L : List Loc), U'.heap = t.heap ∧ U'.vm = t.vm ∧ fx_TO E D cl tys wf A' σ' (U.calling g mk a) (.threw q) t ∧ (∀ z ∈ L, A' z.base) ∧ Stand p l e R s m args below meth c U' (locs ++ L) (cells + 1) (slots + 6) ∧
      Steps p.tables e below (doInvoke e (U.setTop g) [] mk a).1 ((U'.setTop g).pushFrame (.throwing q)) := by
  have h1 : (headSpec ws rm).pre.before a U = true := atoms_intro fun w hw => hws w hw
  obtain ⟨methY, cY, hmY, hcY, -, hlY, -, -, -, -⟩ := Cond.code_spec hn hcode
  obtain ⟨kY, hkY, -⟩ := className_of_methodNamed hn
  have hinitY : kY.init = .initialized := Cond.initialized_spec (findClass_of_methodNamed hn) hkY hinit
  have h : At U g.method c below := by rw [hg]; exact X.here
  have hlo9 : 8 + (maxL + 11) + (headSpec ws rm).room.locals ≤ R.locals := hlo
  have happ : (headSpec ws rm).appliesLoose y e.platform (U.calling g mk a) = true :=
    Spec.appliesLoose_calling (g := g) h hdg hn hkY hinitY
      (X.room_calling (g := g) (R' := (headSpec ws rm).room) hsize hmY hcY hfr (by rw [hlY]; omega) hc hs) h1
  obtain ⟨mid, hmid⟩ := h.above
  have hfr9 : (U.setTop g).frames = (.java g :: mid) ++ below := by rw [State.frames_setTop' g h.top, hmid]; rfl
  obtain ⟨o, s₂, hsteps, -, hend, hq⟩ := Steps.callFree hM p X.admits X.cas X.clock (acts := []) hfr9 happ hPc trivial
  have hq' : fx_TO E D cl tys wf A' σ' (U.calling g mk a) o s₂ := hq
  rw [State.frames_setTop' g h.top] at hend
  obtain ⟨q, ce, L, rfl, hce, hcv, hcl, hW2, hsm, hL, hat, hF⟩ := id hq'
  obtain ⟨g₀, hg0⟩ := Option.isSome_iff_exists.mp h.top
  obtain ⟨r, hr⟩ := State.topJava?_eq_some.mp hg0
  have hf2 : s₂.frames = .throwing q :: .java g :: U.frames.tail := hend
  obtain ⟨e2, q2, q3, q4, q5, q6⟩ := id hsm
  have hW' : U.WarmedH s₂.vm := hW2
  have e3 : s₂ = ({ (U.calling g mk a).setFrames s₂.frames with heap := s₂.heap, slotsUsed := s₂.slotsUsed } : State).setVm s₂.vm := by
    have : s₂ = ({ s₂ with vm := (U.calling g mk a).vm } : State).setVm s₂.vm := rfl
    rw [e2] at this
    exact this
  obtain ⟨U', hU'⟩ : ∃ z, z = ({ U with heap := s₂.heap, slotsUsed := s₂.slotsUsed } : State).setVm s₂.vm := ⟨_, rfl⟩
  have hsame : U.sameButNew ({ U with heap := s₂.heap, slotsUsed := s₂.slotsUsed } : State) L 1 6 := by
    refine ⟨?_, q2, q3, q4, q5, q6⟩
    obtain ⟨t, ht, -⟩ := State.frames_cons hr
    show ({ U with heap := s₂.heap, slotsUsed := s₂.slotsUsed } : State) = { U.setFrames U.frames with heap := s₂.heap, slotsUsed := s₂.slotsUsed }
    rw [State.setFrames_self ht]
  have hs2 : s₂ = (U'.setTop g).pushFrame (.throwing q) := by
    have hr' : U'.frames = .java g₀ :: r := by rw [hU']; exact hr
    refine e3.trans ?_
    rw [hf2, State.calling_eq h.top, State.setFrames_setFrames, State.pushFrame, State.frames_setTop _ hr', State.setTop_of_frames _ hr', State.setFrames_setFrames, hU', hr]
    rfl
  subst hg
  refine ⟨q, s₂, U', L, by rw [hU']; rfl, by rw [hU']; rfl, hq', hL, ?_, ?_⟩
  · rw [hU']
    exact ⟨X.admits, X.cas, X.clock, X.frames, X.room, X.hears, X.method, X.code, (X.here.setHeapUsed s₂.heap s₂.slotsUsed).setVm hW'.alike, X.tail, State.WarmedH.trans X.warmed hW', X.limits, X.bytes, X.same.trans (hsame.setVm s.vm)⟩
  · rw [← hs2]
    exact hsteps
/-- a call whose callee throws: what is left to do is what the caller does with it -/
theorem fx_callT {y : MethodName} {bytes : ByteArray} {maxL : Nat} {ret : Option FieldType} {rm : Room} {F : fx_M (α ⊕ Nat)} {b : Addr} {As : List Value} {n ix code : Nat} {C : String} {σ' : fx_S} {st : List Value}
    (X : fx_X p m c cc nL s args own D cl tys gw G A) (hHW : fx_HW A s s.heap) (hw : fx_B D cl wf A s.heap σ H locs) (hM : fx_Tx l y bytes maxL ret rm D cl tys gw G wf (.ref b :: As) F) (hF : F σ = some (.inr code, σ')) (cw : CallW R s args own C ix y bytes maxL ret (Cond.code y bytes maxL ret :: gw) (fx_r1 rm) 1 6 n)
    (hrecv : ∃ cellB : Cell, H[b]? = some cellB ∧ cellB.vm.isStatics = false ∧ s.vm.findClass C = some cellB.cls) (hn : As.length = n) (hdg : decode cc pc = .ok (.invokevirtual ix, 3)) (hsize : ls.size = nL) (hst : st = As.reverse ++ .ref b :: rest) (hW : 2 * (F0 m pc ls st).monitorRoom + (rest.map fun v => v.category).sum ≤ 8) (hf : cells + 1 ≤ R.cells ∧ slots + 6 ≤ R.slots)
    (kx : ∀ (H1 : Heap) (locs1 : List Loc) (q9 : Addr) (ce : Cell), fx_B D cl wf A s.heap σ' H1 locs1 → H1[q9]? = some ce → ce.vm = .none → s.vm.findClass (fx_ex code) = some ce.cls → fx_V p l e R s m args below meth c H1 locs1 (cells + 1) (slots + 6) Q (F0 m pc ls rest) q9) :
    W p l e R s m args below meth c H locs cells slots Q (F0 m pc ls st) := by
  obtain ⟨⟨hrc, hrs, hfr, hlo, hws, hcw, hcode, hini, hy, hlen, hl⟩, hin, hse⟩ := cw
  obtain ⟨cellB, hcB, hoB, hclB⟩ := hrecv
  intro T hT Y
  subst hT
  obtain ⟨mk, methM, hnamed, hmethM, hstM, habM⟩ := Cond.instanceMethod_spec hin
  obtain ⟨methM', cM, hmethM', -, -, -, -, -, -, hsigM⟩ := Cond.code_spec hnamed hcode
  cases hmethM.symm.trans hmethM'
  obtain ⟨c2, r2, m2, q1, q2, q3, q4, kP, hkP, hkPi⟩ := Cond.selects_spec hse
  cases hclB.symm.trans q1
  cases (State.methodFound?_of_named hnamed hy).symm.trans q2
  cases hnamed.symm.trans q3
  have hselP : selectMethod e.platform s.vm cellB.cls mk = .method mk := by rw [Launch.admits_selectMethod Y.admits]; exact q4
  obtain ⟨vm₁, Y₁, hstep₁⟩ := Y.invokevirtual X.1.1 X.1.2.2.2.1 hl hnamed hmethM hstM hkP hkPi hy (a := b) (cell := cellB) hcB
    (fun z h => by rw [h] at hoB; cases hoB) hselP hmethM habM hkP hkPi (g := F0 m pc ls st) rfl (argsL := As) (rest := rest) (hn.trans (hlen _ hsigM)) hst (by rw [X.1.2.1]; exact hdg)
  have hPre := fx_prex (av := .ref b :: As) X hHW hw (T.setVm vm₁) rfl Y₁.warmed
  have hini' : (Cond.initialized y.cls).before (Value.ref b :: As).toArray (T.setVm vm₁) = true := word_at Y₁.warmed (Or.inl (by first | rfl | simp [Cond.onTables, Cond.keeps, Cond.steady])) hini
  obtain ⟨q, t, U', L, e1, e2, hTO, hL, Y', hsteps⟩ := fx_thrownB (a := (Value.ref b :: As).toArray) (g := { F0 m pc ls st with stack := rest }) Y₁ (hM T.heap.size σ code σ' hF) rfl (hsize.trans X.1.2.2.1.symm) (ig := .invokevirtual ix) (len := 3) (by rw [X.1.2.1]; exact hdg) (Y₁.named hnamed) hfr hlo hf.1 hf.2 hW
    (fun w hw' => hws w hw' _ _ Y₁.warmed) (hws _ hcw _ _ Y₁.warmed) hini' (fx_blindx X.2.2.2.1 _ _ _ _ hPre)
  obtain ⟨q', ce, L', hq', hce, hcv, hcl, hW2, -, -, hat, hF2⟩ := hTO
  cases hq'
  have hWs : s.WarmedH t.vm := by rw [← e2]; exact Y'.warmed
  have hfr9 := fx_fr X hw
  have hz : T.heap.size ≤ t.heap.size := hF2.1
  have hkept : ∀ x : Nat, x < T.heap.size → ¬ va_A (wf σ) T.heap.size x → t.heap[x]? = T.heap[x]? := hF2.2
  have hS : va_S A s.heap U'.heap (locs ++ L) := by
    rw [e1]
    refine ⟨Nat.le_trans hw.2.2.1 hz, fun x h1 h2 => ?_, fun x hx => ?_⟩
    · rw [hkept x (Nat.lt_of_lt_of_le h1 hw.2.2.1) (fun z => h2 (hfr9 x z))]
      exact hw.2.2.2.1 x h1 h2
    · rcases List.mem_append.mp hx with h | h
      · exact hw.2.2.2.2 x h
      · exact hfr9 _ (hL x h)
  have hcl' : s.vm.findClass (fx_ex code) = some ce.cls := by
    have h9 : (T.setVm vm₁).vm.findClass (fx_ex code) = some ce.cls := hcl
    rw [Y₁.warmed.alike.findClass] at h9
    exact h9
  obtain ⟨t2, a1, b1⟩ := kx U'.heap (locs ++ L) q ce (fx_back hfr9 e1.symm hat hS) (by rw [e1]; exact hce) hcv hcl' U' rfl Y'
  exact ⟨t2, hstep₁ _ fun acts => by rw [doInvoke_state]; exact hsteps.trans a1, b1⟩
theorem fx_callp_v {y : MethodName} {bytes : ByteArray} {maxL : Nat} {ret : Option FieldType} {rm : Room} {F : fx_M (Unit ⊕ Nat)} {b : Addr} {As : List Value} {n ix : Nat} {C : String} {k : Unit → fx_M (β ⊕ Nat)} {st : List Value}
    (X : fx_X p m c cc nL s args own D cl tys gw G A) (XT : fx_XT l s c A) (hw : fx_B D cl wf A s.heap σ H locs) (hM : fx_Rn fx_Qv l y bytes maxL ret rm D cl tys gw G wf (.ref b :: As) F) (hMt : fx_Tx l y bytes maxL ret rm D cl tys gw G wf (.ref b :: As) F)
    (cw : CallW R s args own C ix y bytes maxL ret (Cond.code y bytes maxL ret :: gw) (fx_r0 rm) 0 0 n) (cw1 : CallW R s args own C ix y bytes maxL ret (Cond.code y bytes maxL ret :: gw) (fx_r1 rm) 1 6 n)
    (hrecv : ∃ cellB : Cell, H[b]? = some cellB ∧ cellB.vm.isStatics = false ∧ s.vm.findClass C = some cellB.cls) (hn : As.length = n) (hdg : decode cc pc = .ok (.invokevirtual ix, 3)) (hsize : ls.size = nL) (hst : st = As.reverse ++ .ref b :: rest) (hW : 2 * (F0 m pc ls st).monitorRoom + (rest.map fun v => v.category).sum ≤ 8)
    (hRc : R.cells = fx_nc res ∧ R.slots = 6 * fx_nc res) (hprop : fx_Pp p l e R s m args below meth c D cl wf A Q res) (hF : fx_bndx F k σ = some res)
    (kk : ∀ (σ' : fx_S) (H' : Heap) (locs' : List Loc), k () σ' = some res → fx_B D cl wf A s.heap σ' H' locs' → W p l e R s m args below meth c H' locs' 0 0 Q (F0 m (pc + 3) ls rest)) :
    W p l e R s m args below meth c H locs 0 0 Q (F0 m pc ls st) := by
  rcases fx_bndx_some hF with ⟨a, σ1, h1, h2⟩ | ⟨x, σ1, h1, h2⟩
  · have hfr := fx_fr X hw
    refine va_callv (va_runV (As := As) (rest := rest) X.1 (hM H.size σ a σ1 h1) cw ⟨fx_blindx X.2.2.2.1, hrecv, fx_prex X XT.2.1 hw⟩ rfl hn hsize hst hW hdg ⟨Nat.zero_le _, Nat.zero_le _⟩) hw.2.2 (fun q _ h => hfr q h) hfr (fun u t H1 locs1 ht hvm hp hB _ _ hS => ?_)
    cases hp
    exact kk _ H1 locs1 h2 (fx_back hfr ht hB hS)
  · refine fx_callT X XT.2.1 hw hMt h1 cw1 hrecv hn hdg hsize hst hW ?_ (fun H1 locs1 q9 ce hB hce hcv hcl => hprop x σ1 H1 locs1 ls rest pc q9 ce h2 hB hce hcv hcl)
    rw [hRc.1, hRc.2, h2]
    exact ⟨Nat.le_refl _, Nat.le_refl _⟩
end FXR
