theorem fx_bndx_some {α β : Type} {m : fx_M (α ⊕ Nat)} {k : α → fx_M (β ⊕ Nat)} {σ : fx_S} {res : (β ⊕ Nat) × fx_S} (hF : fx_bndx m k σ = some res) : (∃ a t, m σ = some (.inl a, t) ∧ k a t = some res) ∨ (∃ x t, m σ = some (.inr x, t) ∧ res = (.inr x, t)) := by
  unfold fx_bndx at hF
  split at hF
  · cases hF
  · next a t hq => exact Or.inl ⟨a, t, hq, hF⟩
  · next x t hq => exact Or.inr ⟨x, t, hq, (Option.some.inj hF).symm⟩
/-- an exception's cell, if there is one -/
def fx_nc {α : Type} (res : (α ⊕ Nat) × fx_S) : Nat := match res.1 with
  | .inl _ => 0
  | .inr _ => 1
def fx_rx {α : Type} (rm : Room) (res : (α ⊕ Nat) × fx_S) : Room := { frames := rm.frames, cells := fx_nc res, slots := 6 * fx_nc res, locals := rm.locals }
def fx_r1 (rm : Room) : Room := { frames := rm.frames, cells := 1, slots := 6, locals := rm.locals }
def fx_r0 (rm : Room) : Room := { frames := rm.frames, cells := 0, slots := 0, locals := rm.locals }
section FXU
variable {p : Program} {l : Launch} {e : Env} {R : Room} {s : State} {m : MethodId} {args : Array Value} {below : List Frame} {meth : Method} {c : Code} {H : Heap} {locs : List Loc} {cells slots : Nat} {Q : State → Prop} {T : State}
variable {cc : ByteArray} {pc nL : Nat} {ls : Array Slot} {rest : List Value} {own : String} {D : va_G} {cl : List vw_C} {tys : List (ClassId × FieldType)} {gw : List Cond} {G : State → Prop} {A : Nat → Prop} {wf : fx_S → va_W} {σ : fx_S} {α β : Type} {res : (β ⊕ Nat) × fx_S}
def fx_PreX (D : va_G) (cl : List vw_C) (tys : List (ClassId × FieldType)) (G : State → Prop) (wf : fx_S → va_W) (av : List Value) (sz : Nat) (σ : fx_S) : Array Value → State → Prop :=
  va_Pc av (fun U => U.heap.size = sz ∧ va_P D cl (wf σ) U.heap ∧ va_K D cl tys U ∧ va_D (fun _ => True) (wf σ) ∧ G U ∧ fx_HW (va_A (wf σ) sz) U U.heap)
/-- what a body that may throw has besides -/
def fx_XT (l : Launch) (s : State) (c : Code) (A : Nat → Prop) : Prop := l.stackTraces = false ∧ fx_HW A s s.heap ∧ ∀ x ∈ c.exceptionTable.toList, False
def fx_Exi (p : Program) (l : Launch) (e : Env) (R : Room) (s : State) (m : MethodId) (args : Array Value) (below : List Frame) (meth : Method) (c : Code) (bytes : ByteArray) (D : va_G) (cl : List vw_C) (wf : fx_S → va_W) (A : Nat → Prop) (Q : State → Prop) (res : (Int32 ⊕ Nat) × fx_S) : Prop :=
  ∀ (r : Int32) (σ : fx_S) (H : Heap) (locs : List Loc) (ls : Array Slot) (pc : Nat), decode bytes pc = .ok (.ireturn, 1) → fx_ret (.inl r) σ = some res → fx_B D cl wf A s.heap σ H locs → W p l e R s m args below meth c H locs 0 0 Q (F0 m pc ls [.int r])
def fx_Exz (p : Program) (l : Launch) (e : Env) (R : Room) (s : State) (m : MethodId) (args : Array Value) (below : List Frame) (meth : Method) (c : Code) (bytes : ByteArray) (D : va_G) (cl : List vw_C) (wf : fx_S → va_W) (A : Nat → Prop) (Q : State → Prop) (res : (Int32 ⊕ Nat) × fx_S) : Prop :=
  ∀ (r : Int32) (σ : fx_S) (H : Heap) (locs : List Loc) (ls : Array Slot) (pc : Nat), decode bytes pc = .ok (.ireturn, 1) → fx_retzx r σ = some res → fx_B D cl wf A s.heap σ H locs → W p l e R s m args below meth c H locs 0 0 Q (F0 m pc ls [.int r])
def fx_Exl (p : Program) (l : Launch) (e : Env) (R : Room) (s : State) (m : MethodId) (args : Array Value) (below : List Frame) (meth : Method) (c : Code) (bytes : ByteArray) (D : va_G) (cl : List vw_C) (wf : fx_S → va_W) (A : Nat → Prop) (Q : State → Prop) (res : (Int64 ⊕ Nat) × fx_S) : Prop :=
  ∀ (r : Int64) (σ : fx_S) (H : Heap) (locs : List Loc) (ls : Array Slot) (pc : Nat), decode bytes pc = .ok (.lreturn, 1) → fx_ret (.inl r) σ = some res → fx_B D cl wf A s.heap σ H locs → W p l e R s m args below meth c H locs 0 0 Q (F0 m pc ls [.long r])
def fx_Exv (p : Program) (l : Launch) (e : Env) (R : Room) (s : State) (m : MethodId) (args : Array Value) (below : List Frame) (meth : Method) (c : Code) (bytes : ByteArray) (D : va_G) (cl : List vw_C) (wf : fx_S → va_W) (A : Nat → Prop) (Q : State → Prop) (res : (Unit ⊕ Nat) × fx_S) : Prop :=
  ∀ (σ : fx_S) (H : Heap) (locs : List Loc) (ls : Array Slot) (pc : Nat), decode bytes pc = .ok (.return_, 1) → fx_ret (.inl ()) σ = some res → fx_B D cl wf A s.heap σ H locs → W p l e R s m args below meth c H locs 0 0 Q (F0 m pc ls [])
def fx_Th (p : Program) (l : Launch) (e : Env) (R : Room) (s : State) (m : MethodId) (args : Array Value) (below : List Frame) (meth : Method) (c : Code) (bytes : ByteArray) (nL : Nat) (own : String) (gw : List Cond) (G : State → Prop) (D : va_G) (cl : List vw_C) (wf : fx_S → va_W) (A : Nat → Prop) (Q : State → Prop) (res : (β ⊕ Nat) × fx_S) : Prop :=
  ∀ (code : Nat) (σ : fx_S) (H : Heap) (locs : List Loc) (ls : Array Slot) (rest : List Value) (pc : Nat), fx_tw gw G own bytes pc code R.frames R.locals → (rest.map fun v => v.category).sum ≤ 8 → ls.size = nL → fx_thr code σ = some res → fx_B D cl wf A s.heap σ H locs → W p l e R s m args below meth c H locs 0 0 Q (F0 m pc ls rest)
def fx_Pp (p : Program) (l : Launch) (e : Env) (R : Room) (s : State) (m : MethodId) (args : Array Value) (below : List Frame) (meth : Method) (c : Code) (D : va_G) (cl : List vw_C) (wf : fx_S → va_W) (A : Nat → Prop) (Q : State → Prop) (res : (β ⊕ Nat) × fx_S) : Prop :=
  ∀ (code : Nat) (σ' : fx_S) (H1 : Heap) (locs1 : List Loc) (ls : Array Slot) (rest : List Value) (pc : Nat) (q9 : Addr) (ce : Cell), res = (.inr code, σ') → fx_B D cl wf A s.heap σ' H1 locs1 → H1[q9]? = some ce → ce.vm = .none → s.vm.findClass (fx_ex code) = some ce.cls → fx_V p l e R s m args below meth c H1 locs1 1 6 Q (F0 m pc ls rest) q9
/-- a walk of a body that may throw, whichever way it ends -/
def fx_WX (Ex : Program → Launch → Env → Room → State → MethodId → Array Value → List Frame → Method → Code → ByteArray → va_G → List vw_C → (fx_S → va_W) → (Nat → Prop) → (State → Prop) → (β ⊕ Nat) × fx_S → Prop) (l : Launch) (y : MethodName) (bytes : ByteArray) (maxL : Nat) (rm : Room) (D : va_G) (cl : List vw_C) (tys : List (ClassId × FieldType)) (gw : List Cond) (G : State → Prop) (wf : fx_S → va_W) (av : List Value) (F : fx_M (β ⊕ Nat)) : Prop :=
  ∀ (p : Program) (e : Env) (s : State) (m : MethodId) (args : Array Value) (below : List Frame) (meth : Method) (c : Code) (A : Nat → Prop) (ls : Array Slot) (σ : fx_S) (res : (β ⊕ Nat) × fx_S) (Q : State → Prop), F σ = some res → fx_X p m c bytes maxL s args y.cls D cl tys gw G A → fx_XT l s c A → fx_B D cl wf A s.heap σ s.heap [] → lv_has ls maxL (lv_args 0 av) → Ex p l e (fx_rx rm res) s m args below meth c bytes D cl wf A Q res → fx_Th p l e (fx_rx rm res) s m args below meth c bytes maxL y.cls gw G D cl wf A Q res → fx_Pp p l e (fx_rx rm res) s m args below meth c D cl wf A Q res →
    W p l e (fx_rx rm res) s m args below meth c s.heap [] 0 0 Q (F0 m 0 ls [])
/-- what a method's body is entered with -/
theorem fx_enter {y : MethodName} {bytes : ByteArray} {maxL : Nat} {ret : Option FieldType} {rm : Room} {av : List Value} {sz : Nat} {Qo : (Nat → Prop) → State → Outcome → State → Prop} (hGok : ∀ u U : State, u.WarmedH U.vm → G u → G U) (hlt : l.stackTraces = false) (hy : plainName y.cls = true) (hlen : (lg_sl av).length ≤ maxL)
    (body : ∀ (p : Program) (e : Env) (s : State) (m : MethodId) (args : Array Value) (below : List Frame) (meth : Method) (c : Code) (A : Nat → Prop) (ls : Array Slot), fx_X p m c bytes maxL s args y.cls D cl tys gw G A → fx_XT l s c A → meth.sig.returnType = ret → meth.locks = false → fx_B D cl wf A s.heap σ s.heap [] → lv_has ls maxL (lv_args 0 av) →
      W p l e rm s m args below meth c s.heap [] 0 0 (fun t => ∃ o, t.status = .running ∧ Ended t below o ∧ Qo A s o t) (F0 m 0 ls [])) :
    MetFree l y (headSpec (Cond.code y bytes maxL ret :: gw) rm) (fx_PreX D cl tys G wf av sz σ) (fun _ _ _ _ _ => True) (fun _ st o t => Qo (va_A (wf σ) sz) st o t) := by
  refine MetFree.of_bodyS (code := bytes) (maxLocals := maxL) (ret := ret) hy ?_ ?_
  · intro args s m h hn
    obtain ⟨meth, c, h1, h2, h3, h4, h5, h6, -, -⟩ := Cond.code_spec hn (atoms_spec (ws := Cond.code y bytes maxL ret :: gw) h _ List.mem_cons_self)
    exact ⟨meth, c, h1, h2, h3, h4, h5, h6⟩
  · intro p e s m args below meth c s₁ B hml hv _
    obtain ⟨rfl, hsz, hP, hK, hD0, hG, hT⟩ := hv
    have hts := atoms_spec (ws := Cond.code y bytes maxL ret :: gw) B.pre
    have hown : s.vm.findClass y.cls = some m.cls := findClass_of_methodNamed B.named
    have hlocks := B.notSynchronized
    have htab : ∀ x ∈ c.exceptionTable.toList, False := by
      obtain ⟨meth9, c9, h1, h2, -, -, -, -, h7, -⟩ := Cond.code_spec B.named (hts _ List.mem_cons_self)
      cases Option.some.inj (h1.symm.trans B.method)
      cases Option.some.inj (h2.symm.trans (Stand.of_body B).code)
      intro x hx
      rw [Array.isEmpty_iff.mp h7] at hx
      cases hx
    subst hsz
    have hD := hD0.self (sz := s.heap.size)
    have hh0 : s₁.heap = s.heap := by rw [B.state]; rfl
    have K := body p e s m _ below meth c _ _ ⟨⟨B.exec, B.bytes, hml, hown, fun w hw => hts w (List.mem_cons_of_mem _ hw)⟩, hK, fun q h => Or.inr h, hGok, hG⟩ ⟨hlt, hT, htab⟩ B.returns hlocks ⟨hP, hD, va_S.rf⟩ (lv_entry av hlen)
    rw [← lg_entry_eq] at K
    obtain ⟨t, a1, o, b1, b2, b3⟩ := K s₁ hh0 (Stand.of_body B)
    exact ⟨t, o, a1, b1, b2, b3⟩
/-! where it returns -/
def fx_Rn (Qk : ((β → fx_S → Prop) → (fx_S → State → Prop) → (Nat → Prop) → Array Value → State → Outcome → State → Prop)) (l : Launch) (y : MethodName) (bytes : ByteArray) (maxL : Nat) (ret : Option FieldType) (rm : Room) (D : va_G) (cl : List vw_C) (tys : List (ClassId × FieldType)) (gw : List Cond) (G : State → Prop) (wf : fx_S → va_W) (av : List Value) (F : fx_M (β ⊕ Nat)) : Prop :=
  ∀ (sz : Nat) (σ : fx_S) (r : β) (σ' : fx_S), F σ = some (.inl r, σ') → Met l y (Cond.code y bytes maxL ret :: gw) (fx_r0 rm) (fx_PreX D cl tys G wf av sz σ) (Qk (fun r' u => (r', u) = (r, σ')) (fx_at D cl tys wf (va_A (wf σ) sz)) (va_A (wf σ) sz)) 0 0 (va_A (wf σ) sz)
/-- .. and where it throws -/
def fx_Tx (l : Launch) (y : MethodName) (bytes : ByteArray) (maxL : Nat) (ret : Option FieldType) (rm : Room) (D : va_G) (cl : List vw_C) (tys : List (ClassId × FieldType)) (gw : List Cond) (G : State → Prop) (wf : fx_S → va_W) (av : List Value) (F : fx_M (β ⊕ Nat)) : Prop :=
  ∀ (sz : Nat) (σ : fx_S) (code : Nat) (σ' : fx_S), F σ = some (.inr code, σ') → MetFree l y (headSpec (Cond.code y bytes maxL ret :: gw) (fx_r1 rm)) (fx_PreX D cl tys G wf av sz σ) (fun _ _ _ _ _ => True) (fun _ st o t => fx_TO (fx_ex code) D cl tys wf (va_A (wf σ) sz) σ' st o t)
theorem fx_oft {Ex : Program → Launch → Env → Room → State → MethodId → Array Value → List Frame → Method → Code → ByteArray → va_G → List vw_C → (fx_S → va_W) → (Nat → Prop) → (State → Prop) → (β ⊕ Nat) × fx_S → Prop} {y : MethodName} {bytes : ByteArray} {maxL : Nat} {ret : Option FieldType} {rm : Room} {av : List Value} {F : fx_M (β ⊕ Nat)}
    (hw : fx_WX Ex l y bytes maxL rm D cl tys gw G wf av F) (hEx : ∀ (p : Program) (e : Env) (s : State) (m : MethodId) (args : Array Value) (below : List Frame) (meth : Method) (c : Code) (A : Nat → Prop) (Q : State → Prop) (code : Nat) (σ' : fx_S), Ex p l e (fx_rx rm ((.inr code, σ') : (β ⊕ Nat) × fx_S)) s m args below meth c bytes D cl wf A Q (.inr code, σ'))
    (hGok : ∀ u U : State, u.WarmedH U.vm → G u → G U) (hok : ∀ w ∈ gw, goodWord w = true) (hlt : l.stackTraces = false) (hy : plainName y.cls = true) (hlen : (lg_sl av).length ≤ maxL) : fx_Tx l y bytes maxL ret rm D cl tys gw G wf av F := by
  intro sz σ code σ' hF
  refine fx_enter (Qo := fun A st o t => fx_TO (fx_ex code) D cl tys wf A σ' st o t) hGok hlt hy hlen ?_
  intro p e s m args below meth c A ls X XT hr hlocks hB hl
  refine hw p e s m args below meth c A ls σ _ _ hF X XT hB hl (hEx p e s m args below meth c A _ code σ') ?_ ?_
  · intro code' σ1 H locs ls rest pc htw hrest hsize hF1 hB1
    cases hF1
    exact fx_throwAt X XT.1 XT.2.1 hok hlocks XT.2.2 htw hrest hsize (Nat.le_refl 1) (Nat.le_refl 6) hB1
  · intro code' σ1 H1 locs1 ls rest pc q9 ce hres hB1 hce hcv hcl
    cases hres
    exact fx_leave X hB1 XT.2.2 hlocks hce hcv hcl
end FXU
