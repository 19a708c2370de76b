/-! METHODS THAT MAY THROW -/
def fx_ex (k : Nat) : String := match k with
  | 0 => "java/lang/IndexOutOfBoundsException"
  | 1 => "java/lang/IllegalStateException"
  | _ => "java/lang/IllegalArgumentException"
def fx_retzx (a : Int32) : fx_M (Int32 ⊕ Nat) := fun σ => if a = 0 ∨ a = 1 then some (.inl a, σ) else none
def fx_TH (A : Nat → Prop) (U : State) (H : Heap) : Prop := vx_Zq Bundle.tN "UNASSIGNED_STACK" Bundle.steD A U H ∧ vx_Zq Bundle.tN "SUPPRESSED_SENTINEL" Bundle.listD A U H
theorem fx_bndx_some {α β : Type} {m : fx_M (α ⊕ Nat)} {k : α → fx_M (β ⊕ Nat)} {σ : fx_S} {res : (β ⊕ Nat) × fx_S} (hF : fx_bndx m k σ = some res) : ∃ q, m σ = some q ∧ ((∃ a t, q = (.inl a, t) ∧ k a t = some res) ∨ (∃ x t, q = (.inr x, t) ∧ res = (.inr x, t))) := by
  unfold fx_bndx at hF
  split at hF
  · cases hF
  · next a t hq => exact ⟨_, hq, Or.inl ⟨a, t, rfl, hF⟩⟩
  · next x t hq => exact ⟨_, hq, Or.inr ⟨x, t, rfl, (Option.some.inj hF).symm⟩⟩
def fx_nc {α : Type} (res : (α ⊕ Nat) × fx_S) : Nat := match res.1 with
  | .inl _ => 0
  | .inr _ => 1
/-- the room of a method that may throw: an exception's cell, if it does -/
def fx_rx {α : Type} (rm : Room) (res : (α ⊕ Nat) × fx_S) : Room := { frames := rm.frames, cells := fx_nc res, slots := 6 * fx_nc res, locals := rm.locals }
section FXT
variable {p : Program} {l : Launch} {e : Env} {R : Room} {s : State} {m : MethodId} {args : Array Value} {below : List Frame} {meth : Method} {c : Code} {H : Heap} {locs : List Loc} {cells slots : Nat} {Q : State → Prop}
variable {cc : ByteArray} {pc nL : Nat} {ls : Array Slot} {rest : List Value} {own : String} {D : va_G} {cl : List vw_C} {tys : List (ClassId × FieldType)} {gw : List Cond} {G : State → Prop} {A : Nat → Prop} {wf : fx_S → va_W} {σ : fx_S} {H0 : Heap} {α β : Type} {res : (β ⊕ Nat) × fx_S}
def fx_PreX (D : va_G) (cl : List vw_C) (tys : List (ClassId × FieldType)) (G : State → Prop) (wf : fx_S → va_W) (av : List Value) (sz : Nat) (σ : fx_S) : Array Value → State → Prop :=
  va_Pc av (fun U => U.heap.size = sz ∧ va_P D cl (wf σ) U.heap ∧ va_K D cl tys U ∧ va_D (fun _ => True) (wf σ) ∧ G U ∧ fx_TH (va_A (wf σ) sz) U U.heap)
def fx_XC (D : va_G) (cl : List vw_C) (tys : List (ClassId × FieldType)) (wf : fx_S → va_W) (A : Nat → Prop) (res : (β ⊕ Nat) × fx_S) : String → State → State → Prop :=
  vx_X (fun u : Nat × fx_S => ((.inr u.1, u.2) : (β ⊕ Nat) × fx_S) = res) (fun E u t => E = fx_ex u.1 ∧ fx_at D cl tys wf A u.2 t) A
def fx_Mxi (l : Launch) (y : MethodName) (bytes : ByteArray) (maxL : Nat) (ret : Option FieldType) (rm : Room) (D : va_G) (cl : List vw_C) (tys : List (ClassId × FieldType)) (gw : List Cond) (G : State → Prop) (wf : fx_S → va_W) (av : List Value) (F : fx_M (Int32 ⊕ Nat)) : Prop :=
  ∀ (sz : Nat) (σ : fx_S) (res : (Int32 ⊕ Nat) × fx_S), F σ = some res → vx_Met l y (Cond.code y bytes maxL ret :: gw) (fx_rx rm res) (fx_PreX D cl tys G wf av sz σ) (va_Qi (fun (r : Int32) (u : fx_S) => ((.inl r, u) : (Int32 ⊕ Nat) × fx_S) = res) (fx_at D cl tys wf (va_A (wf σ) sz)) (va_A (wf σ) sz)) (fx_XC D cl tys wf (va_A (wf σ) sz) res) (fx_nc res) (6 * fx_nc res) (va_A (wf σ) sz)
def fx_Mxl (l : Launch) (y : MethodName) (bytes : ByteArray) (maxL : Nat) (ret : Option FieldType) (rm : Room) (D : va_G) (cl : List vw_C) (tys : List (ClassId × FieldType)) (gw : List Cond) (G : State → Prop) (wf : fx_S → va_W) (av : List Value) (F : fx_M (Int64 ⊕ Nat)) : Prop :=
  ∀ (sz : Nat) (σ : fx_S) (res : (Int64 ⊕ Nat) × fx_S), F σ = some res → vx_Met l y (Cond.code y bytes maxL ret :: gw) (fx_rx rm res) (fx_PreX D cl tys G wf av sz σ) (va_Ql (fun (r : Int64) (u : fx_S) => ((.inl r, u) : (Int64 ⊕ Nat) × fx_S) = res) (fx_at D cl tys wf (va_A (wf σ) sz)) (va_A (wf σ) sz)) (fx_XC D cl tys wf (va_A (wf σ) sz) res) (fx_nc res) (6 * fx_nc res) (va_A (wf σ) sz)
def fx_Mxv (l : Launch) (y : MethodName) (bytes : ByteArray) (maxL : Nat) (ret : Option FieldType) (rm : Room) (D : va_G) (cl : List vw_C) (tys : List (ClassId × FieldType)) (gw : List Cond) (G : State → Prop) (wf : fx_S → va_W) (av : List Value) (F : fx_M (Unit ⊕ Nat)) : Prop :=
  ∀ (sz : Nat) (σ : fx_S) (res : (Unit ⊕ Nat) × fx_S), F σ = some res → vx_Met l y (Cond.code y bytes maxL ret :: gw) (fx_rx rm res) (fx_PreX D cl tys G wf av sz σ) (va_Qv (fun (u : fx_S) => ((.inl (), u) : (Unit ⊕ Nat) × fx_S) = res) (fx_at D cl tys wf (va_A (wf σ) sz)) (va_A (wf σ) sz)) (fx_XC D cl tys wf (va_A (wf σ) sz) res) (fx_nc res) (6 * fx_nc res) (va_A (wf σ) sz)
/-- what a body that may throw has besides -/
def fx_XT (l : Launch) (s : State) (c : Code) (A : Nat → Prop) : Prop := l.stackTraces = false ∧ fx_TH A s s.heap ∧ ∀ x ∈ c.exceptionTable.toList, False
def fx_Exi (p : Program) (l : Launch) (e : Env) (R : Room) (s : State) (m : MethodId) (args : Array Value) (below : List Frame) (meth : Method) (c : Code) (bytes : ByteArray) (D : va_G) (cl : List vw_C) (wf : fx_S → va_W) (A : Nat → Prop) (Q : State → Prop) (res : (Int32 ⊕ Nat) × fx_S) : Prop :=
  ∀ (r : Int32) (σ : fx_S) (H : Heap) (locs : List Loc) (ls : Array Slot) (pc : Nat), decode bytes pc = .ok (.ireturn, 1) → fx_ret (.inl r) σ = some res → fx_B D cl wf A s.heap σ H locs → W p l e R s m args below meth c H locs 0 0 Q (F0 m pc ls [.int r])
def fx_Exz (p : Program) (l : Launch) (e : Env) (R : Room) (s : State) (m : MethodId) (args : Array Value) (below : List Frame) (meth : Method) (c : Code) (bytes : ByteArray) (D : va_G) (cl : List vw_C) (wf : fx_S → va_W) (A : Nat → Prop) (Q : State → Prop) (res : (Int32 ⊕ Nat) × fx_S) : Prop :=
  ∀ (r : Int32) (σ : fx_S) (H : Heap) (locs : List Loc) (ls : Array Slot) (pc : Nat), decode bytes pc = .ok (.ireturn, 1) → fx_retzx r σ = some res → fx_B D cl wf A s.heap σ H locs → W p l e R s m args below meth c H locs 0 0 Q (F0 m pc ls [.int r])
def fx_Exl (p : Program) (l : Launch) (e : Env) (R : Room) (s : State) (m : MethodId) (args : Array Value) (below : List Frame) (meth : Method) (c : Code) (bytes : ByteArray) (D : va_G) (cl : List vw_C) (wf : fx_S → va_W) (A : Nat → Prop) (Q : State → Prop) (res : (Int64 ⊕ Nat) × fx_S) : Prop :=
  ∀ (r : Int64) (σ : fx_S) (H : Heap) (locs : List Loc) (ls : Array Slot) (pc : Nat), decode bytes pc = .ok (.lreturn, 1) → fx_ret (.inl r) σ = some res → fx_B D cl wf A s.heap σ H locs → W p l e R s m args below meth c H locs 0 0 Q (F0 m pc ls [.long r])
def fx_Exv (p : Program) (l : Launch) (e : Env) (R : Room) (s : State) (m : MethodId) (args : Array Value) (below : List Frame) (meth : Method) (c : Code) (bytes : ByteArray) (D : va_G) (cl : List vw_C) (wf : fx_S → va_W) (A : Nat → Prop) (Q : State → Prop) (res : (Unit ⊕ Nat) × fx_S) : Prop :=
  ∀ (σ : fx_S) (H : Heap) (locs : List Loc) (ls : Array Slot) (pc : Nat), decode bytes pc = .ok (.return_, 1) → fx_ret (.inl ()) σ = some res → fx_B D cl wf A s.heap σ H locs → W p l e R s m args below meth c H locs 0 0 Q (F0 m pc ls [])
/-- a place where the method throws -/
def fx_tw (gw : List Cond) (G : State → Prop) (own : String) (cc : ByteArray) (pc code fr lo : Nat) : Prop := ∃ (ik is ic : Nat) (text : String) (names : List String),
  decode cc pc = .ok (.new ik, 3) ∧ decode cc (pc + 3) = .ok (.dup, 1) ∧ ((decode cc (pc + 4) = .ok (.ldc is, 2) ∧ decode cc (pc + 6) = .ok (.invokespecial ic, 3) ∧ decode cc (pc + 9) = .ok (.athrow, 1)) ∨ (decode cc (pc + 4) = .ok (.ldc_w is, 3) ∧ decode cc (pc + 7) = .ok (.invokespecial ic, 3) ∧ decode cc (pc + 10) = .ok (.athrow, 1))) ∧
  Bundle.fit (fx_ex code) = true ∧ (∀ n ∈ names, Bundle.fit n = true) ∧ Cond.classLink own ik (fx_ex code) ∈ gw ∧ Cond.initialized (fx_ex code) ∈ gw ∧ (∀ w ∈ vx_atS own ic (fx_ex code) names, w ∈ gw ∨ w = .castable (fx_ex code) (fx_ex code)) ∧
  (∀ U, G U → va_Nw (.castable (fx_ex code) (fx_ex code)) U) ∧ (∀ U, G U → ∃ sa, vk_R own is text sa U) ∧ names.length + 3 < fr ∧ 8 + (13 * (names.length + 1) + 43) ≤ lo
def fx_Th (p : Program) (l : Launch) (e : Env) (R : Room) (s : State) (m : MethodId) (args : Array Value) (below : List Frame) (meth : Method) (c : Code) (bytes : ByteArray) (nL : Nat) (own : String) (gw : List Cond) (G : State → Prop) (D : va_G) (cl : List vw_C) (wf : fx_S → va_W) (A : Nat → Prop) (Q : State → Prop) (res : (β ⊕ Nat) × fx_S) : Prop :=
  ∀ (code : Nat) (σ : fx_S) (H : Heap) (locs : List Loc) (ls : Array Slot) (rest : List Value) (pc : Nat), fx_tw gw G own bytes pc code R.frames R.locals → (rest.map fun v => v.category).sum ≤ 8 → ls.size = nL → fx_thr code σ = some res → fx_B D cl wf A s.heap σ H locs → W p l e R s m args below meth c H locs 0 0 Q (F0 m pc ls rest)
def fx_Pp (p : Program) (l : Launch) (e : Env) (R : Room) (s : State) (m : MethodId) (args : Array Value) (below : List Frame) (meth : Method) (c : Code) (D : va_G) (cl : List vw_C) (wf : fx_S → va_W) (A : Nat → Prop) (Q : State → Prop) (res : (β ⊕ Nat) × fx_S) : Prop :=
  ∀ (code : Nat) (σ' : fx_S) (H1 : Heap) (locs1 : List Loc) (ls : Array Slot) (rest : List Value) (pc : Nat) (q9 : Addr) (ce : Cell), res = (.inr code, σ') → fx_B D cl wf A s.heap σ' H1 locs1 → H1[q9]? = some ce → ce.vm = .none → s.vm.findClass (fx_ex code) = some ce.cls → vx_W p l e R s m args below meth c H1 locs1 1 6 Q (F0 m pc ls rest) q9
theorem fx_mkThr {Qc : Array Value → State → Outcome → State → Prop} {rm : Room} (X : fx_X p m c cc nL s args own D cl tys gw G A) (XT : fx_XT l s c A) (hok : ∀ w ∈ gw, goodWord w = true) (hlocks : meth.locks = false) :
    fx_Th p l e (fx_rx rm res) s m args below meth c cc nL own gw G D cl wf A (vx_MQ below Qc (fx_XC D cl tys wf A res) args s (fx_nc res) (6 * fx_nc res) A) res := by
  intro code σ H locs ls rest pc htw hrest hsize hF hw
  obtain ⟨ik, is, ic, text, names, d0, d3, dd, hf1, hf2, hk, hini, hat, hca, hst, hfr, hlo⟩ := htw
  obtain ⟨sa, hstr⟩ := hst s X.2.2.2.2
  have hres : ((.inr code, σ) : (β ⊕ Nat) × fx_S) = res := Option.some.inj hF
  have hnc : fx_nc res = 1 := by rw [← hres]; rfl
  have hc1 : 0 + 1 ≤ fx_nc res := by rw [hnc]; exact Nat.le_refl 1
  have hs1 : 0 + 6 ≤ 6 * fx_nc res := by rw [hnc]; exact Nat.le_refl 6
  have hcast : (Cond.castable (fx_ex code) (fx_ex code)).before args s = true := va_Nw.use rfl (hca s X.2.2.2.2)
  have q1 : ∀ w ∈ vx_atS own ic (fx_ex code) names, w.before args s = true := fun w hw' => by
    rcases hat w hw' with h | h
    · exact X.1.2.2.2.2 _ h
    · rw [h]; exact hcast
  have q2 : ∀ w ∈ Cond.classLink own ik (fx_ex code) :: Cond.initialized (fx_ex code) :: vx_atS own ic (fx_ex code) names, vx_ot w = true := fun w hw' => by
    have key : w ∈ gw ∨ w = .castable (fx_ex code) (fx_ex code) := by
      rcases List.mem_cons.mp hw' with h | h
      · exact Or.inl (h ▸ hk)
      · rcases List.mem_cons.mp h with h | h
        · exact Or.inl (h ▸ hini)
        · exact hat w h
    rcases key with h | h
    · show (w.onTables || goodWord w) = true
      rw [hok w h, Bool.or_true]
    · rw [h]; rfl
  have q3 : ∀ t : State, s.vm.Alike t.vm → H.size ≤ t.heap.size → (∀ q : Nat, q < H.size → t.heap[q]? = H[q]?) → fx_XC D cl tys wf A res (fx_ex code) s t := fun t hvm hz hk1 =>
    ⟨(code, σ), hres, ⟨rfl, hw.1.kept (fun k q hq => hk1 _ ((hw.1 k q hq).lt)), va_K.moved hvm X.2.1, hw.2.1⟩, Nat.le_trans hw.2.2.1 hz, fun q h1 h2 => by rw [hk1 q (Nat.lt_of_lt_of_le h1 hw.2.2.1)]; exact hw.2.2.2.1 q h1 h2⟩
  rcases dd with ⟨d4, d6, d9⟩ | ⟨d4, d6, d9⟩
  · exact vx_throwS (A := A) X.1.1 X.1.2.1 XT.1 X.1.2.2.2.1 hf1 hf2 (X.1.2.2.2.2 _ hk) (X.1.2.2.2.2 _ hini) hstr q1 q2 XT.2.1.1 XT.2.1.2 hw.2.2 (hsize.trans X.1.2.2.1.symm) d0 d3 d4 d6 d9 (fun x hx => (XT.2.2 x hx).elim) hfr (by omega) hc1 hs1 hlocks q3 hw.2.2.2.2 hc1 hs1
  · exact vx_throwSW (A := A) X.1.1 X.1.2.1 XT.1 X.1.2.2.2.1 hf1 hf2 (X.1.2.2.2.2 _ hk) (X.1.2.2.2.2 _ hini) hstr q1 q2 XT.2.1.1 XT.2.1.2 hw.2.2 (hsize.trans X.1.2.2.1.symm) d0 d3 d4 d6 d9 (fun x hx => (XT.2.2 x hx).elim) hfr (by omega) hc1 hs1 hlocks q3 hw.2.2.2.2 hc1 hs1
theorem fx_mkProp {Qc : Array Value → State → Outcome → State → Prop} {rm : Room} (X : fx_X p m c cc nL s args own D cl tys gw G A) (XT : fx_XT l s c A) (hlocks : meth.locks = false) :
    fx_Pp p l e (fx_rx rm res) s m args below meth c D cl wf A (vx_MQ below Qc (fx_XC D cl tys wf A res) args s (fx_nc res) (6 * fx_nc res) A) res := by
  intro code σ' H1 locs1 ls rest pc q9 ce hres hw hce hcv hcl
  have hnc : fx_nc res = 1 := by rw [hres]; rfl
  have hc : 1 ≤ fx_nc res := by rw [hnc]; exact Nat.le_refl 1
  have hs : 6 ≤ 6 * fx_nc res := by rw [hnc]; exact Nat.le_refl 6
  refine vx_out (fun x hx => (XT.2.2 x hx).elim) hlocks hce hcv hcl (fun t ht hvm => ?_) hw.2.2.2.2 hc hs
  exact ⟨(code, σ'), hres.symm, ⟨rfl, ht ▸ hw.1, va_K.moved hvm X.2.1, hw.2.1⟩, hw.2.2.F ht⟩
theorem fx_mkE {Qc : Array Value → State → Outcome → State → Prop} {XC : String → State → State → Prop} {g : JFrame} {r : β} {σ' : fx_S} (hres : ((.inl r, σ') : (β ⊕ Nat) × fx_S) = res) (k : W p l e R s m args below meth c H locs 0 0 (MQ below Qc args s 0 0 A) g) : W p l e R s m args below meth c H locs 0 0 (vx_MQ below Qc XC args s (fx_nc res) (6 * fx_nc res) A) g := by
  subst hres
  exact vx_ret k
theorem fx_startx {y : MethodName} {bytes : ByteArray} {maxL : Nat} {ret : Option FieldType} {rm : Room} {av : List Value} {sz mc ms : Nat} {Qc : (Nat → Prop) → Array Value → State → Outcome → State → Prop} {XC : (Nat → Prop) → String → State → State → Prop} (hGok : ∀ u U : State, u.WarmedH U.vm → G u → G U) (hlt : l.stackTraces = false) (hy : plainName y.cls = true) (hlen : (lg_sl av).length ≤ maxL)
    (body : ∀ (p : Program) (e : Env) (s : State) (m : MethodId) (args : Array Value) (below : List Frame) (meth : Method) (c : Code) (A : Nat → Prop) (ls : Array Slot), fx_X p m c bytes maxL s args y.cls D cl tys gw G A → fx_XT l s c A → meth.sig.returnType = ret → meth.locks = false → fx_B D cl wf A s.heap σ s.heap [] → lv_has ls maxL (lv_args 0 av) →
      W p l e rm s m args below meth c s.heap [] 0 0 (vx_MQ below (Qc A) (XC A) args s mc ms A) (F0 m 0 ls [])) :
    vx_Met l y (Cond.code y bytes maxL ret :: gw) (fx_rx rm res) (fx_PreX D cl tys G wf av sz σ) (Qc (va_A (wf σ) sz)) (XC (va_A (wf σ) sz)) mc ms (va_A (wf σ) sz) := by
  refine vx_ofW (cc := bytes) (maxL := maxL) (ret := ret) hy rfl ?_
  intro p e s m args below meth c s₁ B hml htab hv
  obtain ⟨rfl, hsz, hP, hK, hD0, hG, hT⟩ := hv
  have hts := atoms_spec (ws := Cond.code y bytes maxL ret :: gw) B.pre
  have hown : s.vm.findClass y.cls = some m.cls := findClass_of_methodNamed B.named
  have hlocks := B.notSynchronized
  subst hsz
  have hD := hD0.self (sz := s.heap.size)
  rw [lg_entry_eq]
  exact body p e s m _ below meth c _ _ ⟨⟨B.exec, B.bytes, hml, hown, fun w hw => hts w (List.mem_cons_of_mem _ hw)⟩, hK, fun q h => Or.inr h, hGok, hG⟩ ⟨hlt, hT, htab⟩ B.returns hlocks ⟨hP, hD, va_S.rf⟩ (lv_entry av hlen)
theorem fx_startx_i {y : MethodName} {bytes : ByteArray} {maxL : Nat} {rm : Room} {av : List Value} {F : fx_M (Int32 ⊕ Nat)} (hGok : ∀ u U : State, u.WarmedH U.vm → G u → G U) (hok : ∀ w ∈ gw, goodWord w = true) (hlt : l.stackTraces = false) (hy : plainName y.cls = true) (hlen : (lg_sl av).length ≤ maxL)
    (body : ∀ (p : Program) (e : Env) (s : State) (m : MethodId) (args : Array Value) (below : List Frame) (meth : Method) (c : Code) (A : Nat → Prop) (ls : Array Slot) (σ : fx_S) (res : (Int32 ⊕ Nat) × fx_S) (Q : State → Prop), F σ = some res → fx_X p m c bytes maxL s args y.cls D cl tys gw G A → fx_XT l s c A → fx_B D cl wf A s.heap σ s.heap [] → lv_has ls maxL (lv_args 0 av) → fx_Exi p l e (fx_rx rm res) s m args below meth c bytes D cl wf A Q res → fx_Th p l e (fx_rx rm res) s m args below meth c bytes maxL y.cls gw G D cl wf A Q res → fx_Pp p l e (fx_rx rm res) s m args below meth c D cl wf A Q res →
      W p l e rm s m args below meth c s.heap [] 0 0 Q (F0 m 0 ls [])) :
    fx_Mxi l y bytes maxL (some .int) rm D cl tys gw G wf av F := fun sz σ res hF => fx_startx (Qc := fun A => va_Qi (fun (r : Int32) (u : fx_S) => ((.inl r, u) : (Int32 ⊕ Nat) × fx_S) = res) (fx_at D cl tys wf A) A) (XC := fun A => fx_XC D cl tys wf A res) hGok hlt hy hlen (fun p e s m args below meth c A ls X XT hr hlocks hw hl => body p e s m args below meth c A ls σ res _ hF X XT hw hl (fun r σ H locs ls pc hd h1 h2 => fx_mkE (Option.some.inj h1) (W.iret X.1.1 X.1.2.1 hr (fun t ht hW => ⟨⟨r, σ, rfl, Option.some.inj h1, by rw [ht]; exact h2.1, va_K.moved hW.alike X.2.1, h2.2.1⟩, h2.2.2.F ht⟩) h2.2.2.2.2 hd hlocks)) (fx_mkThr X XT hok hlocks) (fx_mkProp X XT hlocks))
theorem fx_startx_z {y : MethodName} {bytes : ByteArray} {maxL : Nat} {rm : Room} {av : List Value} {F : fx_M (Int32 ⊕ Nat)} (hGok : ∀ u U : State, u.WarmedH U.vm → G u → G U) (hok : ∀ w ∈ gw, goodWord w = true) (hlt : l.stackTraces = false) (hy : plainName y.cls = true) (hlen : (lg_sl av).length ≤ maxL)
    (body : ∀ (p : Program) (e : Env) (s : State) (m : MethodId) (args : Array Value) (below : List Frame) (meth : Method) (c : Code) (A : Nat → Prop) (ls : Array Slot) (σ : fx_S) (res : (Int32 ⊕ Nat) × fx_S) (Q : State → Prop), F σ = some res → fx_X p m c bytes maxL s args y.cls D cl tys gw G A → fx_XT l s c A → fx_B D cl wf A s.heap σ s.heap [] → lv_has ls maxL (lv_args 0 av) → fx_Exz p l e (fx_rx rm res) s m args below meth c bytes D cl wf A Q res → fx_Th p l e (fx_rx rm res) s m args below meth c bytes maxL y.cls gw G D cl wf A Q res → fx_Pp p l e (fx_rx rm res) s m args below meth c D cl wf A Q res →
      W p l e rm s m args below meth c s.heap [] 0 0 Q (F0 m 0 ls [])) :
    fx_Mxi l y bytes maxL (some .boolean) rm D cl tys gw G wf av F := fun sz σ res hF => fx_startx (Qc := fun A => va_Qi (fun (r : Int32) (u : fx_S) => ((.inl r, u) : (Int32 ⊕ Nat) × fx_S) = res) (fx_at D cl tys wf A) A) (XC := fun A => fx_XC D cl tys wf A res) hGok hlt hy hlen (fun p e s m args below meth c A ls X XT hr hlocks hw hl => body p e s m args below meth c A ls σ res _ hF X XT hw hl (fun r σ H locs ls pc hd h1 h2 => by
      unfold fx_retzx at h1
      split at h1
      · next hz => exact fx_mkE (Option.some.inj h1) (W.zret X.1.1 X.1.2.1 hr (fx_nz hz).1 (fun t ht hW => ⟨⟨r, σ, rfl, Option.some.inj h1, by rw [ht]; exact h2.1, va_K.moved hW.alike X.2.1, h2.2.1⟩, h2.2.2.F ht⟩) h2.2.2.2.2 hd hlocks)
      · cases h1) (fx_mkThr X XT hok hlocks) (fx_mkProp X XT hlocks))
theorem fx_startx_l {y : MethodName} {bytes : ByteArray} {maxL : Nat} {rm : Room} {av : List Value} {F : fx_M (Int64 ⊕ Nat)} (hGok : ∀ u U : State, u.WarmedH U.vm → G u → G U) (hok : ∀ w ∈ gw, goodWord w = true) (hlt : l.stackTraces = false) (hy : plainName y.cls = true) (hlen : (lg_sl av).length ≤ maxL)
    (body : ∀ (p : Program) (e : Env) (s : State) (m : MethodId) (args : Array Value) (below : List Frame) (meth : Method) (c : Code) (A : Nat → Prop) (ls : Array Slot) (σ : fx_S) (res : (Int64 ⊕ Nat) × fx_S) (Q : State → Prop), F σ = some res → fx_X p m c bytes maxL s args y.cls D cl tys gw G A → fx_XT l s c A → fx_B D cl wf A s.heap σ s.heap [] → lv_has ls maxL (lv_args 0 av) → fx_Exl p l e (fx_rx rm res) s m args below meth c bytes D cl wf A Q res → fx_Th p l e (fx_rx rm res) s m args below meth c bytes maxL y.cls gw G D cl wf A Q res → fx_Pp p l e (fx_rx rm res) s m args below meth c D cl wf A Q res →
      W p l e rm s m args below meth c s.heap [] 0 0 Q (F0 m 0 ls [])) :
    fx_Mxl l y bytes maxL (some .long) rm D cl tys gw G wf av F := fun sz σ res hF => fx_startx (Qc := fun A => va_Ql (fun (r : Int64) (u : fx_S) => ((.inl r, u) : (Int64 ⊕ Nat) × fx_S) = res) (fx_at D cl tys wf A) A) (XC := fun A => fx_XC D cl tys wf A res) hGok hlt hy hlen (fun p e s m args below meth c A ls X XT hr hlocks hw hl => body p e s m args below meth c A ls σ res _ hF X XT hw hl (fun r σ H locs ls pc hd h1 h2 => fx_mkE (Option.some.inj h1) (W.lret X.1.1 X.1.2.1 hr (fun t ht hW => ⟨⟨r, σ, rfl, Option.some.inj h1, by rw [ht]; exact h2.1, va_K.moved hW.alike X.2.1, h2.2.1⟩, h2.2.2.F ht⟩) h2.2.2.2.2 hd hlocks)) (fx_mkThr X XT hok hlocks) (fx_mkProp X XT hlocks))
theorem fx_startx_v {y : MethodName} {bytes : ByteArray} {maxL : Nat} {rm : Room} {av : List Value} {F : fx_M (Unit ⊕ Nat)} (hGok : ∀ u U : State, u.WarmedH U.vm → G u → G U) (hok : ∀ w ∈ gw, goodWord w = true) (hlt : l.stackTraces = false) (hy : plainName y.cls = true) (hlen : (lg_sl av).length ≤ maxL)
    (body : ∀ (p : Program) (e : Env) (s : State) (m : MethodId) (args : Array Value) (below : List Frame) (meth : Method) (c : Code) (A : Nat → Prop) (ls : Array Slot) (σ : fx_S) (res : (Unit ⊕ Nat) × fx_S) (Q : State → Prop), F σ = some res → fx_X p m c bytes maxL s args y.cls D cl tys gw G A → fx_XT l s c A → fx_B D cl wf A s.heap σ s.heap [] → lv_has ls maxL (lv_args 0 av) → fx_Exv p l e (fx_rx rm res) s m args below meth c bytes D cl wf A Q res → fx_Th p l e (fx_rx rm res) s m args below meth c bytes maxL y.cls gw G D cl wf A Q res → fx_Pp p l e (fx_rx rm res) s m args below meth c D cl wf A Q res →
      W p l e rm s m args below meth c s.heap [] 0 0 Q (F0 m 0 ls [])) :
    fx_Mxv l y bytes maxL none rm D cl tys gw G wf av F := fun sz σ res hF => fx_startx (Qc := fun A => va_Qv (fun (u : fx_S) => ((.inl (), u) : (Unit ⊕ Nat) × fx_S) = res) (fx_at D cl tys wf A) A) (XC := fun A => fx_XC D cl tys wf A res) hGok hlt hy hlen (fun p e s m args below meth c A ls X XT hr hlocks hw hl => body p e s m args below meth c A ls σ res _ hF X XT hw hl (fun σ H locs ls pc hd h1 h2 => fx_mkE (Option.some.inj h1) (W.vret X.1.1 X.1.2.1 hr (fun t ht hW => ⟨⟨σ, rfl, Option.some.inj h1, by rw [ht]; exact h2.1, va_K.moved hW.alike X.2.1, h2.2.1⟩, h2.2.2.F ht⟩) h2.2.2.2.2 hd hlocks)) (fx_mkThr X XT hok hlocks) (fx_mkProp X XT hlocks))
theorem fx_blindx {av : List Value} {sz : Nat} (hGok : ∀ u U : State, u.WarmedH U.vm → G u → G U) : FrameBlind (fx_PreX D cl tys G wf av sz σ) := by
  intro a U g mk q
  obtain ⟨q0, q1, qP, qK, qD, qG, qT⟩ := q
  exact ⟨q0, q1, qP, va_K.moved (u := U) (U := U.calling g mk a) (Vm.Alike.refl U.vm) qK, qD, hGok U (U.calling g mk a) (State.WarmedH.refl U) qG, vx_Zq.moved (u := U) (U := U.calling g mk a) (Vm.Alike.refl U.vm) qT.1, vx_Zq.moved (u := U) (U := U.calling g mk a) (Vm.Alike.refl U.vm) qT.2⟩
theorem fx_prex {av : List Value} (X : fx_X p m c cc nL s args own D cl tys gw G A) (hTH : fx_TH A s s.heap) (hw : fx_B D cl wf A s.heap σ H locs) : ∀ U : State, U.heap = H → s.WarmedH U.vm → fx_PreX D cl tys G wf av H.size σ av.toArray U :=
  fun U hU hW => ⟨rfl, by rw [hU], by rw [hU]; exact hw.1, va_K.moved hW.alike X.2.1, hw.2.1.weaken (fun _ _ _ _ => trivial), X.2.2.2.1 s U hW X.2.2.2.2, by
    rw [hU]
    exact ⟨vx_Zq.moved hW.alike ((hTH.1.kept hw.2.2.2.1).narrow (fx_fr X hw)), vx_Zq.moved hW.alike ((hTH.2.kept hw.2.2.2.1).narrow (fx_fr X hw))⟩⟩
theorem fx_callx_i {y : MethodName} {bytes : ByteArray} {maxL : Nat} {ret : Option FieldType} {rm : Room} {F : fx_M (Int32 ⊕ Nat)} {b : Addr} {As : List Value} {n ix : Nat} {C : String} {k : Int32 → fx_M (β ⊕ Nat)} {st : List Value}
    (X : fx_X p m c cc nL s args own D cl tys gw G A) (hTH : fx_TH A s s.heap) (hw : fx_B D cl wf A s.heap σ H locs) (hM : fx_Mxi l y bytes maxL ret rm D cl tys gw G wf (.ref b :: As) F) (cw : ∀ q : (Int32 ⊕ Nat) × fx_S, CallW R s args own C ix y bytes maxL ret (Cond.code y bytes maxL ret :: gw) (fx_rx rm q) (fx_nc q) (6 * fx_nc q) n)
    (hrecv : ∃ cellB : Cell, H[b]? = some cellB ∧ cellB.vm.isStatics = false ∧ s.vm.findClass C = some cellB.cls) (hn : As.length = n) (hdg : decode cc pc = .ok (.invokevirtual ix, 3)) (hsize : ls.size = nL) (hst : st = As.reverse ++ .ref b :: rest) (hW : 2 * (F0 m pc ls st).monitorRoom + (rest.map fun v => v.category).sum ≤ 8) (hf : ∀ q, F σ = some q → cells + fx_nc q ≤ R.cells ∧ slots + 6 * fx_nc q ≤ R.slots)
    (kx : ∀ (code : Nat) (σ' : fx_S) (H1 : Heap) (locs1 : List Loc) (q9 : Addr) (ce : Cell), F σ = some (.inr code, σ') → fx_B D cl wf A s.heap σ' H1 locs1 → H1[q9]? = some ce → ce.vm = .none → s.vm.findClass (fx_ex code) = some ce.cls → vx_W p l e R s m args below meth c H1 locs1 (cells + 1) (slots + 6) Q (F0 m pc ls rest) q9)
    (kk : ∀ (r : Int32) (σ' : fx_S) (H' : Heap) (locs' : List Loc), F σ = some (.inl r, σ') → fx_B D cl wf A s.heap σ' H' locs' → W p l e R s m args below meth c H' locs' cells slots Q (F0 m (pc + 3) ls (.int r :: rest))) (hdef : ∃ q, F σ = some q) :
    W p l e R s m args below meth c H locs cells slots Q (F0 m pc ls st) := by
  obtain ⟨q, h1⟩ := hdef
  have hfr := fx_fr X hw
  refine vx_calli (vx_runV (As := As) (rest := rest) X.1 (hM H.size σ q h1) (cw q) ⟨fx_blindx X.2.2.2.1, hrecv, fx_prex X hTH hw⟩ rfl hn hsize hst hW hdg (hf q h1)) hw.2.2 (fun q _ h => hfr q h) hfr (fun q _ h => hfr q h) (fun E ce q9 u t H1 locs1 ht hvm hp hB _ _ hS hce hcv hcl => ?_) (fun r u t H1 locs1 ht hvm hp hB _ _ hS => ?_)
  · obtain ⟨rfl, hB⟩ := hB
    subst hp
    exact kx u.1 u.2 H1 locs1 q9 ce h1 (fx_back hfr ht hB hS) hce hcv hcl
  · subst hp
    exact kk r u H1 locs1 h1 (fx_back hfr ht hB hS)
theorem fx_callx_l {y : MethodName} {bytes : ByteArray} {maxL : Nat} {ret : Option FieldType} {rm : Room} {F : fx_M (Int64 ⊕ Nat)} {b : Addr} {As : List Value} {n ix : Nat} {C : String} {k : Int64 → fx_M (β ⊕ Nat)} {st : List Value}
    (X : fx_X p m c cc nL s args own D cl tys gw G A) (hTH : fx_TH A s s.heap) (hw : fx_B D cl wf A s.heap σ H locs) (hM : fx_Mxl l y bytes maxL ret rm D cl tys gw G wf (.ref b :: As) F) (cw : ∀ q : (Int64 ⊕ Nat) × fx_S, CallW R s args own C ix y bytes maxL ret (Cond.code y bytes maxL ret :: gw) (fx_rx rm q) (fx_nc q) (6 * fx_nc q) n)
    (hrecv : ∃ cellB : Cell, H[b]? = some cellB ∧ cellB.vm.isStatics = false ∧ s.vm.findClass C = some cellB.cls) (hn : As.length = n) (hdg : decode cc pc = .ok (.invokevirtual ix, 3)) (hsize : ls.size = nL) (hst : st = As.reverse ++ .ref b :: rest) (hW : 2 * (F0 m pc ls st).monitorRoom + (rest.map fun v => v.category).sum ≤ 8) (hf : ∀ q, F σ = some q → cells + fx_nc q ≤ R.cells ∧ slots + 6 * fx_nc q ≤ R.slots)
    (kx : ∀ (code : Nat) (σ' : fx_S) (H1 : Heap) (locs1 : List Loc) (q9 : Addr) (ce : Cell), F σ = some (.inr code, σ') → fx_B D cl wf A s.heap σ' H1 locs1 → H1[q9]? = some ce → ce.vm = .none → s.vm.findClass (fx_ex code) = some ce.cls → vx_W p l e R s m args below meth c H1 locs1 (cells + 1) (slots + 6) Q (F0 m pc ls rest) q9)
    (kk : ∀ (r : Int64) (σ' : fx_S) (H' : Heap) (locs' : List Loc), F σ = some (.inl r, σ') → fx_B D cl wf A s.heap σ' H' locs' → W p l e R s m args below meth c H' locs' cells slots Q (F0 m (pc + 3) ls (.long r :: rest))) (hdef : ∃ q, F σ = some q) :
    W p l e R s m args below meth c H locs cells slots Q (F0 m pc ls st) := by
  obtain ⟨q, h1⟩ := hdef
  have hfr := fx_fr X hw
  refine vx_calll (vx_runV (As := As) (rest := rest) X.1 (hM H.size σ q h1) (cw q) ⟨fx_blindx X.2.2.2.1, hrecv, fx_prex X hTH hw⟩ rfl hn hsize hst hW hdg (hf q h1)) hw.2.2 (fun q _ h => hfr q h) hfr (fun q _ h => hfr q h) (fun E ce q9 u t H1 locs1 ht hvm hp hB _ _ hS hce hcv hcl => ?_) (fun r u t H1 locs1 ht hvm hp hB _ _ hS => ?_)
  · obtain ⟨rfl, hB⟩ := hB
    subst hp
    exact kx u.1 u.2 H1 locs1 q9 ce h1 (fx_back hfr ht hB hS) hce hcv hcl
  · subst hp
    exact kk r u H1 locs1 h1 (fx_back hfr ht hB hS)
theorem fx_callx_v {y : MethodName} {bytes : ByteArray} {maxL : Nat} {ret : Option FieldType} {rm : Room} {F : fx_M (Unit ⊕ Nat)} {b : Addr} {As : List Value} {n ix : Nat} {C : String} {k : Unit → fx_M (β ⊕ Nat)} {st : List Value}
    (X : fx_X p m c cc nL s args own D cl tys gw G A) (hTH : fx_TH A s s.heap) (hw : fx_B D cl wf A s.heap σ H locs) (hM : fx_Mxv l y bytes maxL ret rm D cl tys gw G wf (.ref b :: As) F) (cw : ∀ q : (Unit ⊕ Nat) × fx_S, CallW R s args own C ix y bytes maxL ret (Cond.code y bytes maxL ret :: gw) (fx_rx rm q) (fx_nc q) (6 * fx_nc q) n)
    (hrecv : ∃ cellB : Cell, H[b]? = some cellB ∧ cellB.vm.isStatics = false ∧ s.vm.findClass C = some cellB.cls) (hn : As.length = n) (hdg : decode cc pc = .ok (.invokevirtual ix, 3)) (hsize : ls.size = nL) (hst : st = As.reverse ++ .ref b :: rest) (hW : 2 * (F0 m pc ls st).monitorRoom + (rest.map fun v => v.category).sum ≤ 8) (hf : ∀ q, F σ = some q → cells + fx_nc q ≤ R.cells ∧ slots + 6 * fx_nc q ≤ R.slots)
    (kx : ∀ (code : Nat) (σ' : fx_S) (H1 : Heap) (locs1 : List Loc) (q9 : Addr) (ce : Cell), F σ = some (.inr code, σ') → fx_B D cl wf A s.heap σ' H1 locs1 → H1[q9]? = some ce → ce.vm = .none → s.vm.findClass (fx_ex code) = some ce.cls → vx_W p l e R s m args below meth c H1 locs1 (cells + 1) (slots + 6) Q (F0 m pc ls rest) q9)
    (kk : ∀ (σ' : fx_S) (H' : Heap) (locs' : List Loc), F σ = some (.inl (), σ') → fx_B D cl wf A s.heap σ' H' locs' → W p l e R s m args below meth c H' locs' cells slots Q (F0 m (pc + 3) ls rest)) (hdef : ∃ q, F σ = some q) :
    W p l e R s m args below meth c H locs cells slots Q (F0 m pc ls st) := by
  obtain ⟨q, h1⟩ := hdef
  have hfr := fx_fr X hw
  refine vx_callv (vx_runV (As := As) (rest := rest) X.1 (hM H.size σ q h1) (cw q) ⟨fx_blindx X.2.2.2.1, hrecv, fx_prex X hTH hw⟩ rfl hn hsize hst hW hdg (hf q h1)) hw.2.2 (fun q _ h => hfr q h) hfr (fun q _ h => hfr q h) (fun E ce q9 u t H1 locs1 ht hvm hp hB _ _ hS hce hcv hcl => ?_) (fun u t H1 locs1 ht hvm hp hB _ _ hS => ?_)
  · obtain ⟨rfl, hB⟩ := hB
    subst hp
    exact kx u.1 u.2 H1 locs1 q9 ce h1 (fx_back hfr ht hB hS) hce hcv hcl
  · subst hp
    exact kk u H1 locs1 h1 (fx_back hfr ht hB hS)
theorem fx_callp_i {y : MethodName} {bytes : ByteArray} {maxL : Nat} {ret : Option FieldType} {rm : Room} {F : fx_M (Int32 ⊕ Nat)} {b : Addr} {As : List Value} {n ix : Nat} {C : String} {k : Int32 → fx_M (β ⊕ Nat)} {st : List Value}
    (X : fx_X p m c cc nL s args own D cl tys gw G A) (XT : fx_XT l s c A) (hw : fx_B D cl wf A s.heap σ H locs) (hM : fx_Mxi l y bytes maxL ret rm D cl tys gw G wf (.ref b :: As) F) (cw : ∀ q : (Int32 ⊕ Nat) × fx_S, CallW R s args own C ix y bytes maxL ret (Cond.code y bytes maxL ret :: gw) (fx_rx rm q) (fx_nc q) (6 * fx_nc q) n)
    (hrecv : ∃ cellB : Cell, H[b]? = some cellB ∧ cellB.vm.isStatics = false ∧ s.vm.findClass C = some cellB.cls) (hn : As.length = n) (hdg : decode cc pc = .ok (.invokevirtual ix, 3)) (hsize : ls.size = nL) (hst : st = As.reverse ++ .ref b :: rest) (hW : 2 * (F0 m pc ls st).monitorRoom + (rest.map fun v => v.category).sum ≤ 8) (hprop : fx_Pp p l e R s m args below meth c D cl wf A Q res) (hF : fx_bndx F k σ = some res)
    (kk : ∀ (r : Int32) (σ' : fx_S) (H' : Heap) (locs' : List Loc), k r σ' = some res → fx_B D cl wf A s.heap σ' H' locs' → W p l e R s m args below meth c H' locs' 0 0 Q (F0 m (pc + 3) ls (.int r :: rest))) :
    W p l e R s m args below meth c H locs 0 0 Q (F0 m pc ls st) := by
  obtain ⟨q, h1, h2⟩ := fx_bndx_some hF
  have hfq : ∀ q, F σ = some q → 0 + fx_nc q ≤ R.cells ∧ 0 + 6 * fx_nc q ≤ R.slots := by
    intro q' hq'
    rw [hq'] at h1
    cases h1
    rw [hRc.1, hRc.2]
    rcases h2 with ⟨a, t, h3, h4⟩ | ⟨x, t, h3, h4⟩
    · rw [h3]
      exact ⟨Nat.zero_le _, Nat.zero_le _⟩
    · rw [h3, h4]
      exact ⟨Nat.le_refl _, Nat.le_refl _⟩
  refine fx_callx_i (k := k) X XT.2.1 hw hM cw hrecv hn hdg hsize hst hW hfq (fun code σ' H1 locs1 q9 ce hq hB hce hcv hcl => ?_) (fun r σ' H1 locs1 hq hB => ?_) ⟨q, h1⟩
  · rw [h1] at hq
    cases hq
    rcases h2 with ⟨a, t, h3, h4⟩ | ⟨x, t, h3, h4⟩
    · cases h3
    · cases h3
      exact hprop _ _ H1 locs1 ls rest pc q9 ce h4 hB hce hcv hcl
  · rw [h1] at hq
    cases hq
    rcases h2 with ⟨a, t, h3, h4⟩ | ⟨x, t, h3, h4⟩
    · cases h3
      exact kk _ _ H1 locs1 h4 hB
    · cases h3
theorem fx_callp_v {y : MethodName} {bytes : ByteArray} {maxL : Nat} {ret : Option FieldType} {rm : Room} {F : fx_M (Unit ⊕ Nat)} {b : Addr} {As : List Value} {n ix : Nat} {C : String} {k : Unit → fx_M (β ⊕ Nat)} {st : List Value}
    (X : fx_X p m c cc nL s args own D cl tys gw G A) (XT : fx_XT l s c A) (hw : fx_B D cl wf A s.heap σ H locs) (hM : fx_Mxv l y bytes maxL ret rm D cl tys gw G wf (.ref b :: As) F) (cw : ∀ q : (Unit ⊕ Nat) × fx_S, CallW R s args own C ix y bytes maxL ret (Cond.code y bytes maxL ret :: gw) (fx_rx rm q) (fx_nc q) (6 * fx_nc q) n)
    (hrecv : ∃ cellB : Cell, H[b]? = some cellB ∧ cellB.vm.isStatics = false ∧ s.vm.findClass C = some cellB.cls) (hn : As.length = n) (hdg : decode cc pc = .ok (.invokevirtual ix, 3)) (hsize : ls.size = nL) (hst : st = As.reverse ++ .ref b :: rest) (hW : 2 * (F0 m pc ls st).monitorRoom + (rest.map fun v => v.category).sum ≤ 8) (hprop : fx_Pp p l e R s m args below meth c D cl wf A Q res) (hF : fx_bndx F k σ = some res)
    (kk : ∀ (σ' : fx_S) (H' : Heap) (locs' : List Loc), k () σ' = some res → fx_B D cl wf A s.heap σ' H' locs' → W p l e R s m args below meth c H' locs' 0 0 Q (F0 m (pc + 3) ls rest)) :
    W p l e R s m args below meth c H locs 0 0 Q (F0 m pc ls st) := by
  obtain ⟨q, h1, h2⟩ := fx_bndx_some hF
  have hfq : ∀ q, F σ = some q → 0 + fx_nc q ≤ R.cells ∧ 0 + 6 * fx_nc q ≤ R.slots := by
    intro q' hq'
    rw [hq'] at h1
    cases h1
    rw [hRc.1, hRc.2]
    rcases h2 with ⟨a, t, h3, h4⟩ | ⟨x, t, h3, h4⟩
    · rw [h3]
      exact ⟨Nat.zero_le _, Nat.zero_le _⟩
    · rw [h3, h4]
      exact ⟨Nat.le_refl _, Nat.le_refl _⟩
  refine fx_callx_v (k := k) X XT.2.1 hw hM cw hrecv hn hdg hsize hst hW hfq (fun code σ' H1 locs1 q9 ce hq hB hce hcv hcl => ?_) (fun σ' H1 locs1 hq hB => ?_) ⟨q, h1⟩
  · rw [h1] at hq
    cases hq
    rcases h2 with ⟨a, t, h3, h4⟩ | ⟨x, t, h3, h4⟩
    · cases h3
    · cases h3
      exact hprop _ _ H1 locs1 ls rest pc q9 ce h4 hB hce hcv hcl
  · rw [h1] at hq
    cases hq
    rcases h2 with ⟨a, t, h3, h4⟩ | ⟨x, t, h3, h4⟩
    · cases h3
      exact kk _ H1 locs1 h4 hB
    · cases h3
end FXT
