/-! CONSTRUCTORS: the world is what was there (any list pre), and behind it the cells that the constructor fills and makes -/
theorem cx_at {α : Type} (pre l : List α) (k : Nat) : (pre ++ l)[pre.length + k]? = l[k]? := by
  rw [List.getElem?_append_right (by omega)]
  congr 1
  omega
theorem cx_set {α : Type} (pre l : List α) (k : Nat) (x : α) : (pre ++ l).set (pre.length + k) x = pre ++ l.set k x := by
  rw [List.set_append_right _ _ (by omega)]
  congr 2
  omega
def cx_ob (gw : List Cond) : Prop := Cond.instanceMethod Lib.objectInit ∈ gw ∧ Cond.code Lib.objectInit ⟨#[0xb1]⟩ 1 none ∈ gw
def cx_B (D : va_G) (cl : List vw_C) (A : Nat → Prop) (H0 : Heap) (ws : va_W) (H : Heap) (locs : List Loc) : Prop := va_P D cl ws H ∧ va_D A ws ∧ va_S A H0 H locs
def cx_M (l : Launch) (y : MethodName) (bytes : ByteArray) (maxL : Nat) (rm : Room) (D : va_G) (cl : List vw_C) (tys : List (ClassId × FieldType)) (gw : List Cond) (G : State → Prop) (q : Nat) (As : List Value) (bk : va_E) (z : (Nat → Nat) → va_W) : Prop :=
  ∀ (sz : Nat) (pre : va_W), Met l y (Cond.code y bytes maxL none :: gw) rm (va_Pc (.ref q :: As) (fun U => U.heap.size = sz ∧ va_P D cl (pre ++ [(q, bk)]) U.heap ∧ va_K D cl tys U ∧ va_D (fun _ => True) (pre ++ [(q, bk)]) ∧ G U))
    (va_Qv (fun _ : Nat → Nat => True) (fun u t => va_P D cl (pre ++ z u) t.heap ∧ va_K D cl tys t ∧ va_D (va_A (pre ++ [(q, bk)]) sz) (pre ++ z u)) (va_A (pre ++ [(q, bk)]) sz)) rm.cells rm.slots (va_A (pre ++ [(q, bk)]) sz)
section CX
variable {p : Program} {l : Launch} {e : Env} {R : Room} {s : State} {m : MethodId} {args : Array Value} {below : List Frame} {meth : Method} {c : Code} {H : Heap} {locs : List Loc} {cells slots : Nat} {Q : State → Prop}
variable {cc : ByteArray} {pc nL : Nat} {ls : Array Slot} {rest : List Value} {own : String} {D : va_G} {cl : List vw_C} {tys : List (ClassId × FieldType)} {gw : List Cond} {G : State → Prop} {A : Nat → Prop} {pre cs : va_W}
theorem cx_obj (X : fx_X p m c cc nL s args own D cl tys gw G A) {ix a : Nat} (hob : cx_ob gw) (lk : Cond.methodLink own ix Lib.objectInit ∈ gw) (hdg : decode cc pc = .ok (.invokespecial ix, 3)) (hsize : ls.size = nL) (hfr : 1 ≤ R.frames) (hlo : (rest.map fun v => v.category).sum + 12 ≤ R.locals)
    (kk : W p l e R s m args below meth c H locs cells slots Q (F0 m (pc + 3) ls rest)) : W p l e R s m args below meth c H locs cells slots Q (F0 m pc ls (.ref a :: rest)) :=
  W.objInit X.1.1 X.1.2.1 X.1.2.2.2.1 (X.1.2.2.2.2 _ lk) (X.1.2.2.2.2 _ hob.1) (X.1.2.2.2.2 _ hob.2) (g := F0 m pc ls (.ref a :: rest)) rfl (hsize.trans X.1.2.2.1.symm) rfl hdg hfr (by show 2 * 0 + _ + 12 ≤ _; omega) kk
theorem cx_new (X : fx_X p m c cc nL s args own D cl tys gw G A) (hw : cx_B D cl A s.heap (pre ++ cs) H locs) {ci ix N : Nat} {C : String} {T : u_T} {fs : List Value} (lk : Cond.classLink own ix C ∈ gw) (hin : ∀ w ∈ u_ws C T N, w ∈ gw) (hins : Cond.instantiable C N ∈ gw) (hini : Cond.initialized C ∈ gw) (ty : Nat → FieldType) (hty : ∀ k, k < N → parseFieldDescriptor (T k).2.2.1 = some (ty k)) (hc : cl[ci]? = some (C, T, N)) (hfs : ∀ j, j < N → defaultValue (ty j) = vp_V fs j)
    (hcells : cells + 1 ≤ R.cells) (hslots : slots + N ≤ R.slots) (hdg : decode cc pc = .ok (.new ix, 3)) (kk : ∀ (q : Nat) (H1 : Heap), cx_B D cl A s.heap (pre ++ (cs ++ [(q, .inr (ci, fs))])) H1 locs → W p l e R s m args below meth c H1 locs (cells + 1) (slots + N) Q (F0 m (pc + 3) ls (.ref q :: rest))) :
    W p l e R s m args below meth c H locs cells slots Q (F0 m pc ls rest) :=
  va_new X.1.1 X.1.2.1 X.1.2.2.2.2 hin ty hty X.1.2.2.2.1 (X.1.2.2.2.2 _ lk) (X.1.2.2.2.2 _ hins) (X.1.2.2.2.2 _ hini) X.2.1 hw.1 hw.2.1 hw.2.2 X.2.2.1 hc hfs hcells hslots hdg (fun q H1 hP hD hS => kk q H1 ⟨by rw [← List.append_assoc]; exact hP, by rw [← List.append_assoc]; exact hD, hS⟩)
theorem cx_newA (X : fx_X p m c cc nL s args own D cl tys gw G A) (hw : cx_B D cl A s.heap (pre ++ cs) H locs) {atype : ArrayType} {ty : FieldType} (hty : newarray.typeOf atype = ty) (hprim : ∀ U cA, va_RA U cA ty → U.vm.findClass ("[" ++ ty.toString) = some cA) (harr : Cond.arrayClass ty ∈ gw) (t0 : Nat) {cI : ClassId} (ht : tys[t0]? = some (cI, ty)) {n : Int32} {N : Nat} {a0 : vp_A} (ha : vp_cell cI a0 = arrV cI N (fun _ => defaultValue ty))
    (hn : ¬ n < 0) (hN : n.toNatClampNeg = N) (hbytes : N * componentBytes ty ≤ 536870912) (hcells : cells + 1 ≤ R.cells) (hslots : slots + N ≤ R.slots) (hdg : decode cc pc = .ok (.newarray atype, 2)) (kk : ∀ (q : Nat) (H1 : Heap), cx_B D cl A s.heap (pre ++ (cs ++ [(q, .inl (cI, a0))])) H1 locs → W p l e R s m args below meth c H1 locs (cells + 1) (slots + N) Q (F0 m (pc + 2) ls (.ref q :: rest))) :
    W p l e R s m args below meth c H locs cells slots Q (F0 m pc ls (.int n :: rest)) := by
  subst hty
  refine va_newaK X.1.1 X.1.2.1 (X.1.2.2.2.2 _ harr) (g := F0 m pc ls (.int n :: rest)) rfl hdg rfl hn hN hbytes hcells hslots rfl fun H1 cA e1 z1 o1 hAr hNm => ?_
  have hcA : cA = cI := by
    have h1 := hprim s cI (X.2.1.2 t0 _ ht).2
    exact Option.some.inj (hNm.symm.trans h1)
  subst hcA
  have hk : ∀ (k : Nat) (x : Nat × va_E), (pre ++ cs)[k]? = some x → H1[x.1]? = H[x.1]? := fun k x hx => o1 x.1 ((hw.1 k x hx).lt)
  refine kk H.size H1 ⟨?_, ?_, Nat.le_trans hw.2.2.1 (by omega), fun x h1 h2 => (o1 x (Nat.lt_of_lt_of_le h1 hw.2.2.1)).trans (hw.2.2.2.1 x h1 h2), hw.2.2.2.2⟩
  · rw [← List.append_assoc]
    refine (hw.1.kept hk).app (fun k x hx => ?_)
    have hz : k < 1 := (List.getElem?_eq_some_iff.mp hx).1
    rw [show k = 0 by omega] at hx
    cases hx
    show H1[H.size]? = some (vp_cell _ _)
    rw [ha]
    exact e1
  · rw [← List.append_assoc]
    exact hw.2.1.push hw.1 rfl (X.2.2.1 _ hw.2.2.1)
theorem cx_put (X : fx_X p m c cc nL s args own D cl tys gw G A) (hw : cx_B D cl A s.heap (pre ++ cs) H locs) (k0 : Nat) {a ci N ix : Nat} {fs : List Value} {C : String} {T : u_T} (he : cs[k0]? = some (a, .inr (ci, fs))) (hc : cl[ci]? = some (C, T, N)) (k : Nat) (hk : k < N) (hin : ∀ w ∈ u_ws C T N, w ∈ gw) (ty0 : Nat → FieldType) (hty : ∀ k, k < N → parseFieldDescriptor (T k).2.2.1 = some (ty0 k)) (hnm : ∀ a, a < N → ∀ b, b < N → a ≠ b → (T a).2.1 ≠ (T b).2.1) (hfin : (T k).2.2.2 = false)
    {v : Value} {ty : FieldType} (hd : parseFieldDescriptor (T k).2.2.1 = some ty) (hn : narrow ty v = v) (hfit : fits ty v = true) (hl : k < fs.length) (lk : Cond.fieldLink own ix (T k).1 (T k).2.1 (T k).2.2.1 ∈ gw) (hdg : decode cc pc = .ok (.putfield ix, 3))
    (kk : ∀ (H1 : Heap) (locs1 : List Loc), cx_B D cl A s.heap (pre ++ cs.set k0 (a, .inr (ci, fs.set k v))) H1 locs1 → W p l e R s m args below meth c H1 locs1 cells slots Q (F0 m (pc + 3) ls rest)) : W p l e R s m args below meth c H locs cells slots Q (F0 m pc ls (v :: .ref a :: rest)) :=
  va_put X.1.1 X.1.2.1 X.1.2.2.2.2 hin ty0 hty hnm X.1.2.2.2.1 X.2.1 hw.1 hw.2.1 hw.2.2 (pre.length + k0) ((cx_at pre cs k0).trans he) hc k hk (X.1.2.2.2.2 _ lk) (fun _ h9 => h9) hfin hd hn hfit hl hdg (fun H1 locs1 hP hD hS => kk H1 locs1 ⟨cx_set pre cs k0 _ ▸ hP, cx_set pre cs k0 _ ▸ hD, hS⟩)
theorem cx_putF (X : fx_X p m c cc nL s args own D cl tys gw G A) (hw : cx_B D cl A s.heap (pre ++ cs) H locs) (k0 : Nat) {a ci N ix : Nat} {fs : List Value} {C : String} {T : u_T} (he : cs[k0]? = some (a, .inr (ci, fs))) (hc : cl[ci]? = some (C, T, N)) (k : Nat) (hk : k < N) (hin : ∀ w ∈ u_ws C T N, w ∈ gw) (ty0 : Nat → FieldType) (hty : ∀ k, k < N → parseFieldDescriptor (T k).2.2.1 = some (ty0 k)) (hnm : ∀ a, a < N → ∀ b, b < N → a ≠ b → (T a).2.1 ≠ (T b).2.1) (hfin : (T k).2.2.2 = true) (hin2 : meth.name = "<init>") (hdecl : (T k).1 = own)
    {v : Value} {ty : FieldType} (hd : parseFieldDescriptor (T k).2.2.1 = some ty) (hn : narrow ty v = v) (hfit : fits ty v = true) (hl : k < fs.length) (lk : Cond.fieldLink own ix (T k).1 (T k).2.1 (T k).2.2.1 ∈ gw) (hdg : decode cc pc = .ok (.putfield ix, 3))
    (kk : ∀ (H1 : Heap) (locs1 : List Loc), cx_B D cl A s.heap (pre ++ cs.set k0 (a, .inr (ci, fs.set k v))) H1 locs1 → W p l e R s m args below meth c H1 locs1 cells slots Q (F0 m (pc + 3) ls rest)) : W p l e R s m args below meth c H locs cells slots Q (F0 m pc ls (v :: .ref a :: rest)) :=
  va_putF X.1.1 X.1.2.1 X.1.2.2.2.2 hin ty0 hty hnm X.1.2.2.2.1 X.2.1 hw.1 hw.2.1 hw.2.2 (pre.length + k0) ((cx_at pre cs k0).trans he) hc k hk (X.1.2.2.2.2 _ lk) (fun _ h9 => h9) hfin hin2 hdecl hd hn hfit hl hdg (fun H1 locs1 hP hD hS => kk H1 locs1 ⟨cx_set pre cs k0 _ ▸ hP, cx_set pre cs k0 _ ▸ hD, hS⟩)
theorem cx_get (X : fx_X p m c cc nL s args own D cl tys gw G A) (hw : cx_B D cl A s.heap (pre ++ cs) H locs) (k0 : Nat) {a ci N ix : Nat} {fs : List Value} {C : String} {T : u_T} (he : cs[k0]? = some (a, .inr (ci, fs))) (hc : cl[ci]? = some (C, T, N)) (k : Nat) (hk : k < N) (hin : ∀ w ∈ u_ws C T N, w ∈ gw) {v : Value} (hv : fs[k]? = some v) (lk : Cond.fieldLink own ix (T k).1 (T k).2.1 (T k).2.2.1 ∈ gw) (hdg : decode cc pc = .ok (.getfield ix, 3))
    (kk : W p l e R s m args below meth c H locs cells slots Q (F0 m (pc + 3) ls (v :: rest))) : W p l e R s m args below meth c H locs cells slots Q (F0 m pc ls (.ref a :: rest)) :=
  va_get X.1.1 X.1.2.1 X.1.2.2.2.2 hin X.1.2.2.2.1 X.2.1 hw.1 (pre.length + k0) ((cx_at pre cs k0).trans he) hc k hk (X.1.2.2.2.2 _ lk) (fun _ h9 => h9) hv hdg kk
theorem cx_iast (X : fx_X p m c cc nL s args own D cl tys gw G A) (hw : cx_B D cl A s.heap (pre ++ cs) H locs) (k0 t0 : Nat) {a n : Nat} {cI : ClassId} {f : Nat → Int32} (he : cs[k0]? = some (a, .inl (cI, n, .inl f))) (ht : tys[t0]? = some (cI, .int)) {i x : Int32} (hin : vp_in i n) (hdg : decode cc pc = .ok (.iastore, 1))
    (kk : ∀ (H1 : Heap) (locs1 : List Loc), cx_B D cl A s.heap (pre ++ cs.set k0 (a, .inl (cI, n, .inl (upd f i.toNatClampNeg x)))) H1 locs1 → W p l e R s m args below meth c H1 locs1 cells slots Q (F0 m (pc + 1) ls rest)) : W p l e R s m args below meth c H locs cells slots Q (F0 m pc ls (.int x :: .int i :: .ref a :: rest)) :=
  va_iast X.1.1 X.1.2.1 X.2.1 hw.1 hw.2.1 hw.2.2 (pre.length + k0) t0 ((cx_at pre cs k0).trans he) ht hin hdg (fun H1 locs1 hP hD hS => kk H1 locs1 ⟨cx_set pre cs k0 _ ▸ hP, cx_set pre cs k0 _ ▸ hD, hS⟩)
theorem cx_start {y : MethodName} {bytes : ByteArray} {maxL q : Nat} {rm : Room} {As : List Value} {bk : va_E} {z : (Nat → Nat) → va_W} (hGok : ∀ u U : State, u.WarmedH U.vm → G u → G U) (hy : plainName y.cls = true) (hy1 : y.name = "<init>") (hlen : (lg_sl (.ref q :: As)).length ≤ maxL)
    (body : ∀ (p : Program) (e : Env) (s : State) (m : MethodId) (args : Array Value) (below : List Frame) (meth : Method) (c : Code) (A : Nat → Prop) (ls : Array Slot) (pre : va_W) (Q : State → Prop), fx_X p m c bytes maxL s args y.cls D cl tys gw G A → meth.name = "<init>" → cx_B D cl A s.heap (pre ++ [(q, bk)]) s.heap [] → lv_has ls maxL (lv_args 0 (.ref q :: As)) →
      (∀ (u : Nat → Nat) (H : Heap) (locs : List Loc) (ls : Array Slot) (pc cells slots : Nat), cells ≤ rm.cells → slots ≤ rm.slots → decode bytes pc = .ok (.return_, 1) → cx_B D cl A s.heap (pre ++ z u) H locs → W p l e rm s m args below meth c H locs cells slots Q (F0 m pc ls [])) →
      W p l e rm s m args below meth c s.heap [] 0 0 Q (F0 m 0 ls [])) : cx_M l y bytes maxL rm D cl tys gw G q As bk z := by
  intro sz pre
  refine Met.ofW (cc := bytes) (maxL := maxL) (ret := none) hy rfl ?_
  intro p e s m args below meth c s₁ B hml hv
  obtain ⟨rfl, hsz, hP, hK, hD0, hG⟩ := hv
  have hts := atoms_spec (ws := Cond.code y bytes maxL none :: gw) B.pre
  have hown : s.vm.findClass y.cls = some m.cls := findClass_of_methodNamed B.named
  have hlocks := B.notSynchronized
  have hr := B.returns
  have hin : meth.name = "<init>" := (name_of_methodNamed B.named B.method).1.trans hy1
  subst hsz
  have hD := hD0.self (sz := s.heap.size)
  have X : fx_X p m c bytes maxL s (Value.ref q :: As).toArray y.cls D cl tys gw G (va_A (pre ++ [(q, bk)]) s.heap.size) := ⟨⟨B.exec, B.bytes, hml, hown, fun w hw => hts w (List.mem_cons_of_mem _ hw)⟩, hK, fun q h => Or.inr h, hGok, hG⟩
  rw [lg_entry_eq]
  refine body p e s m _ below meth c _ _ pre _ X hin ⟨hP, hD, va_S.rf⟩ (lv_entry (.ref q :: As) hlen) (fun u H locs ls pc cells slots hc hs hd hw => ?_)
  refine W.widen hc hs ?_
  exact W.vret X.1.1 X.1.2.1 hr (fun t ht hW => ⟨⟨u, rfl, trivial, by rw [ht]; exact hw.1, va_K.moved hW.alike X.2.1, hw.2.1⟩, hw.2.2.F ht⟩) hw.2.2.2.2 hd hlocks
theorem cx_pre (X : fx_X p m c cc nL s args own D cl tys gw G A) {q : Nat} {As : List Value} {bk : va_E} (hw : cx_B D cl A s.heap (pre ++ (cs ++ [(q, bk)])) H locs) : PreS s H (va_Pc (.ref q :: As) (fun U => U.heap.size = H.size ∧ va_P D cl ((pre ++ cs) ++ [(q, bk)]) U.heap ∧ va_K D cl tys U ∧ va_D (fun _ => True) ((pre ++ cs) ++ [(q, bk)]) ∧ G U)) (.ref q :: As) := by
  refine ⟨fun a U g mk h => ?_, fun U hU hW => ?_⟩
  · obtain ⟨q0, q1, qP, qK, qD, qG⟩ := h
    exact ⟨q0, q1, qP, va_K.moved (u := U) (U := U.calling g mk a) (Vm.Alike.refl U.vm) qK, qD, X.2.2.2.1 U (U.calling g mk a) (State.WarmedH.refl U) qG⟩
  · refine ⟨rfl, by rw [hU], ?_, va_K.moved hW.alike X.2.1, ?_, X.2.2.2.1 s U hW X.2.2.2.2⟩
    · rw [hU, List.append_assoc]; exact hw.1
    · rw [List.append_assoc]; exact hw.2.1.weaken (fun _ _ _ _ => trivial)
theorem cx_callv {q mc ms : Nat} {As st : List Value} {bk : va_E} {z : (Nat → Nat) → va_W} (X : fx_X p m c cc nL s args own D cl tys gw G A) (hw : cx_B D cl A s.heap (pre ++ (cs ++ [(q, bk)])) H locs)
    (hr : va_Run p l e R s m args below meth c H locs cells slots mc ms (F0 m pc ls st) rest (va_Qv (fun _ : Nat → Nat => True) (fun u t => va_P D cl ((pre ++ cs) ++ z u) t.heap ∧ va_K D cl tys t ∧ va_D (va_A ((pre ++ cs) ++ [(q, bk)]) H.size) ((pre ++ cs) ++ z u)) (va_A ((pre ++ cs) ++ [(q, bk)]) H.size) (Value.ref q :: As).toArray) (va_A ((pre ++ cs) ++ [(q, bk)]) H.size))
    (kk : ∀ (u : Nat → Nat) (H1 : Heap) (locs1 : List Loc), cx_B D cl A s.heap (pre ++ (cs ++ z u)) H1 locs1 → W p l e R s m args below meth c H1 locs1 (cells + mc) (slots + ms) Q (F0 m (pc + 3) ls rest)) : W p l e R s m args below meth c H locs cells slots Q (F0 m pc ls st) := by
  have hfr : ∀ x, va_A ((pre ++ cs) ++ [(q, bk)]) H.size x → A x := by
    intro x h
    rcases h with ⟨k, e, h⟩ | h
    · rw [List.append_assoc] at h
      exact hw.2.1.2 k (x, e) h
    · exact X.2.2.1 x (Nat.le_trans hw.2.2.1 h)
  refine va_callv hr hw.2.2 (fun x _ h => hfr x h) hfr (fun u t H1 locs1 ht hvm _ hB _ _ hS => ?_)
  refine kk u H1 locs1 ⟨?_, ?_, hS⟩
  · rw [← List.append_assoc, ← ht]; exact hB.1
  · rw [← List.append_assoc]; exact hB.2.2.weaken (fun _ x _ h => hfr x.1 h)
/-- a constructor's call -/
theorem cx_call {y : MethodName} {bytes : ByteArray} {maxL q n ix : Nat} {rm : Room} {As st : List Value} {bk : va_E} {z : (Nat → Nat) → va_W} (X : fx_X p m c cc nL s args own D cl tys gw G A) (hw : cx_B D cl A s.heap (pre ++ (cs ++ [(q, bk)])) H locs) (hM : cx_M l y bytes maxL rm D cl tys gw G q As bk z)
    (lk : Cond.methodLink own ix y ∈ gw) (hin : Cond.instanceMethod y ∈ gw) (hini : Cond.initialized y.cls ∈ gw) (hcode : Cond.code y bytes maxL none ∈ gw) (hok : ∀ w ∈ gw, goodWord w = true) (hy1 : y.name = "<init>") (hd : y.cls ≠ "java/lang/invoke/MethodHandle" ∧ y.cls ≠ "java/lang/invoke/VarHandle" ∧ (parseMethodDescriptor y.desc).map (fun d => d.parameters.length) = some n) (hR : rm.frames + 1 ≤ R.frames ∧ 8 + (maxL + 11) + rm.locals ≤ R.locals)
    (hn : As.length = n) (hdg : decode cc pc = .ok (.invokespecial ix, 3)) (hsize : ls.size = nL) (hst : st = As.reverse ++ .ref q :: rest) (hW : 2 * (F0 m pc ls st).monitorRoom + (rest.map fun v => v.category).sum ≤ 8) (hf : cells + rm.cells ≤ R.cells ∧ slots + rm.slots ≤ R.slots)
    (kk : ∀ (u : Nat → Nat) (H1 : Heap) (locs1 : List Loc), cx_B D cl A s.heap (pre ++ (cs ++ z u)) H1 locs1 → W p l e R s m args below meth c H1 locs1 (cells + rm.cells) (slots + rm.slots) Q (F0 m (pc + 3) ls rest)) : W p l e R s m args below meth c H locs cells slots Q (F0 m pc ls st) :=
  cx_callv X hw (va_runI (As := As) (rest := rest) X.1 (hM H.size (pre ++ cs)) (cwI n X.1.2.2.2.2 (fx_good hcode hok) rfl rfl rfl (X.1.2.2.2.2 _ hini) (X.1.2.2.2.2 _ lk) (X.1.2.2.2.2 _ hin) hy1 hd hR) (cx_pre X hw) rfl hn hsize hst hW hdg hf) kk
/-- a nest mate's private one -/
theorem cx_callN {y : MethodName} {bytes : ByteArray} {maxL q n ix : Nat} {rm : Room} {As st : List Value} {bk : va_E} {z : (Nat → Nat) → va_W} {host : String} (X : fx_X p m c cc nL s args own D cl tys gw G A) (hw : cx_B D cl A s.heap (pre ++ (cs ++ [(q, bk)])) H locs) (hM : cx_M l y bytes maxL rm D cl tys gw G q As bk z)
    (lk : va_Nw (.methodLinkNest own ix y host) s) (hin : Cond.instanceMethod y ∈ gw) (hini : Cond.initialized y.cls ∈ gw) (hcode : Cond.code y bytes maxL none ∈ gw) (hok : ∀ w ∈ gw, goodWord w = true) (hy1 : y.name = "<init>") (hd : y.cls ≠ "java/lang/invoke/MethodHandle" ∧ y.cls ≠ "java/lang/invoke/VarHandle" ∧ (parseMethodDescriptor y.desc).map (fun d => d.parameters.length) = some n) (hR : rm.frames + 1 ≤ R.frames ∧ 8 + (maxL + 11) + rm.locals ≤ R.locals)
    (hn : As.length = n) (hdg : decode cc pc = .ok (.invokespecial ix, 3)) (hsize : ls.size = nL) (hst : st = As.reverse ++ .ref q :: rest) (hW : 2 * (F0 m pc ls st).monitorRoom + (rest.map fun v => v.category).sum ≤ 8) (hf : cells + rm.cells ≤ R.cells ∧ slots + rm.slots ≤ R.slots)
    (kk : ∀ (u : Nat → Nat) (H1 : Heap) (locs1 : List Loc), cx_B D cl A s.heap (pre ++ (cs ++ z u)) H1 locs1 → W p l e R s m args below meth c H1 locs1 (cells + rm.cells) (slots + rm.slots) Q (F0 m (pc + 3) ls rest)) : W p l e R s m args below meth c H locs cells slots Q (F0 m pc ls st) :=
  cx_callv X hw (va_runIN (As := As) (rest := rest) X.1 (hM H.size (pre ++ cs)) ⟨va_cnB n X.1.2.2.2.2 (fx_good hcode hok) rfl rfl rfl lk (X.1.2.2.2.2 _ hini) hd hR, hy1, X.1.2.2.2.2 _ hin⟩ (cx_pre X hw) rfl hn hsize hst hW hdg hf) kk
end CX
