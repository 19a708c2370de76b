/-- class and out array -/
def lw_w (h : Nat → Nat) (cA : Nat → ClassId) (ho : Nat) (σ : fx_S) (f : Nat → Int64) : va_W := fx_ws h cA σ ++ [(ho, .inl (cA 1, 1, .inr (.inl f)))]
def lh_rm (rm : Room) (nc : Nat) : Room := { frames := rm.frames, cells := nc, slots := 6 * nc, locals := rm.locals }
def lh_Pre (D : va_G) (h : Nat → Nat) (cA : Nat → ClassId) (ho : Nat) (av : List Value) (sz : Nat) (σ : fx_S) (f : Nat → Int64) : Array Value → State → Prop :=
  va_Pc av (fun U => U.heap.size = sz ∧ va_P D fx_cl (lw_w h cA ho σ f) U.heap ∧ va_K D fx_cl (fx_tys cA) U ∧ va_D (fun _ => True) (lw_w h cA ho σ f) ∧ lw_G U ∧ fx_HW (va_A (lw_w h cA ho σ f) sz) U U.heap)
/-- a helper's contract: from σ, f it answers k and leaves σ', f'; nc exceptions are made -/
def lh_M (l : Launch) (y : MethodName) (bytes : ByteArray) (maxL : Nat) (hh : List (Nat × Nat × Nat × Nat)) (rm : Room) (D : va_G) (h : Nat → Nat) (cA : Nat → ClassId) (ho : Nat) (av : List Value) (σ : fx_S) (f : Nat → Int64) (k : Int32) (σ' : fx_S) (f' : Nat → Int64) (nc : Nat) : Prop :=
  ∀ sz : Nat, Met l y (Cond.codeWith y bytes maxL (some .int) hh :: fx_g) (lh_rm rm nc) (lh_Pre D h cA ho av sz σ f) (va_Qi (fun (r : Int32) (u : fx_S × (Nat → Int64)) => (r, u) = (k, (σ', f'))) (fun u t => va_P D fx_cl (lw_w h cA ho u.1 u.2) t.heap ∧ va_K D fx_cl (fx_tys cA) t ∧ va_D (va_A (lw_w h cA ho σ f) sz) (lw_w h cA ho u.1 u.2)) (va_A (lw_w h cA ho σ f) sz)) nc (6 * nc) (va_A (lw_w h cA ho σ f) sz)
theorem lh_start {l : Launch} {y : MethodName} {bytes : ByteArray} {maxL : Nat} {hh : List (Nat × Nat × Nat × Nat)} {rm : Room} {D : va_G} {h : Nat → Nat} {cA : Nat → ClassId} {ho : Nat} {av : List Value} {σ σ' : fx_S} {f f' : Nat → Int64} {k : Int32} {nc : Nat} (hy : plainName y.cls = true) (hlen : (lg_sl av).length ≤ maxL)
    (body : ∀ (p : Program) (e : Env) (s : State) (m : MethodId) (args : Array Value) (below : List Frame) (meth : Method) (c : Code) (A : Nat → Prop) (ls : Array Slot) (Q : State → Prop), fx_X p m c bytes maxL s args y.cls D fx_cl (fx_tys cA) fx_g lw_G A → c.exceptionTable.toList = hh.map (fun q => ({ startPc := q.1, endPc := q.2.1, handlerPc := q.2.2.1, catchType := q.2.2.2 } : ExceptionTableEntry)) → fx_HW A s s.heap → cx_B D fx_cl A s.heap ([] ++ (fx_ws h cA σ ++ [(ho, .inl (cA 1, 1, .inr (.inl f)))])) s.heap [] → lv_has ls maxL (lv_args 0 av) →
      (∀ (H : Heap) (locs : List Loc) (ls : Array Slot) (pc cells slots : Nat), cells ≤ nc → slots ≤ 6 * nc → decode bytes pc = .ok (.ireturn, 1) → cx_B D fx_cl A s.heap ([] ++ (fx_ws h cA σ' ++ [(ho, .inl (cA 1, 1, .inr (.inl f')))])) H locs → W p l e (lh_rm rm nc) s m args below meth c H locs cells slots Q (F0 m pc ls [.int k])) →
      W p l e (lh_rm rm nc) s m args below meth c s.heap [] 0 0 Q (F0 m 0 ls [])) : lh_M l y bytes maxL hh rm D h cA ho av σ f k σ' f' nc := by
  intro sz
  refine va_MetW (cc := bytes) (maxL := maxL) (ret := some .int) (hh := hh) hy rfl ?_
  intro p e s m args below meth c s₁ B hml hv
  obtain ⟨rfl, hsz, hP, hK, hD0, hG, hT⟩ := hv
  have hts := atoms_spec (ws := Cond.codeWith y bytes maxL (some .int) hh :: fx_g) B.pre
  have hown : s.vm.findClass y.cls = some m.cls := findClass_of_methodNamed B.named
  have hlocks := B.notSynchronized
  have hr := B.returns
  have htab : c.exceptionTable.toList = hh.map (fun q => ({ startPc := q.1, endPc := q.2.1, handlerPc := q.2.2.1, catchType := q.2.2.2 } : ExceptionTableEntry)) := by
    obtain ⟨m9, meth9, c9, hn9, h1, h2, -, -, h6, -⟩ := Cond.codeWith_spec (hts _ List.mem_cons_self)
    cases Option.some.inj (hn9.symm.trans B.named)
    cases Option.some.inj (h1.symm.trans B.method)
    cases Option.some.inj (h2.symm.trans (Stand.of_body B).code)
    exact lx_table h6
  subst hsz
  have hD := hD0.self (sz := s.heap.size)
  have X : fx_X p m c bytes maxL s av.toArray y.cls D fx_cl (fx_tys cA) fx_g lw_G (va_A (lw_w h cA ho σ f) s.heap.size) := ⟨⟨B.exec, B.bytes, hml, hown, fun w hw => hts w (List.mem_cons_of_mem _ hw)⟩, hK, fun q h => Or.inr h, lw_G_ok, hG⟩
  rw [lg_entry_eq]
  refine body p e s m _ below meth c _ _ _ X htab hT ⟨hP, hD, va_S.rf⟩ (lv_entry av hlen) (fun H locs ls pc cells slots hc hs hd hw => ?_)
  refine W.widen hc hs ?_
  exact W.iret X.1.1 X.1.2.1 hr (fun t ht hW => ⟨⟨k, (σ', f'), rfl, rfl, by rw [ht]; exact hw.1, va_K.moved hW.alike X.2.1, hw.2.1⟩, hw.2.2.F ht⟩) hw.2.2.2.2 hd hlocks
