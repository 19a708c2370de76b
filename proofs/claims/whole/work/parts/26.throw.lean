/-! METHODS THAT THROW (launches without stack traces): a start seen anew from a later heap, the end by a throw, the callee's throw in the caller's frame, its catching there -/
def fx_ex (k : Nat) : String := match k with
  | 0 => "java/lang/IndexOutOfBoundsException"
  | 1 => "java/lang/IllegalStateException"
  | _ => "java/lang/IllegalArgumentException"
/-- the words on Throwable's statics -/
def fx_hws : List Cond := [.isRef (.static Bundle.tN "UNASSIGNED_STACK" Bundle.steD), .isRef (.static Bundle.tN "SUPPRESSED_SENTINEL" Bundle.listD), .laysStatic Bundle.tN "UNASSIGNED_STACK" Bundle.steD, .laysStatic Bundle.tN "SUPPRESSED_SENTINEL" Bundle.listD]
/-- they hold in every later state that keeps the old cells outside A -/
def fx_HW (A : Nat → Prop) (U : State) (H : Heap) : Prop := ∀ V : State, U.WarmedH V.vm → (∀ q : Nat, q < H.size → ¬ A q → V.heap[q]? = H[q]?) → ∀ w ∈ fx_hws, ∀ a : Array Value, w.before a V = true
theorem fx_HW.narrow {A B : Nat → Prop} {U : State} {H : Heap} (h : fx_HW A U H) (hAB : ∀ q, B q → A q) : fx_HW B U H := fun V hW hk => h V hW (fun q h1 h2 => hk q h1 (fun z => h2 (hAB q z)))
theorem fx_HW.moved {A : Nat → Prop} {U V : State} {H : Heap} (hW : U.WarmedH V.vm) (h : fx_HW A U H) : fx_HW A V H := fun Z hZ hk => h Z (State.WarmedH.trans hW hZ) hk
theorem fx_HW.kept {A : Nat → Prop} {U : State} {H H1 : Heap} (h : fx_HW A U H) (hz : H.size ≤ H1.size) (hq : ∀ q : Nat, q < H.size → ¬ A q → H1[q]? = H[q]?) : fx_HW A U H1 := fun V hW hk => h V hW (fun q h1 h2 => (hk q (Nat.lt_of_lt_of_le h1 hz) h2).trans (hq q h1 h2))
theorem fx_sbn {s t : State} {k n : Nat} (h : s.sameButNew t [] k n) : ∀ q : Nat, q < s.heap.size → t.heap[q]? = s.heap[q]? := by
  intro q hq
  obtain ⟨-, -, -, -, -, h6⟩ := h
  have h1 : s.heap[q]? = some s.heap[q] := Array.getElem?_eq_getElem hq
  obtain ⟨c', g1, g2, g3, g4⟩ := h6 q _ h1
  rw [g1, h1, g2]
  congr 1
  have : c'.slots = (s.heap[q]).slots := by
    apply Array.ext_getElem?
    intro i
    exact g4 i (fun z => by cases z)
  rw [this]
section FXT
variable {p : Program} {l : Launch} {e : Env} {R : Room} {s : State} {m : MethodId} {args : Array Value} {below : List Frame} {meth : Method} {c : Code} {H : Heap} {locs : List Loc} {cells slots : Nat} {Q : State → Prop} {T : State}
variable {cc : ByteArray} {pc nL : Nat} {ls : Array Slot} {rest : List Value} {own : String} {D : va_G} {cl : List vw_C} {tys : List (ClassId × FieldType)} {gw : List Cond} {G : State → Prop} {A : Nat → Prop} {wf : fx_S → va_W} {σ : fx_S}
theorem fx_rebase (X : Stand p l e R s m args below meth c T locs cells slots) {R' : Room} (hf : R'.frames ≤ R.frames) (hl : R'.locals ≤ R.locals) (hc : cells + R'.cells ≤ R.cells) (hs : slots + R'.slots ≤ R.slots) :
    Stand p l e R' ({ s with heap := T.heap, slotsUsed := T.slotsUsed } : State) m args below meth c T [] 0 0 := by
  have hroom := X.room
  refine ⟨X.admits, X.cas, X.clock, X.frames, ?_, X.hears, X.method, X.code, X.here, X.tail, X.warmed, X.limits, X.bytes, ?_⟩
  · have h1 := X.cellsAbove (n := R'.cells) hc
    have h2 := X.slotsAbove (n := R'.slots) hs
    have h3 := X.book
    unfold State.hasRoom at hroom ⊢
    simp only [Bool.and_eq_true, decide_eq_true_eq] at hroom ⊢
    obtain ⟨⟨⟨⟨a1, b1, b2, b3, b4, b5⟩, a3⟩, a4⟩, a5⟩ := hroom
    have k1 : ({ s with heap := T.heap, slotsUsed := T.slotsUsed } : State).localsInUse = s.localsInUse := rfl
    have k2 : ({ s with heap := T.heap, slotsUsed := T.slotsUsed } : State).frames = s.frames := rfl
    have k3 : ({ s with heap := T.heap, slotsUsed := T.slotsUsed } : State).me = s.me := rfl
    rw [k1, k2, k3]
    exact ⟨⟨⟨⟨by omega, by omega, by omega, by omega, by omega, b5⟩, h1⟩, h2⟩, h3⟩
  · obtain ⟨e1, -, -, -, -, -⟩ := X.same
    refine ⟨e1, Nat.le_refl _, Nat.le_refl _, ?_, ?_, ?_⟩
    · show T.slotsUsed = T.slotsUsed + ((T.heap.toList.drop T.heap.size).map (·.slots.size)).sum
      rw [List.drop_eq_nil_of_le (by simp)]
      rfl
    · show ((T.heap.toList.drop T.heap.size).map (·.slots.size)).sum ≤ 0
      rw [List.drop_eq_nil_of_le (by simp)]
      exact Nat.le_refl 0
    · intro a c0 h
      exact ⟨c0, h, rfl, rfl, fun _ _ => rfl⟩
/-- how a method ends that throws an E: the world is σ's -/
def fx_TO (E : String) (D : va_G) (cl : List vw_C) (tys : List (ClassId × FieldType)) (wf : fx_S → va_W) (A : Nat → Prop) (σ : fx_S) (s : State) (o : Outcome) (t : State) : Prop :=
  ∃ (q : Addr) (ce : Cell) (L : List Loc), o = .threw q ∧ t.heap[q]? = some ce ∧ ce.vm = .none ∧ s.vm.findClass E = some ce.cls ∧ s.WarmedH t.vm ∧ s.sameButNew ({ t with vm := s.vm } : State) L 1 6 ∧ (∀ z ∈ L, A z.base) ∧ fx_at D cl tys wf A σ t ∧ va_F A s t
def fx_TQ (below : List Frame) (E : String) (D : va_G) (cl : List vw_C) (tys : List (ClassId × FieldType)) (wf : fx_S → va_W) (A : Nat → Prop) (σ : fx_S) (s : State) : State → Prop := fun t =>
  ∃ o, t.status = .running ∧ Ended t below o ∧ fx_TO E D cl tys wf A σ s o t
/-- q is thrown over the frame g -/
def fx_V (p : Program) (l : Launch) (e : Env) (R : Room) (s : State) (m : MethodId) (args : Array Value) (below : List Frame) (meth : Method) (c : Code) (H : Heap) (locs : List Loc) (cells slots : Nat) (Q : State → Prop) (g : JFrame) (q : Addr) : Prop :=
  ∀ T : State, T.heap = H → Stand p l e R s m args below meth c T locs cells slots → ∃ t, Steps p.tables e below ((T.setTop g).pushFrame (.throwing q)) t ∧ Q t
theorem fx_leave {E : String} {ce : Cell} {q : Addr} (X : fx_X p m c cc nL s args own D cl tys gw G A) (hw : fx_B D cl wf A s.heap σ H locs) (hout : ∀ x ∈ c.exceptionTable.toList, False) (hlocks : meth.locks = false) (hce : H[q]? = some ce) (hcv : ce.vm = .none) (hcl : s.vm.findClass E = some ce.cls) :
    fx_V p l e R s m args below meth c H locs 1 6 (fx_TQ below E D cl tys wf A σ s) (F0 m pc ls rest) q := by
  intro T hT Y
  obtain ⟨st, hrun, hend, hW, hsm⟩ := Y.leaveThrown q (g := F0 m pc ls rest) rfl rfl rfl (fun x hx => (hout x hx).elim) hlocks
  have hh : (T.setFrames (.throwing q :: below)).heap = H := hT
  exact ⟨_, st, .threw q, hrun, hend, q, ce, locs, rfl, by rw [hh]; exact hce, hcv, hcl, hW, hsm, hw.2.2.2.2, ⟨by rw [hh]; exact hw.1, va_K.moved hW.alike X.2.1, hw.2.1⟩, hw.2.2.F hh⟩
theorem fx_ldcwS (hexec : p.tables.exec = Jvm.exec) (hb : c.code = cc) {own tx : String} {index q : Nat} (hown : s.vm.findClass own = some m.cls) (hZ : vk_R own index tx q s) (hdg : decode cc pc = .ok (.ldc_w index, 3))
    (k : W p l e R s m args below meth c H locs cells slots Q (F0 m (pc + 3) ls (.ref q :: rest))) : W p l e R s m args below meth c H locs cells slots Q (F0 m pc ls rest) := by
  intro T hT X
  obtain ⟨t, a1, b1⟩ := k T hT X
  refine ⟨t, ?_, b1⟩
  obtain ⟨k0, cf, i, a', hk, hcf, hcp, -, hr, hev'⟩ := Cond.stringRef_spec hown hZ.1
  cases hZ.2.symm.trans hev'
  obtain ⟨k', hk', he⟩ := X.warmed.alike.2.2 _ _ hk
  have hr' : k'.resolved[index]? = some (some (.string q)) := by
    rcases X.warmed.entry hk hk' index with h | ⟨h, -⟩
    · rw [h]; exact hr
    · rw [hr] at h; cases h
  jvm_step X.here [hexec, hb, hdg, ldc_w.wp_string (e := e) (s := T) (f := F0 m pc ls rest) X.here.top hk' (by rw [he]; exact hcf) hcp hr']
  exact a1
/-- a place where the method throws -/
def fx_tw (gw : List Cond) (G : State → Prop) (own : String) (cc : ByteArray) (pc code fr lo : Nat) : Prop := ∃ (ik is ic : Nat) (text : String) (names : List String) (xs : List Cond),
  decode cc pc = .ok (.new ik, 3) ∧ decode cc (pc + 3) = .ok (.dup, 1) ∧ ((decode cc (pc + 4) = .ok (.ldc is, 2) ∧ decode cc (pc + 6) = .ok (.invokespecial ic, 3) ∧ decode cc (pc + 9) = .ok (.athrow, 1)) ∨ (decode cc (pc + 4) = .ok (.ldc_w is, 3) ∧ decode cc (pc + 7) = .ok (.invokespecial ic, 3) ∧ decode cc (pc + 10) = .ok (.athrow, 1))) ∧
  Bundle.fit (fx_ex code) = true ∧ (∀ n ∈ names, Bundle.fit n = true) ∧ Cond.classLink own ik (fx_ex code) ∈ gw ∧ Cond.initialized (fx_ex code) ∈ gw ∧ (∀ w ∈ xs, w.onTables = true) ∧ (∀ U, G U → ∀ w ∈ xs, va_Nw w U) ∧ (∀ w ∈ Bundle.ownAtoms own ic (fx_ex code) names, w ∈ gw ∨ w ∈ xs ∨ w ∈ fx_hws) ∧ (∀ U, G U → ∃ sa, vk_R own is text sa U) ∧ names.length + 3 < fr ∧ 10 + (13 * (names.length + 1) + 42) ≤ lo
theorem fx_throwAt {code : Nat} (X : fx_X p m c cc nL s args own D cl tys gw G A) (hlt : l.stackTraces = false) (hHW : fx_HW A s s.heap) (hok : ∀ w ∈ gw, goodWord w = true) (hlocks : meth.locks = false) (hout : ∀ x ∈ c.exceptionTable.toList, False) (htw : fx_tw gw G own cc pc code R.frames R.locals)
    (hrest : (rest.map fun v => v.category).sum ≤ 8) (hsize : ls.size = nL) (hc1 : 1 ≤ R.cells) (hs6 : 6 ≤ R.slots) (hw : fx_B D cl wf A s.heap σ H locs) :
    W p l e R s m args below meth c H locs 0 0 (fx_TQ below (fx_ex code) D cl tys wf A σ s) (F0 m pc ls rest) := by
  obtain ⟨ik, is, ic, text, names, xs, d0, d3, dd, hf1, hf2, hk, hini, hxt, hxg, hat, hst, hfr, hlo⟩ := htw
  obtain ⟨sa, hstr⟩ := hst s X.2.2.2.2
  intro T hT Y
  subst hT
  have htr : e.platform.stackTraces = false := (show e.platform.stackTraces = l.stackTraces by rw [Y.admits.platform]).trans hlt
  obtain ⟨s', hs'⟩ : ∃ z, z = ({ s with heap := T.heap, slotsUsed := T.slotsUsed } : State) := ⟨_, rfl⟩
  have Y' := fx_rebase Y (R' := { frames := R.frames, cells := 1, slots := 6, locals := R.locals }) (Nat.le_refl _) (Nat.le_refl _) (by omega) (by omega)
  rw [← hs'] at Y'
  have hvm : s'.vm = s.vm := by rw [hs']
  have hhp : s'.heap = T.heap := by rw [hs']
  have hWs : s.WarmedH s'.vm := by rw [hvm]; exact State.WarmedH.refl s
  have hgw : ∀ w ∈ gw, w.before args s' = true := fun w h => word_at hWs (good_of_word (hok w h)) (X.1.2.2.2.2 w h)
  have hatoms : ∀ w ∈ Bundle.ownAtoms own ic (fx_ex code) names, w.before args s' = true := fun w hw' => by
    rcases hat w hw' with h | h | h
    · exact hgw w h
    · exact va_Nw.use (hxt w h) (va_Nw.same (hxt w h) hvm.symm (hxg s X.2.2.2.2 w h))
    · exact hHW s' hWs (fun q h1 h2 => by rw [hhp]; exact hw.2.2.2.1 q h1 h2) w h args
  have hown' : s'.vm.findClass own = some m.cls := by rw [hvm]; exact X.1.2.2.2.1
  have hins : (Cond.instantiable (fx_ex code) 6).before args s' = true := hatoms _ (by simp [Bundle.ownAtoms])
  obtain ⟨cC, kC0, hfc, -⟩ := Cond.instantiable_spec hins
  have hstr' : vk_R own is text sa s' := vk_R.warm hWs hstr
  have fin : ∀ (H1 : Heap) (kC : Class) (pc6 : Nat), s'.vm.classes[cC]? = some kC → H1[T.heap.size]? = some (blank cC kC) → decode cc pc6 = .ok (.invokespecial ic, 3) → decode cc (pc6 + 3) = .ok (.athrow, 1) →
      W p l e { frames := R.frames, cells := 1, slots := 6, locals := R.locals } s' m args below meth c H1 [] (0 + 1) (0 + 6) (fun U => U.status = .running ∧ Ended U below (.threw T.heap.size) ∧ s'.WarmedH U.vm ∧ s'.sameButNew ({ U with vm := s'.vm } : State) [] 1 6 ∧ ∃ ce, U.heap[T.heap.size]? = some ce ∧ ce.vm = .none ∧ s'.vm.findClass (fx_ex code) = some ce.cls) (F0 m pc6 ls (.ref sa :: .ref T.heap.size :: .ref T.heap.size :: rest)) := by
    intro H1 kC pc6 hkC hbl d6 d9 T2 hT2 Y2
    obtain ⟨U, st, hrun, hend, hWU, hsm, ce, hce, hO⟩ := Y2.ctorThrowS X.1.1 htr hown' hf1 hf2 hatoms (fun x hx => by cases hx) hfc hkC (a := T.heap.size) (by rw [hT2]; exact hbl) (by rw [hhp]; exact Nat.le_refl _) (msg := .ref sa) rfl (g := F0 m pc6 ls (.ref sa :: .ref T.heap.size :: .ref T.heap.size :: rest)) rfl (hsize.trans X.1.2.2.1.symm) rfl rfl (rest := rest) rfl (by rw [X.1.2.1]; exact d6) (by rw [X.1.2.1]; exact d9) (fun x hx => (hout x hx).elim) hfr (by
      show 2 * 0 + _ + _ ≤ R.locals
      have hcat : (Value.ref T.heap.size).category = 1 := rfl
      simp only [List.map_cons, List.sum_cons, hcat]
      omega) hlocks
    exact ⟨U, st, hrun, hend, hWU, hsm, ce, hce, hO.vm, hO.cls⟩
  have key : W p l e { frames := R.frames, cells := 1, slots := 6, locals := R.locals } s' m args below meth c T.heap [] 0 0 (fun U => U.status = .running ∧ Ended U below (.threw T.heap.size) ∧ s'.WarmedH U.vm ∧ s'.sameButNew ({ U with vm := s'.vm } : State) [] 1 6 ∧ ∃ ce, U.heap[T.heap.size]? = some ce ∧ ce.vm = .none ∧ s'.vm.findClass (fx_ex code) = some ce.cls) (F0 m pc ls rest) := by
    refine W.newcK X.1.1 X.1.2.1 hown' (hgw _ hk) hins (hgw _ hini) rfl d0 (Nat.le_refl _) (Nat.le_refl _) hfc rfl (fun H1 kC hkC e1 z1 o1 => ?_)
    show W p l e _ s' m args below meth c H1 [] _ _ _ (F0 m (pc + 3) ls (.ref T.heap.size :: rest))
    refine lv_dup X.1.1 X.1.2.1 d3 rfl ?_
    rcases dd with ⟨d4, d6, d9⟩ | ⟨d4, d6, d9⟩
    · refine va_ldcS X.1.1 X.1.2.1 hown' hstr' d4 ?_
      exact fin H1 kC _ hkC e1 d6 d9
    · refine fx_ldcwS X.1.1 X.1.2.1 hown' hstr' d4 ?_
      exact fin H1 kC _ hkC e1 d6 d9
  obtain ⟨U, st, hrun, hend, hWU, hsm, ce, hce, hcv, hcl⟩ := key T rfl Y'
  have hkept : ∀ q : Nat, q < T.heap.size → U.heap[q]? = T.heap[q]? := fun q hq => by
    have h9 := fx_sbn hsm q (by rw [hhp]; exact hq)
    rw [hhp] at h9
    exact h9
  have hWU' : s.WarmedH U.vm := State.WarmedH.trans hWs hWU
  have hgrow : T.heap.size ≤ U.heap.size := by
    have h9 := hsm.2.1
    rw [hhp] at h9
    exact h9
  refine ⟨U, st, .threw T.heap.size, hrun, hend, T.heap.size, ce, locs, rfl, hce, hcv, by rw [← hvm]; exact hcl, hWU', ?_, hw.2.2.2.2, ⟨hw.1.kept (fun k q hq => hkept _ ((hw.1 k q hq).lt)), va_K.moved hWU'.alike X.2.1, hw.2.1⟩, Nat.le_trans hw.2.2.1 hgrow, fun q h1 h2 => by rw [hkept q (Nat.lt_of_lt_of_le h1 hw.2.2.1)]; exact hw.2.2.2.1 q h1 h2⟩
  have hT' : (T.setVm s.vm).sameButNew ({ U with vm := s.vm } : State) [] 1 6 := by
    obtain ⟨g1, g2, g3, g4, g5, g6⟩ := hsm
    rw [hvm] at g1
    rw [hs'] at g1 g2 g3 g4 g5 g6
    obtain ⟨k1, -⟩ := Y.same
    refine ⟨?_, g2, g3, g4, g5, g6⟩
    have k2 : T.setVm s.vm = ({ s with heap := T.heap, slotsUsed := T.slotsUsed } : State).setFrames (T.setVm s.vm).frames := k1
    rw [k2, State.setFrames_setFrames]
    exact g1
  have h9 := Y.same.trans hT'
  simpa using h9
end FXT
