/-! THE MODELS' MONAD, and rows that walk a method in step with its model: every value that the machine computes gets a name of its own, the model's equation hF keeps what it is. -/
abbrev fx_S : Type := (Nat → Int32) × (Nat → Nat → Int32) × (Nat → Nat → Int64)
abbrev fx_M (α : Type) : Type := fx_S → Option (α × fx_S)
def fx_ret {α : Type} (a : α) : fx_M α := fun σ => some (a, σ)
def fx_retz (a : Int32) : fx_M Int32 := fun σ => if a = 0 ∨ a = 1 then some (a, σ) else none
def fx_bnd {α β : Type} (m : fx_M α) (k : α → fx_M β) : fx_M β := fun σ => match m σ with
  | none => none
  | some q => k q.1 q.2
def fx_bndx {α β : Type} (m : fx_M (α ⊕ Nat)) (k : α → fx_M (β ⊕ Nat)) : fx_M (β ⊕ Nat) := fun σ => match m σ with
  | none => none
  | some (.inl a, t) => k a t
  | some (.inr e, t) => some (.inr e, t)
def fx_thr {α : Type} (e : Nat) : fx_M (α ⊕ Nat) := fun σ => some (.inr e, σ)
def fx_pur {α : Type} (a : α) : fx_M α := fun σ => some (a, σ)
def fx_gI (r : Nat) : fx_M Int32 := fun σ => some (σ.1 r, σ)
def fx_pI (r : Nat) (v : Int32) : fx_M Unit := fun σ => some ((), (va_up σ.1 r v, σ.2.1, σ.2.2))
def fx_pZ (r : Nat) (v : Int32) : fx_M Unit := fun σ => if v = 0 ∨ v = 1 then some ((), (va_up σ.1 r v, σ.2.1, σ.2.2)) else none
def fx_lA (a n : Nat) (i : Int32) : fx_M Int32 := fun σ => if i < 0 ∨ n ≤ i.toNatClampNeg then none else some (σ.2.1 a i.toNatClampNeg, σ)
def fx_sA (a n : Nat) (i v : Int32) : fx_M Unit := fun σ => if i < 0 ∨ n ≤ i.toNatClampNeg then none else some ((), (σ.1, va_up σ.2.1 a (upd (σ.2.1 a) i.toNatClampNeg v), σ.2.2))
def fx_sZ (a n : Nat) (i v : Int32) : fx_M Unit := fun σ => if i < 0 ∨ n ≤ i.toNatClampNeg then none else some ((), (σ.1, va_up σ.2.1 a (upd (σ.2.1 a) i.toNatClampNeg (vp_nar .boolean v)), σ.2.2))
def fx_lL (a n : Nat) (i : Int32) : fx_M Int64 := fun σ => if i < 0 ∨ n ≤ i.toNatClampNeg then none else some (σ.2.2 a i.toNatClampNeg, σ)
def fx_sL (a n : Nat) (i : Int32) (v : Int64) : fx_M Unit := fun σ => if i < 0 ∨ n ≤ i.toNatClampNeg then none else some ((), (σ.1, σ.2.1, va_up σ.2.2 a (vp_updL (σ.2.2 a) i.toNatClampNeg v)))
def fx_loop0 {R : Type} (b : fx_M R → fx_M R) : Nat → fx_M R
  | 0 => fun _ => none
  | n + 1 => b (fx_loop0 b n)
def fx_loop1 {A1 R : Type} (b : (A1 → fx_M R) → A1 → fx_M R) : Nat → A1 → fx_M R
  | 0 => fun _ _ => none
  | n + 1 => b (fx_loop1 b n)
def fx_loop2 {A1 A2 R : Type} (b : (A1 → A2 → fx_M R) → A1 → A2 → fx_M R) : Nat → A1 → A2 → fx_M R
  | 0 => fun _ _ _ => none
  | n + 1 => b (fx_loop2 b n)
def fx_loop3 {A1 A2 A3 R : Type} (b : (A1 → A2 → A3 → fx_M R) → A1 → A2 → A3 → fx_M R) : Nat → A1 → A2 → A3 → fx_M R
  | 0 => fun _ _ _ _ => none
  | n + 1 => b (fx_loop3 b n)
def fx_loop4 {A1 A2 A3 A4 R : Type} (b : (A1 → A2 → A3 → A4 → fx_M R) → A1 → A2 → A3 → A4 → fx_M R) : Nat → A1 → A2 → A3 → A4 → fx_M R
  | 0 => fun _ _ _ _ _ => none
  | n + 1 => b (fx_loop4 b n)
def fx_loop5 {A1 A2 A3 A4 A5 R : Type} (b : (A1 → A2 → A3 → A4 → A5 → fx_M R) → A1 → A2 → A3 → A4 → A5 → fx_M R) : Nat → A1 → A2 → A3 → A4 → A5 → fx_M R
  | 0 => fun _ _ _ _ _ _ => none
  | n + 1 => b (fx_loop5 b n)
def fx_loop6 {A1 A2 A3 A4 A5 A6 R : Type} (b : (A1 → A2 → A3 → A4 → A5 → A6 → fx_M R) → A1 → A2 → A3 → A4 → A5 → A6 → fx_M R) : Nat → A1 → A2 → A3 → A4 → A5 → A6 → fx_M R
  | 0 => fun _ _ _ _ _ _ _ => none
  | n + 1 => b (fx_loop6 b n)
def fx_retzx (a : Int32) : fx_M (Int32 ⊕ Nat) := fun σ => if a = 0 ∨ a = 1 then some (.inl a, σ) else none
def fx_fuel : Nat := 100000
theorem fx_it {β : Type} {c : Prop} [Decidable c] {a b : fx_M β} {σ : fx_S} {res : β × fx_S} (hc : c) (hF : (if c then a else b) σ = some res) : a σ = some res := by
  rw [if_pos hc] at hF; exact hF
theorem fx_if {β : Type} {c : Prop} [Decidable c] {a b : fx_M β} {σ : fx_S} {res : β × fx_S} (hc : ¬ c) (hF : (if c then a else b) σ = some res) : b σ = some res := by
  rw [if_neg hc] at hF; exact hF
theorem fx_bnd_some {α β : Type} {m : fx_M α} {k : α → fx_M β} {σ : fx_S} {res : β × fx_S} (hF : fx_bnd m k σ = some res) : ∃ q, m σ = some q ∧ k q.1 q.2 = some res := by
  unfold fx_bnd at hF
  split at hF
  · cases hF
  · next q hq => exact ⟨q, hq, hF⟩
theorem fx_lA_some {a n : Nat} {i : Int32} {σ : fx_S} {q : Int32 × fx_S} (h : fx_lA a n i σ = some q) : vp_in i n ∧ q = (σ.2.1 a i.toNatClampNeg, σ) := by
  unfold fx_lA at h
  split at h
  · cases h
  · next hc => exact ⟨hc, (Option.some.inj h).symm⟩
theorem fx_lL_some {a n : Nat} {i : Int32} {σ : fx_S} {q : Int64 × fx_S} (h : fx_lL a n i σ = some q) : vp_in i n ∧ q = (σ.2.2 a i.toNatClampNeg, σ) := by
  unfold fx_lL at h
  split at h
  · cases h
  · next hc => exact ⟨hc, (Option.some.inj h).symm⟩
theorem fx_sA_some {a n : Nat} {i v : Int32} {σ : fx_S} {q : Unit × fx_S} (h : fx_sA a n i v σ = some q) : vp_in i n ∧ q = ((), (σ.1, va_up σ.2.1 a (upd (σ.2.1 a) i.toNatClampNeg v), σ.2.2)) := by
  unfold fx_sA at h
  split at h
  · cases h
  · next hc => exact ⟨hc, (Option.some.inj h).symm⟩
theorem fx_sZ_some {a n : Nat} {i v : Int32} {σ : fx_S} {q : Unit × fx_S} (h : fx_sZ a n i v σ = some q) : vp_in i n ∧ q = ((), (σ.1, va_up σ.2.1 a (upd (σ.2.1 a) i.toNatClampNeg (vp_nar .boolean v)), σ.2.2)) := by
  unfold fx_sZ at h
  split at h
  · cases h
  · next hc => exact ⟨hc, (Option.some.inj h).symm⟩
theorem fx_sL_some {a n : Nat} {i : Int32} {v : Int64} {σ : fx_S} {q : Unit × fx_S} (h : fx_sL a n i v σ = some q) : vp_in i n ∧ q = ((), (σ.1, σ.2.1, va_up σ.2.2 a (vp_updL (σ.2.2 a) i.toNatClampNeg v))) := by
  unfold fx_sL at h
  split at h
  · cases h
  · next hc => exact ⟨hc, (Option.some.inj h).symm⟩
section FX
variable {p : Program} {l : Launch} {e : Env} {R : Room} {s : State} {m : MethodId} {args : Array Value} {below : List Frame} {meth : Method} {c : Code} {H : Heap} {locs : List Loc} {cells slots : Nat} {Q : State → Prop}
variable {cc : ByteArray} {pc nL : Nat} {ls : Array Slot} {rest : List Value} {own : String} {D : va_G} {cl : List vw_C} {tys : List (ClassId × FieldType)} {gw : List Cond} {G : State → Prop} {A : Nat → Prop} {wf : fx_S → va_W} {σ : fx_S} {H0 : Heap} {β : Type} {res : β × fx_S}
/-- what holds all through a method's body -/
def fx_X (p : Program) (m : MethodId) (c : Code) (cc : ByteArray) (nL : Nat) (s : State) (args : Array Value) (own : String) (D : va_G) (cl : List vw_C) (tys : List (ClassId × FieldType)) (gw : List Cond) (G : State → Prop) (A : Nat → Prop) : Prop :=
  CallFix p m c cc nL s args gw own ∧ va_K D cl tys s ∧ (∀ q : Nat, s.heap.size ≤ q → A q) ∧ (∀ u U : State, u.WarmedH U.vm → G u → G U) ∧ G s
/-- the heap is the state's picture -/
def fx_B (D : va_G) (cl : List vw_C) (wf : fx_S → va_W) (A : Nat → Prop) (H0 : Heap) (σ : fx_S) (H : Heap) (locs : List Loc) : Prop :=
  va_P D cl (wf σ) H ∧ va_D A (wf σ) ∧ va_S A H0 H locs
theorem fx_topi {x : Int32} {k : Int32 → fx_M β} (hF : fx_bnd (fx_pur x) k σ = some res) (kk : ∀ y : Int32, k y σ = some res → W p l e R s m args below meth c H locs cells slots Q (F0 m pc ls (.int y :: rest))) : W p l e R s m args below meth c H locs cells slots Q (F0 m pc ls (.int x :: rest)) := kk x hF
theorem fx_topl {x : Int64} {k : Int64 → fx_M β} (hF : fx_bnd (fx_pur x) k σ = some res) (kk : ∀ y : Int64, k y σ = some res → W p l e R s m args below meth c H locs cells slots Q (F0 m pc ls (.long y :: rest))) : W p l e R s m args below meth c H locs cells slots Q (F0 m pc ls (.long x :: rest)) := kk x hF
theorem fx_iinc (hexec : p.tables.exec = Jvm.exec) (hb : c.code = cc) {i k : Nat} {n : Int} {x d : Int32} {lv : List (Nat × Value)} {lv' : Int32 → List (Nat × Value)} {kf : Int32 → fx_M β} (hdg : decode cc pc = .ok (.iinc i n, 3)) (h : lv_has ls nL lv) (hk : lv[k]? = some (i, .int x)) (hv : Int32.ofInt n = d) (hn : i < nL) (hl : ∀ v, (i, Value.int v) :: lv.filter (fun q => !(q.1 == i) && !(q.1 + 1 == i && q.2.category == 2)) = lv' v)
    (hF : fx_bnd (fx_pur (x + d)) kf σ = some res) (kk : ∀ (y : Int32) (ls' : Array Slot), kf y σ = some res → lv_has ls' nL (lv' y) → W p l e R s m args below meth c H locs cells slots Q (F0 m (pc + 3) ls' rest)) : W p l e R s m args below meth c H locs cells slots Q (F0 m pc ls rest) :=
  lv_iinc (v := x + d) hexec hb hdg h hk (by rw [hv]) hn (hl _) (fun ls' hl' => kk _ ls' hF hl')
theorem fx_get (X : fx_X p m c cc nL s args own D cl tys gw G A) (hw : fx_B D cl wf A s.heap σ H locs) (q0 : Nat) {a ci : Nat} {fs : List Value} {C : String} {T : u_T} {N : Nat} (he : (wf σ)[q0]? = some (a, .inr (ci, fs))) (hc : cl[ci]? = some (C, T, N)) (k : Nat) (hk : k < N) (hin : ∀ w ∈ u_ws C T N, w ∈ gw)
    {ix : Nat} {v : Value} (hv : fs[k]? = some v) (lk : Cond.fieldLink own ix (T k).1 (T k).2.1 (T k).2.2.1 ∈ gw) (hdg : decode cc pc = .ok (.getfield ix, 3)) (kk : W p l e R s m args below meth c H locs cells slots Q (F0 m (pc + 3) ls (v :: rest))) : W p l e R s m args below meth c H locs cells slots Q (F0 m pc ls (.ref a :: rest)) :=
  va_get X.1.1 X.1.2.1 X.1.2.2.2.2 hin X.1.2.2.2.1 X.2.1 hw.1 q0 he hc k hk (X.1.2.2.2.2 _ lk) (fun _ h9 => h9) hv hdg kk
theorem fx_put (X : fx_X p m c cc nL s args own D cl tys gw G A) (hw : fx_B D cl wf A s.heap σ H locs) (q0 : Nat) {a ci : Nat} {fs : List Value} {C : String} {T : u_T} {N : Nat} (he : (wf σ)[q0]? = some (a, .inr (ci, fs))) (hc : cl[ci]? = some (C, T, N)) (k : Nat) (hk : k < N) (hin : ∀ w ∈ u_ws C T N, w ∈ gw) (ty0 : Nat → FieldType) (hty : ∀ k, k < N → parseFieldDescriptor (T k).2.2.1 = some (ty0 k)) (hnm : ∀ a, a < N → ∀ b, b < N → a ≠ b → (T a).2.1 ≠ (T b).2.1) (hfin : (T k).2.2.2 = false)
    {ix : Nat} {v : Value} {ty : FieldType} (hd : parseFieldDescriptor (T k).2.2.1 = some ty) (hn : narrow ty v = v) (hfit : fits ty v = true) (hl : k < fs.length) {σ' : fx_S} (hset : (wf σ).set q0 (a, .inr (ci, fs.set k v)) = wf σ') (lk : Cond.fieldLink own ix (T k).1 (T k).2.1 (T k).2.2.1 ∈ gw) (hdg : decode cc pc = .ok (.putfield ix, 3))
    (kk : ∀ (H1 : Heap) (locs1 : List Loc), fx_B D cl wf A s.heap σ' H1 locs1 → W p l e R s m args below meth c H1 locs1 cells slots Q (F0 m (pc + 3) ls rest)) : W p l e R s m args below meth c H locs cells slots Q (F0 m pc ls (v :: .ref a :: rest)) :=
  va_put X.1.1 X.1.2.1 X.1.2.2.2.2 hin ty0 hty hnm X.1.2.2.2.1 X.2.1 hw.1 hw.2.1 hw.2.2 q0 he hc k hk (X.1.2.2.2.2 _ lk) (fun _ h9 => h9) hfin hd hn hfit hl hdg (fun H1 locs1 hP hD hS => kk H1 locs1 ⟨hset ▸ hP, hset ▸ hD, hS⟩)
theorem fx_nz {v : Int32} (h : v = 0 ∨ v = 1) : narrow .boolean (.int v) = .int v ∧ fits .boolean (.int v) = true := by
  rcases h with rfl | rfl <;> exact ⟨rfl, rfl⟩
theorem fx_pZ_some {r : Nat} {v : Int32} {k : Unit → fx_M β} (hF : fx_bnd (fx_pZ r v) k σ = some res) : (v = 0 ∨ v = 1) ∧ k () (va_up σ.1 r v, σ.2.1, σ.2.2) = some res := by
  obtain ⟨q, h1, h2⟩ := fx_bnd_some hF
  unfold fx_pZ at h1
  split at h1
  · next hc => rw [← Option.some.inj h1] at h2; exact ⟨hc, h2⟩
  · cases h1
/-- an int array's element -/
theorem fx_iald (X : fx_X p m c cc nL s args own D cl tys gw G A) (hw : fx_B D cl wf A s.heap σ H locs) (q0 t0 : Nat) {a n b : Nat} {cI : ClassId} (ha : (wf σ)[q0]? = some (a, .inl (cI, n, .inl (σ.2.1 b)))) (ht : tys[t0]? = some (cI, .int)) {i : Int32} (hdg : decode cc pc = .ok (.iaload, 1)) {k : Int32 → fx_M β} (hF : fx_bnd (fx_lA b n i) k σ = some res)
    (kk : ∀ x : Int32, k x σ = some res → W p l e R s m args below meth c H locs cells slots Q (F0 m (pc + 1) ls (.int x :: rest))) : W p l e R s m args below meth c H locs cells slots Q (F0 m pc ls (.int i :: .ref a :: rest)) := by
  obtain ⟨q, h1, h2⟩ := fx_bnd_some hF
  obtain ⟨hin, rfl⟩ := fx_lA_some h1
  exact va_iald X.1.1 X.1.2.1 X.2.1 hw.1 q0 t0 ha ht hin hdg (kk _ h2)
theorem fx_zald (X : fx_X p m c cc nL s args own D cl tys gw G A) (hw : fx_B D cl wf A s.heap σ H locs) (q0 t0 : Nat) {a n b : Nat} {cI : ClassId} (ha : (wf σ)[q0]? = some (a, .inl (cI, n, .inl (σ.2.1 b)))) (ht : tys[t0]? = some (cI, .boolean)) {i : Int32} (hdg : decode cc pc = .ok (.baload, 1)) {k : Int32 → fx_M β} (hF : fx_bnd (fx_lA b n i) k σ = some res)
    (kk : ∀ x : Int32, k x σ = some res → W p l e R s m args below meth c H locs cells slots Q (F0 m (pc + 1) ls (.int x :: rest))) : W p l e R s m args below meth c H locs cells slots Q (F0 m pc ls (.int i :: .ref a :: rest)) := by
  obtain ⟨q, h1, h2⟩ := fx_bnd_some hF
  obtain ⟨hin, rfl⟩ := fx_lA_some h1
  exact va_zald X.1.1 X.1.2.1 X.2.1 hw.1 q0 t0 ha ht hin hdg (kk _ h2)
theorem fx_lald (X : fx_X p m c cc nL s args own D cl tys gw G A) (hw : fx_B D cl wf A s.heap σ H locs) (q0 t0 : Nat) {a n b : Nat} {cI : ClassId} (ha : (wf σ)[q0]? = some (a, .inl (cI, n, .inr (.inl (σ.2.2 b))))) (ht : tys[t0]? = some (cI, .long)) {i : Int32} (hdg : decode cc pc = .ok (.laload, 1)) {k : Int64 → fx_M β} (hF : fx_bnd (fx_lL b n i) k σ = some res)
    (kk : ∀ x : Int64, k x σ = some res → W p l e R s m args below meth c H locs cells slots Q (F0 m (pc + 1) ls (.long x :: rest))) : W p l e R s m args below meth c H locs cells slots Q (F0 m pc ls (.int i :: .ref a :: rest)) := by
  obtain ⟨q, h1, h2⟩ := fx_bnd_some hF
  obtain ⟨hin, rfl⟩ := fx_lL_some h1
  exact va_lald X.1.1 X.1.2.1 X.2.1 hw.1 q0 t0 ha ht hin hdg (kk _ h2)
theorem fx_iast (X : fx_X p m c cc nL s args own D cl tys gw G A) (hw : fx_B D cl wf A s.heap σ H locs) (q0 t0 : Nat) {a n b : Nat} {cI : ClassId} (ha : (wf σ)[q0]? = some (a, .inl (cI, n, .inl (σ.2.1 b)))) (ht : tys[t0]? = some (cI, .int)) (hset : ∀ g : Nat → Int32, (wf σ).set q0 (a, .inl (cI, n, .inl g)) = wf (σ.1, va_up σ.2.1 b g, σ.2.2)) {i v : Int32} (hdg : decode cc pc = .ok (.iastore, 1)) {k : Unit → fx_M β} (hF : fx_bnd (fx_sA b n i v) k σ = some res)
    (kk : ∀ (σ' : fx_S) (H1 : Heap) (locs1 : List Loc), k () σ' = some res → fx_B D cl wf A s.heap σ' H1 locs1 → W p l e R s m args below meth c H1 locs1 cells slots Q (F0 m (pc + 1) ls rest)) : W p l e R s m args below meth c H locs cells slots Q (F0 m pc ls (.int v :: .int i :: .ref a :: rest)) := by
  obtain ⟨q, h1, h2⟩ := fx_bnd_some hF
  obtain ⟨hin, rfl⟩ := fx_sA_some h1
  exact va_iast X.1.1 X.1.2.1 X.2.1 hw.1 hw.2.1 hw.2.2 q0 t0 ha ht hin hdg (fun H1 locs1 hP hD hS => kk _ H1 locs1 h2 ⟨hset _ ▸ hP, hset _ ▸ hD, hS⟩)
theorem fx_zast (X : fx_X p m c cc nL s args own D cl tys gw G A) (hw : fx_B D cl wf A s.heap σ H locs) (q0 t0 : Nat) {a n b : Nat} {cI : ClassId} (ha : (wf σ)[q0]? = some (a, .inl (cI, n, .inl (σ.2.1 b)))) (ht : tys[t0]? = some (cI, .boolean)) (hset : ∀ g : Nat → Int32, (wf σ).set q0 (a, .inl (cI, n, .inl g)) = wf (σ.1, va_up σ.2.1 b g, σ.2.2)) {i v : Int32} (hdg : decode cc pc = .ok (.bastore, 1)) {k : Unit → fx_M β} (hF : fx_bnd (fx_sZ b n i v) k σ = some res)
    (kk : ∀ (σ' : fx_S) (H1 : Heap) (locs1 : List Loc), k () σ' = some res → fx_B D cl wf A s.heap σ' H1 locs1 → W p l e R s m args below meth c H1 locs1 cells slots Q (F0 m (pc + 1) ls rest)) : W p l e R s m args below meth c H locs cells slots Q (F0 m pc ls (.int v :: .int i :: .ref a :: rest)) := by
  obtain ⟨q, h1, h2⟩ := fx_bnd_some hF
  obtain ⟨hin, rfl⟩ := fx_sZ_some h1
  exact va_zast X.1.1 X.1.2.1 X.2.1 hw.1 hw.2.1 hw.2.2 q0 t0 ha ht hin hdg (fun H1 locs1 hP hD hS => kk _ H1 locs1 h2 ⟨hset _ ▸ hP, hset _ ▸ hD, hS⟩)
theorem fx_last (X : fx_X p m c cc nL s args own D cl tys gw G A) (hw : fx_B D cl wf A s.heap σ H locs) (q0 t0 : Nat) {a n b : Nat} {cI : ClassId} (ha : (wf σ)[q0]? = some (a, .inl (cI, n, .inr (.inl (σ.2.2 b))))) (ht : tys[t0]? = some (cI, .long)) (hset : ∀ g : Nat → Int64, (wf σ).set q0 (a, .inl (cI, n, .inr (.inl g))) = wf (σ.1, σ.2.1, va_up σ.2.2 b g)) {i : Int32} {v : Int64} (hdg : decode cc pc = .ok (.lastore, 1)) {k : Unit → fx_M β} (hF : fx_bnd (fx_sL b n i v) k σ = some res)
    (kk : ∀ (σ' : fx_S) (H1 : Heap) (locs1 : List Loc), k () σ' = some res → fx_B D cl wf A s.heap σ' H1 locs1 → W p l e R s m args below meth c H1 locs1 cells slots Q (F0 m (pc + 1) ls rest)) : W p l e R s m args below meth c H locs cells slots Q (F0 m pc ls (.long v :: .int i :: .ref a :: rest)) := by
  obtain ⟨q, h1, h2⟩ := fx_bnd_some hF
  obtain ⟨hin, rfl⟩ := fx_sL_some h1
  exact va_last X.1.1 X.1.2.1 X.2.1 hw.1 hw.2.1 hw.2.2 q0 t0 ha ht hin hdg (fun H1 locs1 hP hD hS => kk _ H1 locs1 h2 ⟨hset _ ▸ hP, hset _ ▸ hD, hS⟩)
/-! contracts -/
def fx_Pre (D : va_G) (cl : List vw_C) (tys : List (ClassId × FieldType)) (G : State → Prop) (wf : fx_S → va_W) (av : List Value) (sz : Nat) (σ : fx_S) : Array Value → State → Prop :=
  va_Pc av (fun U => U.heap.size = sz ∧ va_P D cl (wf σ) U.heap ∧ va_K D cl tys U ∧ va_D (fun _ => True) (wf σ) ∧ G U)
def fx_at (D : va_G) (cl : List vw_C) (tys : List (ClassId × FieldType)) (wf : fx_S → va_W) (A : Nat → Prop) (u : fx_S) (t : State) : Prop :=
  va_P D cl (wf u) t.heap ∧ va_K D cl tys t ∧ va_D A (wf u)
def fx_Mi (l : Launch) (y : MethodName) (bytes : ByteArray) (maxL : Nat) (ret : Option FieldType) (rm : Room) (D : va_G) (cl : List vw_C) (tys : List (ClassId × FieldType)) (gw : List Cond) (G : State → Prop) (wf : fx_S → va_W) (av : List Value) (F : fx_M Int32) : Prop :=
  ∀ (sz : Nat) (σ : fx_S) (res : Int32 × fx_S), F σ = some res → Met l y (Cond.code y bytes maxL ret :: gw) rm (fx_Pre D cl tys G wf av sz σ) (va_Qi (fun (r : Int32) (u : fx_S) => (r, u) = res) (fx_at D cl tys wf (va_A (wf σ) sz)) (va_A (wf σ) sz)) 0 0 (va_A (wf σ) sz)
def fx_Ml (l : Launch) (y : MethodName) (bytes : ByteArray) (maxL : Nat) (ret : Option FieldType) (rm : Room) (D : va_G) (cl : List vw_C) (tys : List (ClassId × FieldType)) (gw : List Cond) (G : State → Prop) (wf : fx_S → va_W) (av : List Value) (F : fx_M Int64) : Prop :=
  ∀ (sz : Nat) (σ : fx_S) (res : Int64 × fx_S), F σ = some res → Met l y (Cond.code y bytes maxL ret :: gw) rm (fx_Pre D cl tys G wf av sz σ) (va_Ql (fun (r : Int64) (u : fx_S) => (r, u) = res) (fx_at D cl tys wf (va_A (wf σ) sz)) (va_A (wf σ) sz)) 0 0 (va_A (wf σ) sz)
def fx_Mv (l : Launch) (y : MethodName) (bytes : ByteArray) (maxL : Nat) (ret : Option FieldType) (rm : Room) (D : va_G) (cl : List vw_C) (tys : List (ClassId × FieldType)) (gw : List Cond) (G : State → Prop) (wf : fx_S → va_W) (av : List Value) (F : fx_M Unit) : Prop :=
  ∀ (sz : Nat) (σ : fx_S) (res : Unit × fx_S), F σ = some res → Met l y (Cond.code y bytes maxL ret :: gw) rm (fx_Pre D cl tys G wf av sz σ) (va_Qv (fun (u : fx_S) => u = res.2) (fx_at D cl tys wf (va_A (wf σ) sz)) (va_A (wf σ) sz)) 0 0 (va_A (wf σ) sz)
/-! ends -/
theorem fx_end_i {r : Int32} {res : Int32 × fx_S} (X : fx_X p m c cc nL s args own D cl tys gw G A) (hw : fx_B D cl wf A s.heap σ H locs) (hr : meth.sig.returnType = some .int) (hlocks : meth.locks = false) (hdg : decode cc pc = .ok (.ireturn, 1)) (hF : fx_ret r σ = some res) :
    W p l e R s m args below meth c H locs 0 0 (MQ below (va_Qi (fun (r : Int32) (u : fx_S) => (r, u) = res) (fx_at D cl tys wf A) A) args s 0 0 A) (F0 m pc ls [.int r]) := by
  have h1 : (r, σ) = res := Option.some.inj hF
  exact W.iret X.1.1 X.1.2.1 hr (fun t ht hW => ⟨⟨r, σ, rfl, h1, by rw [ht]; exact hw.1, va_K.moved hW.alike X.2.1, hw.2.1⟩, hw.2.2.F ht⟩) hw.2.2.2.2 hdg hlocks
theorem fx_end_z {r : Int32} {res : Int32 × fx_S} (X : fx_X p m c cc nL s args own D cl tys gw G A) (hw : fx_B D cl wf A s.heap σ H locs) (hr : meth.sig.returnType = some .boolean) (hlocks : meth.locks = false) (hdg : decode cc pc = .ok (.ireturn, 1)) (hF : fx_retz r σ = some res) :
    W p l e R s m args below meth c H locs 0 0 (MQ below (va_Qi (fun (r : Int32) (u : fx_S) => (r, u) = res) (fx_at D cl tys wf A) A) args s 0 0 A) (F0 m pc ls [.int r]) := by
  unfold fx_retz at hF
  split at hF
  · next hc =>
    have h1 : (r, σ) = res := Option.some.inj hF
    exact W.zret X.1.1 X.1.2.1 hr (fx_nz hc).1 (fun t ht hW => ⟨⟨r, σ, rfl, h1, by rw [ht]; exact hw.1, va_K.moved hW.alike X.2.1, hw.2.1⟩, hw.2.2.F ht⟩) hw.2.2.2.2 hdg hlocks
  · cases hF
theorem fx_end_l {r : Int64} {res : Int64 × fx_S} (X : fx_X p m c cc nL s args own D cl tys gw G A) (hw : fx_B D cl wf A s.heap σ H locs) (hr : meth.sig.returnType = some .long) (hlocks : meth.locks = false) (hdg : decode cc pc = .ok (.lreturn, 1)) (hF : fx_ret r σ = some res) :
    W p l e R s m args below meth c H locs 0 0 (MQ below (va_Ql (fun (r : Int64) (u : fx_S) => (r, u) = res) (fx_at D cl tys wf A) A) args s 0 0 A) (F0 m pc ls [.long r]) := by
  have h1 : (r, σ) = res := Option.some.inj hF
  exact W.lret X.1.1 X.1.2.1 hr (fun t ht hW => ⟨⟨r, σ, rfl, h1, by rw [ht]; exact hw.1, va_K.moved hW.alike X.2.1, hw.2.1⟩, hw.2.2.F ht⟩) hw.2.2.2.2 hdg hlocks
theorem fx_end_v {res : Unit × fx_S} (X : fx_X p m c cc nL s args own D cl tys gw G A) (hw : fx_B D cl wf A s.heap σ H locs) (hr : meth.sig.returnType = none) (hlocks : meth.locks = false) (hdg : decode cc pc = .ok (.return_, 1)) (hF : fx_ret () σ = some res) :
    W p l e R s m args below meth c H locs 0 0 (MQ below (va_Qv (fun (u : fx_S) => u = res.2) (fx_at D cl tys wf A) A) args s 0 0 A) (F0 m pc ls []) := by
  have h1 : ((), σ) = res := Option.some.inj hF
  exact W.vret X.1.1 X.1.2.1 hr (fun t ht hW => ⟨⟨σ, rfl, by rw [← h1], by rw [ht]; exact hw.1, va_K.moved hW.alike X.2.1, hw.2.1⟩, hw.2.2.F ht⟩) hw.2.2.2.2 hdg hlocks
/-- what a body is given: its end, at a return -/
def fx_Ei (p : Program) (l : Launch) (e : Env) (R : Room) (s : State) (m : MethodId) (args : Array Value) (below : List Frame) (meth : Method) (c : Code) (bytes : ByteArray) (D : va_G) (cl : List vw_C) (wf : fx_S → va_W) (A : Nat → Prop) (Q : State → Prop) (res : Int32 × fx_S) : Prop :=
  ∀ (r : Int32) (σ : fx_S) (H : Heap) (locs : List Loc) (ls : Array Slot) (pc : Nat), decode bytes pc = .ok (.ireturn, 1) → fx_ret r σ = some res → fx_B D cl wf A s.heap σ H locs → W p l e R s m args below meth c H locs 0 0 Q (F0 m pc ls [.int r])
def fx_Ez (p : Program) (l : Launch) (e : Env) (R : Room) (s : State) (m : MethodId) (args : Array Value) (below : List Frame) (meth : Method) (c : Code) (bytes : ByteArray) (D : va_G) (cl : List vw_C) (wf : fx_S → va_W) (A : Nat → Prop) (Q : State → Prop) (res : Int32 × fx_S) : Prop :=
  ∀ (r : Int32) (σ : fx_S) (H : Heap) (locs : List Loc) (ls : Array Slot) (pc : Nat), decode bytes pc = .ok (.ireturn, 1) → fx_retz r σ = some res → fx_B D cl wf A s.heap σ H locs → W p l e R s m args below meth c H locs 0 0 Q (F0 m pc ls [.int r])
def fx_El (p : Program) (l : Launch) (e : Env) (R : Room) (s : State) (m : MethodId) (args : Array Value) (below : List Frame) (meth : Method) (c : Code) (bytes : ByteArray) (D : va_G) (cl : List vw_C) (wf : fx_S → va_W) (A : Nat → Prop) (Q : State → Prop) (res : Int64 × fx_S) : Prop :=
  ∀ (r : Int64) (σ : fx_S) (H : Heap) (locs : List Loc) (ls : Array Slot) (pc : Nat), decode bytes pc = .ok (.lreturn, 1) → fx_ret r σ = some res → fx_B D cl wf A s.heap σ H locs → W p l e R s m args below meth c H locs 0 0 Q (F0 m pc ls [.long r])
def fx_Ev (p : Program) (l : Launch) (e : Env) (R : Room) (s : State) (m : MethodId) (args : Array Value) (below : List Frame) (meth : Method) (c : Code) (bytes : ByteArray) (D : va_G) (cl : List vw_C) (wf : fx_S → va_W) (A : Nat → Prop) (Q : State → Prop) (res : Unit × fx_S) : Prop :=
  ∀ (σ : fx_S) (H : Heap) (locs : List Loc) (ls : Array Slot) (pc : Nat), decode bytes pc = .ok (.return_, 1) → fx_ret () σ = some res → fx_B D cl wf A s.heap σ H locs → W p l e R s m args below meth c H locs 0 0 Q (F0 m pc ls [])
theorem fx_start {y : MethodName} {bytes : ByteArray} {maxL : Nat} {ret : Option FieldType} {rm : Room} {av : List Value} {sz mc ms : Nat} {Qc : (Nat → Prop) → Array Value → State → Outcome → State → Prop} (hGok : ∀ u U : State, u.WarmedH U.vm → G u → G U) (hy : plainName y.cls = true) (hlen : (lg_sl av).length ≤ maxL)
    (body : ∀ (p : Program) (e : Env) (s : State) (m : MethodId) (args : Array Value) (below : List Frame) (meth : Method) (c : Code) (A : Nat → Prop) (ls : Array Slot), fx_X p m c bytes maxL s args y.cls D cl tys gw G A → meth.sig.returnType = ret → meth.locks = false → fx_B D cl wf A s.heap σ s.heap [] → lv_has ls maxL (lv_args 0 av) →
      W p l e rm s m args below meth c s.heap [] 0 0 (MQ below (Qc A) args s mc ms A) (F0 m 0 ls [])) :
    Met l y (Cond.code y bytes maxL ret :: gw) rm (fx_Pre D cl tys G wf av sz σ) (Qc (va_A (wf σ) sz)) mc ms (va_A (wf σ) sz) := by
  refine Met.ofW (cc := bytes) (maxL := maxL) (ret := ret) hy rfl ?_
  intro p e s m args below meth c s₁ B hml hv
  obtain ⟨rfl, hsz, hP, hK, hD0, hG⟩ := hv
  have hts := atoms_spec (ws := Cond.code y bytes maxL ret :: gw) B.pre
  have hown : s.vm.findClass y.cls = some m.cls := findClass_of_methodNamed B.named
  have hlocks := B.notSynchronized
  subst hsz
  have hD := hD0.self (sz := s.heap.size)
  rw [lg_entry_eq]
  exact body p e s m _ below meth c _ _ ⟨⟨B.exec, B.bytes, hml, hown, fun w hw => hts w (List.mem_cons_of_mem _ hw)⟩, hK, fun q h => Or.inr h, hGok, hG⟩ B.returns hlocks ⟨hP, hD, va_S.rf⟩ (lv_entry av hlen)
theorem fx_start_i {y : MethodName} {bytes : ByteArray} {maxL : Nat} {rm : Room} {av : List Value} {F : fx_M Int32} (hGok : ∀ u U : State, u.WarmedH U.vm → G u → G U) (hy : plainName y.cls = true) (hlen : (lg_sl av).length ≤ maxL)
    (body : ∀ (p : Program) (e : Env) (s : State) (m : MethodId) (args : Array Value) (below : List Frame) (meth : Method) (c : Code) (A : Nat → Prop) (ls : Array Slot) (σ : fx_S) (res : Int32 × fx_S) (Q : State → Prop), F σ = some res → fx_X p m c bytes maxL s args y.cls D cl tys gw G A → fx_B D cl wf A s.heap σ s.heap [] → lv_has ls maxL (lv_args 0 av) → fx_Ei p l e rm s m args below meth c bytes D cl wf A Q res →
      W p l e rm s m args below meth c s.heap [] 0 0 Q (F0 m 0 ls [])) :
    fx_Mi l y bytes maxL (some .int) rm D cl tys gw G wf av F := fun sz σ res hF => fx_start (Qc := fun A => va_Qi (fun (r : Int32) (u : fx_S) => (r, u) = res) (fx_at D cl tys wf A) A) hGok hy hlen (fun p e s m args below meth c A ls X hr hlocks hw hl => body p e s m args below meth c A ls σ res _ hF X hw hl (fun r σ H locs ls pc hd h1 h2 => fx_end_i X h2 hr hlocks hd h1))
theorem fx_start_z {y : MethodName} {bytes : ByteArray} {maxL : Nat} {rm : Room} {av : List Value} {F : fx_M Int32} (hGok : ∀ u U : State, u.WarmedH U.vm → G u → G U) (hy : plainName y.cls = true) (hlen : (lg_sl av).length ≤ maxL)
    (body : ∀ (p : Program) (e : Env) (s : State) (m : MethodId) (args : Array Value) (below : List Frame) (meth : Method) (c : Code) (A : Nat → Prop) (ls : Array Slot) (σ : fx_S) (res : Int32 × fx_S) (Q : State → Prop), F σ = some res → fx_X p m c bytes maxL s args y.cls D cl tys gw G A → fx_B D cl wf A s.heap σ s.heap [] → lv_has ls maxL (lv_args 0 av) → fx_Ez p l e rm s m args below meth c bytes D cl wf A Q res →
      W p l e rm s m args below meth c s.heap [] 0 0 Q (F0 m 0 ls [])) :
    fx_Mi l y bytes maxL (some .boolean) rm D cl tys gw G wf av F := fun sz σ res hF => fx_start (Qc := fun A => va_Qi (fun (r : Int32) (u : fx_S) => (r, u) = res) (fx_at D cl tys wf A) A) hGok hy hlen (fun p e s m args below meth c A ls X hr hlocks hw hl => body p e s m args below meth c A ls σ res _ hF X hw hl (fun r σ H locs ls pc hd h1 h2 => fx_end_z X h2 hr hlocks hd h1))
theorem fx_start_l {y : MethodName} {bytes : ByteArray} {maxL : Nat} {rm : Room} {av : List Value} {F : fx_M Int64} (hGok : ∀ u U : State, u.WarmedH U.vm → G u → G U) (hy : plainName y.cls = true) (hlen : (lg_sl av).length ≤ maxL)
    (body : ∀ (p : Program) (e : Env) (s : State) (m : MethodId) (args : Array Value) (below : List Frame) (meth : Method) (c : Code) (A : Nat → Prop) (ls : Array Slot) (σ : fx_S) (res : Int64 × fx_S) (Q : State → Prop), F σ = some res → fx_X p m c bytes maxL s args y.cls D cl tys gw G A → fx_B D cl wf A s.heap σ s.heap [] → lv_has ls maxL (lv_args 0 av) → fx_El p l e rm s m args below meth c bytes D cl wf A Q res →
      W p l e rm s m args below meth c s.heap [] 0 0 Q (F0 m 0 ls [])) :
    fx_Ml l y bytes maxL (some .long) rm D cl tys gw G wf av F := fun sz σ res hF => fx_start (Qc := fun A => va_Ql (fun (r : Int64) (u : fx_S) => (r, u) = res) (fx_at D cl tys wf A) A) hGok hy hlen (fun p e s m args below meth c A ls X hr hlocks hw hl => body p e s m args below meth c A ls σ res _ hF X hw hl (fun r σ H locs ls pc hd h1 h2 => fx_end_l X h2 hr hlocks hd h1))
theorem fx_start_v {y : MethodName} {bytes : ByteArray} {maxL : Nat} {rm : Room} {av : List Value} {F : fx_M Unit} (hGok : ∀ u U : State, u.WarmedH U.vm → G u → G U) (hy : plainName y.cls = true) (hlen : (lg_sl av).length ≤ maxL)
    (body : ∀ (p : Program) (e : Env) (s : State) (m : MethodId) (args : Array Value) (below : List Frame) (meth : Method) (c : Code) (A : Nat → Prop) (ls : Array Slot) (σ : fx_S) (res : Unit × fx_S) (Q : State → Prop), F σ = some res → fx_X p m c bytes maxL s args y.cls D cl tys gw G A → fx_B D cl wf A s.heap σ s.heap [] → lv_has ls maxL (lv_args 0 av) → fx_Ev p l e rm s m args below meth c bytes D cl wf A Q res →
      W p l e rm s m args below meth c s.heap [] 0 0 Q (F0 m 0 ls [])) :
    fx_Mv l y bytes maxL none rm D cl tys gw G wf av F := fun sz σ res hF => fx_start (Qc := fun A => va_Qv (fun (u : fx_S) => u = res.2) (fx_at D cl tys wf A) A) hGok hy hlen (fun p e s m args below meth c A ls X hr hlocks hw hl => body p e s m args below meth c A ls σ res _ hF X hw hl (fun σ H locs ls pc hd h1 h2 => fx_end_v X h2 hr hlocks hd h1))
/-! calls -/
theorem fx_blind {av : List Value} {sz : Nat} (hGok : ∀ u U : State, u.WarmedH U.vm → G u → G U) : FrameBlind (fx_Pre D cl tys G wf av sz σ) := by
  intro a U g mk q
  obtain ⟨q0, q1, qP, qK, qD, qG⟩ := q
  exact ⟨q0, q1, qP, va_K.moved (u := U) (U := U.calling g mk a) (Vm.Alike.refl U.vm) qK, qD, hGok U (U.calling g mk a) (State.WarmedH.refl U) qG⟩
theorem fx_pre {av : List Value} (X : fx_X p m c cc nL s args own D cl tys gw G A) (hw : fx_B D cl wf A s.heap σ H locs) : ∀ U : State, U.heap = H → s.WarmedH U.vm → fx_Pre D cl tys G wf av H.size σ av.toArray U :=
  fun U hU hW => ⟨rfl, by rw [hU], by rw [hU]; exact hw.1, va_K.moved hW.alike X.2.1, hw.2.1.weaken (fun _ _ _ _ => trivial), X.2.2.2.1 s U hW X.2.2.2.2⟩
theorem fx_fr (X : fx_X p m c cc nL s args own D cl tys gw G A) (hw : fx_B D cl wf A s.heap σ H locs) : ∀ q, va_A (wf σ) H.size q → A q := by
  intro q h
  rcases h with ⟨k, e, h⟩ | h
  · exact hw.2.1.2 k (q, e) h
  · exact X.2.2.1 q (Nat.le_trans hw.2.2.1 h)
theorem fx_back {σ' : fx_S} {t : State} {H1 : Heap} {locs1 : List Loc} (hfr : ∀ q, va_A (wf σ) H.size q → A q) (ht : t.heap = H1) (hB : fx_at D cl tys wf (va_A (wf σ) H.size) σ' t) (hS : va_S A H0 H1 locs1) : fx_B D cl wf A H0 σ' H1 locs1 :=
  ⟨ht ▸ hB.1, hB.2.2.weaken (fun _ q _ h => hfr q.1 h), hS⟩
theorem fx_call_i {y : MethodName} {bytes : ByteArray} {maxL : Nat} {ret : Option FieldType} {rm : Room} {F : fx_M Int32} {b : Addr} {As : List Value} {n ix : Nat} {C : String} {k : Int32 → fx_M β} {st : List Value}
    (X : fx_X p m c cc nL s args own D cl tys gw G A) (hw : fx_B D cl wf A s.heap σ H locs) (hM : fx_Mi l y bytes maxL ret rm D cl tys gw G wf (.ref b :: As) F) (cw : CallW R s args own C ix y bytes maxL ret (Cond.code y bytes maxL ret :: gw) rm 0 0 n)
    (hrecv : ∃ cellB : Cell, H[b]? = some cellB ∧ cellB.vm.isStatics = false ∧ s.vm.findClass C = some cellB.cls) (hn : As.length = n) (hdg : decode cc pc = .ok (.invokevirtual ix, 3)) (hsize : ls.size = nL) (hst : st = As.reverse ++ .ref b :: rest) (hW : 2 * (F0 m pc ls st).monitorRoom + (rest.map fun v => v.category).sum ≤ 8) (hf : cells ≤ R.cells ∧ slots ≤ R.slots)
    (hF : fx_bnd F k σ = some res) (kk : ∀ (r : Int32) (σ' : fx_S) (H' : Heap) (locs' : List Loc), k r σ' = some res → fx_B D cl wf A s.heap σ' H' locs' → W p l e R s m args below meth c H' locs' cells slots Q (F0 m (pc + 3) ls (.int r :: rest))) :
    W p l e R s m args below meth c H locs cells slots Q (F0 m pc ls st) := by
  obtain ⟨⟨r0, σ1⟩, h1, h2⟩ := fx_bnd_some hF
  have hfr := fx_fr X hw
  refine va_calli (va_runV (As := As) (rest := rest) X.1 (hM H.size σ (r0, σ1) h1) cw ⟨fx_blind X.2.2.2.1, hrecv, fx_pre X hw⟩ rfl hn hsize hst hW hdg hf) hw.2.2 (fun q _ h => hfr q h) hfr (fun r u t H1 locs1 ht hvm hp hB _ _ hS => ?_)
  cases hp
  exact kk _ _ H1 locs1 h2 (fx_back hfr ht hB hS)
theorem fx_call_l {y : MethodName} {bytes : ByteArray} {maxL : Nat} {ret : Option FieldType} {rm : Room} {F : fx_M Int64} {b : Addr} {As : List Value} {n ix : Nat} {C : String} {k : Int64 → fx_M β} {st : List Value}
    (X : fx_X p m c cc nL s args own D cl tys gw G A) (hw : fx_B D cl wf A s.heap σ H locs) (hM : fx_Ml l y bytes maxL ret rm D cl tys gw G wf (.ref b :: As) F) (cw : CallW R s args own C ix y bytes maxL ret (Cond.code y bytes maxL ret :: gw) rm 0 0 n)
    (hrecv : ∃ cellB : Cell, H[b]? = some cellB ∧ cellB.vm.isStatics = false ∧ s.vm.findClass C = some cellB.cls) (hn : As.length = n) (hdg : decode cc pc = .ok (.invokevirtual ix, 3)) (hsize : ls.size = nL) (hst : st = As.reverse ++ .ref b :: rest) (hW : 2 * (F0 m pc ls st).monitorRoom + (rest.map fun v => v.category).sum ≤ 8) (hf : cells ≤ R.cells ∧ slots ≤ R.slots)
    (hF : fx_bnd F k σ = some res) (kk : ∀ (r : Int64) (σ' : fx_S) (H' : Heap) (locs' : List Loc), k r σ' = some res → fx_B D cl wf A s.heap σ' H' locs' → W p l e R s m args below meth c H' locs' cells slots Q (F0 m (pc + 3) ls (.long r :: rest))) :
    W p l e R s m args below meth c H locs cells slots Q (F0 m pc ls st) := by
  obtain ⟨⟨r0, σ1⟩, h1, h2⟩ := fx_bnd_some hF
  have hfr := fx_fr X hw
  refine va_calll (va_runV (As := As) (rest := rest) X.1 (hM H.size σ (r0, σ1) h1) cw ⟨fx_blind X.2.2.2.1, hrecv, fx_pre X hw⟩ rfl hn hsize hst hW hdg hf) hw.2.2 (fun q _ h => hfr q h) hfr (fun r u t H1 locs1 ht hvm hp hB _ _ hS => ?_)
  cases hp
  exact kk _ _ H1 locs1 h2 (fx_back hfr ht hB hS)
theorem fx_call_v {y : MethodName} {bytes : ByteArray} {maxL : Nat} {ret : Option FieldType} {rm : Room} {F : fx_M Unit} {b : Addr} {As : List Value} {n ix : Nat} {C : String} {k : Unit → fx_M β} {st : List Value}
    (X : fx_X p m c cc nL s args own D cl tys gw G A) (hw : fx_B D cl wf A s.heap σ H locs) (hM : fx_Mv l y bytes maxL ret rm D cl tys gw G wf (.ref b :: As) F) (cw : CallW R s args own C ix y bytes maxL ret (Cond.code y bytes maxL ret :: gw) rm 0 0 n)
    (hrecv : ∃ cellB : Cell, H[b]? = some cellB ∧ cellB.vm.isStatics = false ∧ s.vm.findClass C = some cellB.cls) (hn : As.length = n) (hdg : decode cc pc = .ok (.invokevirtual ix, 3)) (hsize : ls.size = nL) (hst : st = As.reverse ++ .ref b :: rest) (hW : 2 * (F0 m pc ls st).monitorRoom + (rest.map fun v => v.category).sum ≤ 8) (hf : cells ≤ R.cells ∧ slots ≤ R.slots)
    (hF : fx_bnd F k σ = some res) (kk : ∀ (σ' : fx_S) (H' : Heap) (locs' : List Loc), k () σ' = some res → fx_B D cl wf A s.heap σ' H' locs' → W p l e R s m args below meth c H' locs' cells slots Q (F0 m (pc + 3) ls rest)) :
    W p l e R s m args below meth c H locs cells slots Q (F0 m pc ls st) := by
  obtain ⟨⟨r0, σ1⟩, h1, h2⟩ := fx_bnd_some hF
  have hfr := fx_fr X hw
  refine va_callv (va_runV (As := As) (rest := rest) X.1 (hM H.size σ (r0, σ1) h1) cw ⟨fx_blind X.2.2.2.1, hrecv, fx_pre X hw⟩ rfl hn hsize hst hW hdg hf) hw.2.2 (fun q _ h => hfr q h) hfr (fun u t H1 locs1 ht hvm hp hB _ _ hS => ?_)
  cases hp
  exact kk _ H1 locs1 h2 (fx_back hfr ht hB hS)
theorem fx_calls_i {y : MethodName} {bytes : ByteArray} {maxL : Nat} {ret : Option FieldType} {rm : Room} {F : fx_M Int32} {As : List Value} {n ix : Nat} {k : Int32 → fx_M β} {st : List Value}
    (X : fx_X p m c cc nL s args own D cl tys gw G A) (hw : fx_B D cl wf A s.heap σ H locs) (hM : fx_Mi l y bytes maxL ret rm D cl tys gw G wf As F) (cw : CallB R s args own ix y bytes maxL ret (Cond.code y bytes maxL ret :: gw) rm 0 0 n ∧ (Cond.static y).before args s = true)
    (hn : As.length = n) (hdg : decode cc pc = .ok (.invokestatic ix, 3)) (hsize : ls.size = nL) (hst : st = As.reverse ++ rest) (hW : 2 * (F0 m pc ls st).monitorRoom + (rest.map fun v => v.category).sum ≤ 8) (hf : cells ≤ R.cells ∧ slots ≤ R.slots)
    (hF : fx_bnd F k σ = some res) (kk : ∀ (r : Int32) (σ' : fx_S) (H' : Heap) (locs' : List Loc), k r σ' = some res → fx_B D cl wf A s.heap σ' H' locs' → W p l e R s m args below meth c H' locs' cells slots Q (F0 m (pc + 3) ls (.int r :: rest))) :
    W p l e R s m args below meth c H locs cells slots Q (F0 m pc ls st) := by
  obtain ⟨⟨r0, σ1⟩, h1, h2⟩ := fx_bnd_some hF
  have hfr := fx_fr X hw
  refine va_calli (va_runS (As := As) (rest := rest) X.1 (hM H.size σ (r0, σ1) h1) cw ⟨fx_blind X.2.2.2.1, fx_pre X hw⟩ rfl hn hsize hst hW hdg hf) hw.2.2 (fun q _ h => hfr q h) hfr (fun r u t H1 locs1 ht hvm hp hB _ _ hS => ?_)
  cases hp
  exact kk _ _ H1 locs1 h2 (fx_back hfr ht hB hS)
/-! words of a call -/
def fx_mw (gw : List Cond) (C : String) (y : MethodName) (bytes : ByteArray) (maxL : Nat) (ret : Option FieldType) : Prop := Cond.instanceMethod y ∈ gw ∧ Cond.selects C y y ∈ gw ∧ Cond.initialized C ∈ gw ∧ Cond.code y bytes maxL ret ∈ gw
def fx_sw (gw : List Cond) (y : MethodName) (bytes : ByteArray) (maxL : Nat) (ret : Option FieldType) : Prop := Cond.static y ∈ gw ∧ Cond.initialized y.cls ∈ gw ∧ Cond.code y bytes maxL ret ∈ gw
theorem fx_good {w0 : Cond} (h0 : w0 ∈ gw) (hok : ∀ w ∈ gw, goodWord w = true) : GoodIn gw (w0 :: gw) := by
  intro w hw
  rcases List.mem_cons.mp hw with rfl | hw
  · exact ⟨h0, good_of_word (hok _ h0)⟩
  · exact ⟨hw, good_of_word (hok _ hw)⟩
theorem fx_cwV {C : String} {y : MethodName} {bytes : ByteArray} {maxL ix n mc ms : Nat} {ret : Option FieldType} {rm : Room} (X : fx_X p m c cc nL s args own D cl tys gw G A) (lk : Cond.methodLink own ix y ∈ gw) (hm : fx_mw gw C y bytes maxL ret) (hok : ∀ w ∈ gw, goodWord w = true) (hrc : rm.cells = mc) (hrs : rm.slots = ms)
    (hd : y.cls = C ∧ y.cls ≠ "java/lang/invoke/MethodHandle" ∧ y.cls ≠ "java/lang/invoke/VarHandle" ∧ (parseMethodDescriptor y.desc).map (fun d => d.parameters.length) = some n) (hR : rm.frames + 1 ≤ R.frames ∧ 8 + (maxL + 11) + rm.locals ≤ R.locals) :
    CallW R s args own C ix y bytes maxL ret (Cond.code y bytes maxL ret :: gw) rm mc ms n := by
  refine cwV n X.1.2.2.2.2 ?_ rfl hrc hrs hd hR
  intro w hw
  unfold wsV at hw
  have hin : w ∈ gw := by
    rcases List.mem_append.mp hw with hw | hw
    · simp only [List.mem_cons, List.not_mem_nil, or_false] at hw
      rcases hw with rfl | rfl | rfl | rfl
      · exact lk
      · exact hm.1
      · exact hm.2.1
      · exact hm.2.2.1
    · rcases List.mem_cons.mp hw with rfl | hw
      · exact hm.2.2.2
      · exact hw
  exact ⟨hin, good_of_word (hok _ hin)⟩
theorem fx_cwS {y : MethodName} {bytes : ByteArray} {maxL ix n : Nat} {ret : Option FieldType} {rm : Room} (X : fx_X p m c cc nL s args own D cl tys gw G A) (lk : Cond.methodLink own ix y ∈ gw) (hm : fx_sw gw y bytes maxL ret) (hok : ∀ w ∈ gw, goodWord w = true) (hrc : rm.cells = 0) (hrs : rm.slots = 0)
    (hd : y.cls ≠ "java/lang/invoke/MethodHandle" ∧ y.cls ≠ "java/lang/invoke/VarHandle" ∧ (parseMethodDescriptor y.desc).map (fun d => d.parameters.length) = some n) (hR : rm.frames + 1 ≤ R.frames ∧ 8 + (maxL + 11) + rm.locals ≤ R.locals) :
    CallB R s args own ix y bytes maxL ret (Cond.code y bytes maxL ret :: gw) rm 0 0 n ∧ (Cond.static y).before args s = true :=
  ⟨callB_of n X.1.2.2.2.2 (fx_good hm.2.2 hok) rfl hrc hrs (X.1.2.2.2.2 _ hm.2.1) (X.1.2.2.2.2 _ lk) hd hR, X.1.2.2.2.2 _ hm.1⟩
theorem fx_cwN {y : MethodName} {bytes : ByteArray} {maxL ix n : Nat} {ret : Option FieldType} {rm : Room} {host : String} (X : fx_X p m c cc nL s args own D cl tys gw G A) (lk : va_Nw (.methodLinkNest own ix y host) s) (hm : fx_sw gw y bytes maxL ret) (hok : ∀ w ∈ gw, goodWord w = true) (hrc : rm.cells = 0) (hrs : rm.slots = 0)
    (hd : y.cls ≠ "java/lang/invoke/MethodHandle" ∧ y.cls ≠ "java/lang/invoke/VarHandle" ∧ (parseMethodDescriptor y.desc).map (fun d => d.parameters.length) = some n) (hR : rm.frames + 1 ≤ R.frames ∧ 8 + (maxL + 11) + rm.locals ≤ R.locals) :
    va_CN R s args own ix y host bytes maxL ret (Cond.code y bytes maxL ret :: gw) rm 0 0 n ∧ (Cond.static y).before args s = true ∧ True :=
  ⟨va_cnB n X.1.2.2.2.2 (fx_good hm.2.2 hok) rfl hrc hrs lk (X.1.2.2.2.2 _ hm.2.1) hd hR, X.1.2.2.2.2 _ hm.1, trivial⟩
theorem fx_callN_i {y : MethodName} {bytes : ByteArray} {maxL : Nat} {ret : Option FieldType} {rm : Room} {F : fx_M Int32} {As : List Value} {n ix : Nat} {host : String} {k : Int32 → fx_M β} {st : List Value}
    (X : fx_X p m c cc nL s args own D cl tys gw G A) (hw : fx_B D cl wf A s.heap σ H locs) (hM : fx_Mi l y bytes maxL ret rm D cl tys gw G wf As F) (cw : va_CN R s args own ix y host bytes maxL ret (Cond.code y bytes maxL ret :: gw) rm 0 0 n ∧ (Cond.static y).before args s = true ∧ True)
    (hn : As.length = n) (hdg : decode cc pc = .ok (.invokestatic ix, 3)) (hsize : ls.size = nL) (hst : st = As.reverse ++ rest) (hW : 2 * (F0 m pc ls st).monitorRoom + (rest.map fun v => v.category).sum ≤ 8) (hf : cells ≤ R.cells ∧ slots ≤ R.slots)
    (hF : fx_bnd F k σ = some res) (kk : ∀ (r : Int32) (σ' : fx_S) (H' : Heap) (locs' : List Loc), k r σ' = some res → fx_B D cl wf A s.heap σ' H' locs' → W p l e R s m args below meth c H' locs' cells slots Q (F0 m (pc + 3) ls (.int r :: rest))) :
    W p l e R s m args below meth c H locs cells slots Q (F0 m pc ls st) := by
  obtain ⟨⟨r0, σ1⟩, h1, h2⟩ := fx_bnd_some hF
  have hfr := fx_fr X hw
  refine va_calli (va_runSN (As := As) (rest := rest) X.1 (hM H.size σ (r0, σ1) h1) cw ⟨fx_blind X.2.2.2.1, fx_pre X hw⟩ rfl hn hsize hst hW hdg hf) hw.2.2 (fun q _ h => hfr q h) hfr (fun r u t H1 locs1 ht hvm hp hB _ _ hS => ?_)
  cases hp
  exact kk _ _ H1 locs1 h2 (fx_back hfr ht hB hS)
def fx_mx (gw : List Cond) : Prop := Cond.static Lib.Math.max.name ∈ gw ∧ Cond.initialized "java/lang/Math" ∈ gw ∧ Cond.code Lib.Math.max.name Lib.Math.max.code 2 (some .int) ∈ gw
theorem fx_max {ix : Nat} {x y : Int32} {k : Int32 → fx_M β} (X : fx_X p m c cc nL s args own D cl tys gw G A) (hsize : ls.size = nL) (hm : fx_mx gw) (lk : Cond.methodLink own ix Lib.Math.max.name ∈ gw) (hdg : decode cc pc = .ok (.invokestatic ix, 3)) (hfr : 1 ≤ R.frames) (hlo : (rest.map fun v => v.category).sum + 13 ≤ R.locals) (hc : cells ≤ R.cells) (hs : slots ≤ R.slots)
    (hF : fx_bnd (fx_pur (if x < y then y else x)) k σ = some res) (kk : ∀ z : Int32, k z σ = some res → W p l e R s m args below meth c H locs cells slots Q (F0 m (pc + 3) ls (.int z :: rest))) : W p l e R s m args below meth c H locs cells slots Q (F0 m pc ls (.int y :: .int x :: rest)) :=
  va_mmax X.1.1 X.1.2.1 (X.1.2.2.1.trans hsize.symm) X.1.2.2.2.1 (X.1.2.2.2.2 _ lk) (X.1.2.2.2.2 _ hm.1) (X.1.2.2.2.2 _ hm.2.1) (X.1.2.2.2.2 _ hm.2.2) hfr hlo hc hs hdg (kk _ hF)
end FX
theorem fx_ne {x k : Int32} (h : ¬ x = k) : x.toInt ≠ k.toInt := fun e => h (Int32.toInt_inj.mp e)
theorem fx_sw0_2 {x : Int32} (h0 : ¬ x = 0) (h1 : ¬ x = 1) (h2 : ¬ x = 2) : x.toInt < 0 ∨ 2 < x.toInt := by
  have e0 : x.toInt ≠ 0 := fx_ne h0
  have e1 : x.toInt ≠ 1 := fx_ne h1
  have e2 : x.toInt ≠ 2 := fx_ne h2
  omega
theorem fx_sw0_4 {x : Int32} (h0 : ¬ x = 0) (h1 : ¬ x = 1) (h2 : ¬ x = 2) (h3 : ¬ x = 3) (h4 : ¬ x = 4) : x.toInt < 0 ∨ 4 < x.toInt := by
  have e0 : x.toInt ≠ 0 := fx_ne h0
  have e1 : x.toInt ≠ 1 := fx_ne h1
  have e2 : x.toInt ≠ 2 := fx_ne h2
  have e3 : x.toInt ≠ 3 := fx_ne h3
  have e4 : x.toInt ≠ 4 := fx_ne h4
  omega
theorem fx_sw0_6 {x : Int32} (h0 : ¬ x = 0) (h1 : ¬ x = 1) (h2 : ¬ x = 2) (h3 : ¬ x = 3) (h4 : ¬ x = 4) (h5 : ¬ x = 5) (h6 : ¬ x = 6) : x.toInt < 0 ∨ 6 < x.toInt := by
  have e0 : x.toInt ≠ 0 := fx_ne h0
  have e1 : x.toInt ≠ 1 := fx_ne h1
  have e2 : x.toInt ≠ 2 := fx_ne h2
  have e3 : x.toInt ≠ 3 := fx_ne h3
  have e4 : x.toInt ≠ 4 := fx_ne h4
  have e5 : x.toInt ≠ 5 := fx_ne h5
  have e6 : x.toInt ≠ 6 := fx_ne h6
  omega
