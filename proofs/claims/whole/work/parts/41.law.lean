/-! THE LAW: what one operation owes, and the helper's call inside the law -/
/-- class and reference answer alike: where the class returns, the reference's code is 0 and the answers compare; where it throws, the code is the number of the catch -/
def lw_op {α β : Type} (Rel : fx_S → fx_S → Prop) (hs : List (Nat × Int32)) (FC : fx_M (α ⊕ Nat)) (FR : fx_M β) (cmp : α → β → Prop) (σ τ : fx_S) : Prop :=
  ∃ (b : β) (σ' τ' : fx_S), FR τ = some (b, τ') ∧ Rel σ' τ' ∧ ((∃ r, FC σ = some (.inl r, σ') ∧ τ'.1 0 = 0 ∧ cmp r b) ∨ (∃ q ∈ hs, FC σ = some (.inr q.1, σ') ∧ τ'.1 0 = q.2))
theorem lw_thrown (τ : fx_S) : F_Md_thrown τ = some (τ.1 0, τ) := rfl
theorem lw_updL (f : Nat → Int64) (v : Int64) : vp_updL f 0 v ((0 : Int32).toNatClampNeg) = v := by
  simp [vp_updL]
theorem lh_blind {D : va_G} {h : Nat → Nat} {cA : Nat → ClassId} {ho : Nat} {av : List Value} {sz : Nat} {σ : fx_S} {f : Nat → Int64} : FrameBlind (lh_Pre D h cA ho av sz σ f) := by
  intro a U g mk q
  obtain ⟨q0, q1, qP, qK, qD, qG, qH⟩ := q
  exact ⟨q0, q1, qP, va_K.moved (u := U) (U := U.calling g mk a) (Vm.Alike.refl U.vm) qK, qD, lw_G_ok U (U.calling g mk a) (State.WarmedH.refl U) qG, fx_HW.moved (V := U.calling g mk a) (State.WarmedH.refl U) qH⟩
section LC
variable {p : Program} {l : Launch} {e : Env} {R : Room} {s : State} {m : MethodId} {args : Array Value} {below : List Frame} {meth : Method} {c : Code} {H : Heap} {locs : List Loc} {cells slots : Nat} {Q : State → Prop}
variable {cc : ByteArray} {pc nL : Nat} {ls : Array Slot} {rest : List Value} {own : String} {D : va_G} {A : Nat → Prop} {h : Nat → Nat} {cA : Nat → ClassId} {ho : Nat} {w3 : va_W}
theorem lx_callH {y : MethodName} {bytes : ByteArray} {maxL n ix nc : Nat} {hh : List (Nat × Nat × Nat × Nat)} {rm : Room} {As st : List Value} {σ σ' : fx_S} {f f' : Nat → Int64} {k : Int32}
    (X : fx_X p m c cc nL s args own D fx_cl (fx_tys cA) fx_g lw_G A) (hHW : fx_HW A s s.heap) (hw : cx_B D fx_cl A s.heap ([] ++ (lw_w h cA ho σ f ++ w3)) H locs) (hM : lh_M l y bytes maxL hh rm D h cA ho As σ f k σ' f' nc)
    (lk : Cond.methodLink own ix y ∈ fx_g) (hg : Cond.static y ∈ fx_g ∧ Cond.initialized y.cls ∈ fx_g ∧ Cond.codeWith y bytes maxL (some .int) hh ∈ fx_g) (hd : y.cls ≠ "java/lang/invoke/MethodHandle" ∧ y.cls ≠ "java/lang/invoke/VarHandle" ∧ (parseMethodDescriptor y.desc).map (fun d => d.parameters.length) = some n) (hR : rm.frames + 1 ≤ R.frames ∧ 8 + (maxL + 11) + rm.locals ≤ R.locals)
    (hn : As.length = n) (hdg : decode cc pc = .ok (.invokestatic ix, 3)) (hsize : ls.size = nL) (hst : st = As.reverse ++ rest) (hW : 2 * (F0 m pc ls st).monitorRoom + (rest.map fun v => v.category).sum ≤ 8) (hf : cells + nc ≤ R.cells ∧ slots + 6 * nc ≤ R.slots)
    (kk : ∀ (H' : Heap) (locs' : List Loc), cx_B D fx_cl A s.heap ([] ++ (lw_w h cA ho σ' f' ++ w3)) H' locs' → W p l e R s m args below meth c H' locs' (cells + nc) (slots + 6 * nc) Q (F0 m (pc + 3) ls (.int k :: rest))) :
    W p l e R s m args below meth c H locs cells slots Q (F0 m pc ls st) := by
  have hfr := lx_free hw X.2.2.1
  refine va_calli (lx_runSW (As := As) (rest := rest) X (hM H.size) ⟨lh_blind, fun U hU hW2 => ⟨rfl, by rw [hU], by rw [hU]; exact (lx_split hw).1, va_K.moved hW2.alike X.2.1, (lx_split hw).2.weaken (fun _ _ _ _ => trivial), lw_G_ok s U hW2 X.2.2.2.2, by
    rw [hU]
    exact fx_HW.moved hW2 ((hHW.kept hw.2.2.1 hw.2.2.2.1).narrow hfr)⟩⟩ rfl rfl hR lk hg.1 hg.2.1 hg.2.2 fx_gok hd hn hsize hst hW hdg hf) hw.2.2 (fun q _ h => hfr q h) hfr (fun r u t H1 locs1 ht hvm hp hB _ hk1 hS => ?_)
  cases hp
  subst ht
  exact kk _ locs1 (lx_join hw X.2.2.1 hk1 hB.1 hB.2.2 hS)
end LC
/-- indices of the script -/
theorem lw_ix {j k : Nat} (h : 5 * j + k < 2561) : (Int32.ofNat (5 * j) + Int32.ofNat k).toNatClampNeg = 5 * j + k ∧ ¬ (Int32.ofNat (5 * j) + Int32.ofNat k < 0) := by
  rw [← Int32.ofNat_add]
  have hb : 5 * j + k < 2 ^ 31 := by omega
  have h1 : (Int32.ofNat (5 * j + k)).toInt = (5 * j + k : Nat) := Int32.toInt_ofNat_of_lt hb
  refine ⟨?_, ?_⟩
  · show (Int32.ofNat (5 * j + k)).toInt.toNat = _
    rw [h1]; rfl
  · rw [Int32.lt_iff_toInt_lt, h1]
    show ¬ ((5 * j + k : Nat) : Int) < 0
    omega
theorem lw_in {j k L : Nat} (h : 5 * j + k < L) (hL : L ≤ 2560) : vp_in (Int32.ofNat (5 * j) + Int32.ofNat k) L := by
  obtain ⟨h1, h2⟩ := lw_ix (j := j) (k := k) (by omega)
  rintro (q | q)
  · exact h2 q
  · rw [h1] at q; omega
theorem lw_in0 {j L : Nat} (h : 5 * j < L) (hL : L ≤ 2560) : vp_in (Int32.ofNat (5 * j)) L := by
  have := lw_in (k := 0) h hL
  rwa [show Int32.ofNat (5 * j) + Int32.ofNat 0 = Int32.ofNat (5 * j) from by rw [← Int32.ofNat_add]; rfl] at this
theorem lw_gt {j L : Nat} (hL : L ≤ 2560) (hj : 5 * j ≤ L) : Int32.ofNat L - 5 < Int32.ofNat (5 * j) ↔ L < 5 * j + 5 := by
  have e1 : Int32.ofNat L - 5 = Int32.ofInt ((L : Int) - 5) := by
    rw [Int32.ofInt_sub]; rfl
  have e2 : (Int32.ofInt ((L : Int) - 5)).toInt = (L : Int) - 5 := Int32.toInt_ofInt_of_le (by omega) (by omega)
  have e3 : (Int32.ofNat (5 * j)).toInt = (5 * j : Nat) := Int32.toInt_ofNat_of_lt (by omega)
  rw [Int32.lt_iff_toInt_lt, e1, e2, e3]
  omega
theorem lw_sw {x : Int32} (hh : ∀ k : Nat, k < 17 → ¬ x = Int32.ofNat k) : x.toInt < 0 ∨ 16 < x.toInt := by
  rcases Int.lt_or_le x.toInt 0 with q | q
  · exact Or.inl q
  · refine Or.inr ?_
    rcases Int.lt_or_le 16 x.toInt with q2 | q2
    · exact q2
    · exfalso
      have e : x = Int32.ofNat x.toInt.toNat := by
        rw [← Int32.toInt_inj, Int32.toInt_ofNat_of_lt (by omega)]
        omega
      exact hh x.toInt.toNat (by omega) e
