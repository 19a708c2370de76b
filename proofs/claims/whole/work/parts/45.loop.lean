def R_law : String := "FixityTreesLaw"
def lw_P (b : Addr) (xs : List Int32) (args : Array Value) (s : State) : Prop := args = #[.ref b] ∧ s.IntsAt b xs ∧ xs.length ≤ 2560 ∧ (Jvm.Cond.and given_1 narrow_1).before args s = true
def lw_Q (_ : Array Value) (s : State) (o : Outcome) (t : State) : Prop := o = .returned (some (.int 1)) ∧ Framed s o t [] 1125 30804
def lw_Z (below : List Frame) (a : Array Value) (s : State) : State → Prop := fun t => ∃ o, t.status = .running ∧ Ended t below o ∧ lw_Q a s o t
/-- the law's own end, with 1 on the stack, nothing written that was there before, its room as the claim has it -/
theorem lw_ret {p : Program} {l : Launch} {e : Env} {s : State} {m : MethodId} {below : List Frame} {meth : Method} {c : Code} {b : Nat} (hx : p.tables.exec = Jvm.exec) (hb : c.code = code) (hr : meth.sig.returnType = ret) (hlocks : meth.locks = false) {pc : Nat} {H : Heap} {ls : Array Slot} (hdg : decode code pc = .ok (.ireturn, 1)) : W p l e room_1 s m #[Value.ref b] below meth c H [] 1125 30804 (lw_Z below #[Value.ref b] s) (F0 m pc ls [.int 1]) := by
  intro T hT X
  obtain ⟨fs, hret, hrun, hended, hW, hframe⟩ := X.leave (v := some (.int 1)) (hlocks := hlocks) (fun h => by rw [hr] at h; cases h)
  have hmeth' : T.vm.method? m = some meth := X.method'
  refine ⟨T.setFrames fs, ?_, .returned (some (.int 1)), hrun, hended, rfl, ⟨_, rfl⟩, hW, hframe⟩
  jvm_step X.here [X.here.top, hx, hb, hdg, hmeth', hr, ret, narrow_b1]
  (try refine ⟨rfl, ?_⟩); (try refine ⟨rfl, ?_⟩)
  first | (intro acts; rw [hret _ acts rfl rfl rfl]) | rw [hret _ _ rfl rfl rfl]
  exact Steps.refl _
/-- what holds at the law's entry: the machine, the code, the tables' words (any of lw_tbl by 'hts w (by decide +kernel)'), the script of L ints xs at the cell b, what the Statement gives of the start (any of its parts by flat_of_before) -/
def lw_At (p : Program) (s : State) (m : MethodId) (meth : Method) (c : Code) (b L : Nat) (xs : Nat → Int32) : Prop :=
  p.tables.exec = Jvm.exec ∧ c.code = code ∧ meth.sig.returnType = ret ∧ c.maxLocals = 8 ∧ s.vm.findClass R_law = some m.cls ∧ (∀ w ∈ lw_tbl, w.before #[Value.ref b] s = true) ∧ va_X b L xs s s.heap ∧ b < s.heap.size ∧ meth.locks = false ∧ (Jvm.Cond.and given_1 narrow_1).before #[Value.ref b] s = true
set_option maxHeartbeats 4000000 in
set_option maxRecDepth 100000 in
theorem law_loop {p : Program} {l : Launch} {e : Env} {s : State} {m : MethodId} {below : List Frame} {meth : Method} {c : Code} {b L : Nat} {xs : Nat → Int32} {D : va_G} {h h2 : Nat → Nat} {cA : Nat → ClassId} {ho : Nat} {Rel : fx_S → fx_S → Prop} (C : lw_Cx p l s m meth c b L xs D cA (fun q : Nat => s.heap.size ≤ q)) (hr : meth.sig.returnType = ret) (hlocks : meth.locks = false) (OK : lw_OK Rel) : ∀ (n j : Nat), 5 * j ≤ L → L + 1 ≤ 5 * j + 5 * n → ∀ (σ τ : fx_S) (f : Nat → Int64) (H : Heap) (locs : List Loc) (ls : Array Slot) (cells slots : Nat), Rel σ τ → cells ≤ 78 + j → slots ≤ 22474 + 6 * j → cx_B D fx_cl (fun q : Nat => s.heap.size ≤ q) s.heap ([] ++ (lw_w h cA ho σ f ++ (rf_ws h2 cA τ ++ []))) H locs → lv_has ls 8 [(0, .ref b), (1, .ref (h 0)), (2, .ref (h2 0)), (3, .ref ho), (4, .int (Int32.ofNat (5 * j)))] → W p l e room_1 s m #[Value.ref b] below meth c H locs cells slots (lw_Z below #[Value.ref b] s) (F0 m 23 ls []) := by
  have C9 := C
  obtain ⟨X, hHW, hX, hbl, hbA, hlt, hL⟩ := C
  have hx := X.1.1
  have hb := X.1.2.1
  intro n
  induction n with
  | zero => intro j e1 e2; exact absurd e2 (by omega)
  | succ n ih =>
    intro j e1 e2 σ τ f H locs ls cells slots hRel hce hsl hw hl
    have h78 : j ≤ 512 := by omega
    refine lv_iload hx hb dl_23 (lv_at hl 4 rfl) ?_
    refine lv_aload_n hx hb dl_25 rfl (lv_at hl 0 rfl) ?_
    refine va_slen hx hb hX hbl hbA hw.2.2 dl_26 ?_
    refine lv_iconst (v := 5) hx hb dl_27 (by decide) ?_
    refine lv_isub hx hb dl_28 ?_
    refine lv_icmp_gt (tgt := 1127) hx hb dl_29 (by decide) (fun hc => ?_) (fun hc => ?_)
    · refine lv_iconst (v := 1) hx hb dl_1127 (by decide) ?_
      refine va_forget (fun q hq => hw.2.2.2.2 q hq) ?_
      refine W.widen (k := 1125) (n := 30804) (by omega) (by omega) ?_
      exact lw_ret hx hb hr hlocks dl_1128
    · have h5 : 5 * j + 5 ≤ L := by
        rcases Nat.lt_or_ge L (5 * j + 5) with q | q
        · exact absurd ((lw_gt hL e1).mpr q) hc
        · exact q
      obtain ⟨o_scope, o_fixity, o_looked, o_begin, o_operand, o_operator, o_open, o_close, o_resolve, o_clash, o_node, o_number, o_write, o_written, o_take, o_same, o_told⟩ := OK σ τ hRel
      have fin : ∀ (σ' τ' : fx_S) (f' : Nat → Int64) (H' : Heap) (locs' : List Loc) (ls' : Array Slot) (cells' slots' : Nat), Rel σ' τ' → cells' ≤ cells + 1 → slots' ≤ slots + 6 → cx_B D fx_cl (fun q : Nat => s.heap.size ≤ q) s.heap ([] ++ (lw_w h cA ho σ' f' ++ (rf_ws h2 cA τ' ++ []))) H' locs' → lv_has ls' 8 [(0, .ref b), (1, .ref (h 0)), (2, .ref (h2 0)), (3, .ref ho), (4, .int (Int32.ofNat (5 * j)))] → W p l e room_1 s m #[Value.ref b] below meth c H' locs' cells' slots' (lw_Z below #[Value.ref b] s) (F0 m 1121 ls' []) := by
        intro σ' τ' f' H' locs' ls' cells' slots' hRel' hc' hs' hw' hl'
        refine lv_iinc (v := Int32.ofNat (5 * (j + 1))) (lv' := [(4, .int (Int32.ofNat (5 * (j + 1)))), (0, .ref b), (1, .ref (h 0)), (2, .ref (h2 0)), (3, .ref ho)]) hx hb dl_1121 hl' (k := 4) rfl (by rw [show 5 * (j + 1) = 5 * j + 5 by omega, Int32.ofNat_add]; rfl) (by decide) rfl (fun ls hl => ?_)
        refine lv_goto (tgt := 23) hx hb dl_1124 (by decide) ?_
        exact ih (j + 1) (by omega) (by omega) σ' τ' f' H' locs' ls cells' slots' hRel' (by omega) (by omega) hw' (lv_sub hl [1, 2, 3, 4, 0] rfl)
      refine lv_aload_n hx hb dl_32 rfl (lv_at hl 0 rfl) ?_
      refine lv_iload hx hb dl_33 (lv_at hl 4 rfl) ?_
      refine va_sld hx hb hX hbl hbA hw.2.2 (lw_in0 (by omega) hL) dl_35 ?_
      refine lv_bipush (v := 31) hx hb dl_36 (by decide) ?_
      refine lv_iand hx hb dl_38 ?_
      have hcs : cells + 1 ≤ 1125 ∧ slots + 6 ≤ 30804 := ⟨by omega, by omega⟩
      generalize (xs (Int32.ofNat (5 * j)).toNatClampNeg &&& 31) = x
      by_cases q0 : x = 0
      · subst q0
        refine lv_tableIn (off := 81) (tgt := 120) hx hb dl_39 (by decide) (by decide) (by rfl) (by decide) ?_
        exact la_scope C9 h5 o_scope hw hl hcs fin
      by_cases q1 : x = 1
      · subst q1
        refine lv_tableIn (off := 137) (tgt := 176) hx hb dl_39 (by decide) (by decide) (by rfl) (by decide) ?_
        exact la_fixity C9 h5 o_fixity hw hl hcs fin
      by_cases q2 : x = 2
      · subst q2
        refine lv_tableIn (off := 209) (tgt := 248) hx hb dl_39 (by decide) (by decide) (by rfl) (by decide) ?_
        exact la_looked C9 h5 o_looked hw hl hcs fin
      by_cases q3 : x = 3
      · subst q3
        refine lv_tableIn (off := 289) (tgt := 328) hx hb dl_39 (by decide) (by decide) (by rfl) (by decide) ?_
        exact la_begin C9 h5 o_begin hw hl hcs fin
      by_cases q4 : x = 4
      · subst q4
        refine lv_tableIn (off := 328) (tgt := 367) hx hb dl_39 (by decide) (by decide) (by rfl) (by decide) ?_
        exact la_operand C9 h5 o_operand hw hl hcs fin
      by_cases q5 : x = 5
      · subst q5
        refine lv_tableIn (off := 416) (tgt := 455) hx hb dl_39 (by decide) (by decide) (by rfl) (by decide) ?_
        exact la_operator C9 h5 o_operator hw hl hcs fin
      by_cases q6 : x = 6
      · subst q6
        refine lv_tableIn (off := 472) (tgt := 511) hx hb dl_39 (by decide) (by decide) (by rfl) (by decide) ?_
        exact la_open C9 h5 o_open hw hl hcs fin
      by_cases q7 : x = 7
      · subst q7
        refine lv_tableIn (off := 516) (tgt := 555) hx hb dl_39 (by decide) (by decide) (by rfl) (by decide) ?_
        exact la_close C9 h5 o_close hw hl hcs fin
      by_cases q8 : x = 8
      · subst q8
        refine lv_tableIn (off := 560) (tgt := 599) hx hb dl_39 (by decide) (by decide) (by rfl) (by decide) ?_
        exact la_resolve C9 h5 o_resolve hw hl hcs fin
      by_cases q9 : x = 9
      · subst q9
        refine lv_tableIn (off := 616) (tgt := 655) hx hb dl_39 (by decide) (by decide) (by rfl) (by decide) ?_
        exact la_clash C9 h5 o_clash hw hl hcs fin
      by_cases q10 : x = 10
      · subst q10
        refine lv_tableIn (off := 672) (tgt := 711) hx hb dl_39 (by decide) (by decide) (by rfl) (by decide) ?_
        exact la_node C9 h5 o_node hw hl hcs fin
      by_cases q11 : x = 11
      · subst q11
        refine lv_tableIn (off := 740) (tgt := 779) hx hb dl_39 (by decide) (by decide) (by rfl) (by decide) ?_
        exact la_number C9 h5 o_number hw hl hcs fin
      by_cases q12 : x = 12
      · subst q12
        refine lv_tableIn (off := 795) (tgt := 834) hx hb dl_39 (by decide) (by decide) (by rfl) (by decide) ?_
        exact la_write C9 h5 o_write hw hl hcs fin
      by_cases q13 : x = 13
      · subst q13
        refine lv_tableIn (off := 851) (tgt := 890) hx hb dl_39 (by decide) (by decide) (by rfl) (by decide) ?_
        exact la_written C9 h5 o_written hw hl hcs fin
      by_cases q14 : x = 14
      · subst q14
        refine lv_tableIn (off := 919) (tgt := 958) hx hb dl_39 (by decide) (by decide) (by rfl) (by decide) ?_
        exact la_take C9 h5 o_take hw hl hcs fin
      by_cases q15 : x = 15
      · subst q15
        refine lv_tableIn (off := 963) (tgt := 1002) hx hb dl_39 (by decide) (by decide) (by rfl) (by decide) ?_
        exact la_same C9 h5 o_same hw hl hcs fin
      by_cases q16 : x = 16
      · subst q16
        refine lv_tableIn (off := 1026) (tgt := 1065) hx hb dl_39 (by decide) (by decide) (by rfl) (by decide) ?_
        exact la_told C9 h5 o_told hw hl hcs fin
      refine lv_tableOut (tgt := 1121) hx hb dl_39 (lw_sw (fun k hk => ?_)) (by decide) ?_
      · match k, hk with
        | 0, _ => exact q0
        | 1, _ => exact q1
        | 2, _ => exact q2
        | 3, _ => exact q3
        | 4, _ => exact q4
        | 5, _ => exact q5
        | 6, _ => exact q6
        | 7, _ => exact q7
        | 8, _ => exact q8
        | 9, _ => exact q9
        | 10, _ => exact q10
        | 11, _ => exact q11
        | 12, _ => exact q12
        | 13, _ => exact q13
        | 14, _ => exact q14
        | 15, _ => exact q15
        | 16, _ => exact q16
        | k + 17, hk => omega
      · exact fin σ τ f H locs ls cells slots hRel (by omega) (by omega) hw hl
