/-! THE RUN, ITEM BY ITEM -/
def bef : List (List Nat) → List Nat
  | [] => [0]
  | w :: wl => (w :: wl).flatten.length :: bef wl
theorem bef_hd (wl : List (List Nat)) : ∃ t, bef wl = wl.flatten.length :: t ∧ t.length = wl.length := by
  induction wl with
  | nil => exact ⟨[], rfl, rfl⟩
  | cons w wl ih =>
    obtain ⟨t, h1, h2⟩ := ih
    exact ⟨bef wl, rfl, by rw [h1, List.length_cons, List.length_cons, h2]⟩
def CS (σ : fx_S) (ws : List Nat) (wl : List (List Nat)) (Q : List Nat) (M : Nat) : Prop :=
  SK (σ.1 225) (σ.2.1 15) (ws ++ wl.flatten) ∧ SK (σ.1 257) (σ.2.1 17) (bef wl) ∧ SK (σ.1 289) (σ.2.1 19) Q ∧ σ.1 218 = nI M ∧ (ws ++ wl.flatten).length ≤ M ∧ M ≤ 200 ∧ σ.1 219 = -1 ∧ σ.1 220 = -1 ∧ σ.1 221 = -1
def SX (K : Nat → Int32) (rk sd : Nat → Nat) (σ τ : fx_S) (j : Nat) (bs : List Nat) (ws : List Nat) (wl : List (List Nat)) (qs : List Nat) (ql : List (List Nat)) (M : Nat) : Prop :=
  (∀ w ∈ ws, gO (stk K w) = gO bs) ∧ LR K rk sd σ.2.1 bs wl ql ∧ CS σ ws wl (qs ++ ql.flatten) M ∧ wtR j (ws ++ wl.flatten) τ
/-- a clash, told alike -/
def clP (σ τ σ' τ' : fx_S) : Prop := frC σ σ' ∧ frG τ τ' ∧ ¬ σ'.1 219 = -1 ∧ σ'.1 219 = τ'.1 30 ∧ σ'.1 220 = τ'.1 31 ∧ σ'.1 221 = τ'.1 32
theorem k_note {σ : fx_S} (k a b : Int32) : F_Resolver_note k a b σ = some ((), (va_up (va_up (va_up σ.1 219 k) 220 a) 221 b, σ.2.1, σ.2.2)) := rfl
theorem m_clashes {τ : fx_S} (k a b : Int32) : F_Md_clashes k a b τ = some ((), (va_up (va_up (va_up τ.1 30 k) 31 a) 32 b, τ.2.1, τ.2.2)) := rfl
theorem clP_note {σ τ : fx_S} {k a b : Int32} (hk : ¬ k = -1) : clP σ τ (va_up (va_up (va_up σ.1 219 k) 220 a) 221 b, σ.2.1, σ.2.2) (va_up (va_up (va_up τ.1 30 k) 31 a) 32 b, τ.2.1, τ.2.2) := by
  refine ⟨⟨fun r hr => ?_, fun _ _ => rfl, rfl⟩, ⟨fun r hr => ?_, fun _ _ => rfl, rfl⟩, hk, rfl, rfl, rfl⟩
  · show va_up (va_up (va_up σ.1 219 k) 220 a) 221 b r = _
    rw [va_up_ne _ _ (by omega), va_up_ne _ _ (by omega), va_up_ne _ _ (by omega)]
  · show va_up (va_up (va_up τ.1 30 k) 31 a) 32 b r = _
    rw [va_up_ne _ _ (by omega), va_up_ne _ _ (by omega), va_up_ne _ _ (by omega)]
theorem clP_tr {σ τ σ1 τ1 σ' τ' : fx_S} (h1 : frC σ σ1) (h2 : frG τ τ1) (h : clP σ1 τ1 σ' τ') : clP σ τ σ' τ' := ⟨frC_tr h1 h.1, frG_tr h2 h.2.1, h.2.2⟩
/-- it waits -/
theorem k_wait {σ : fx_S} {ws : List Nat} {wl : List (List Nat)} {Q : List Nat} {M : Nat} (h : CS σ ws wl Q M) (hl : (ws ++ wl.flatten).length < 200) (x : Nat) : ∃ σ', F_Resolver_letWait (nI x) σ = some ((), σ') ∧ CS σ' (x :: ws) wl Q (max M ((x :: ws) ++ wl.flatten).length) ∧ frC σ σ' ∧ (∀ a, 22 ≤ a → a ≤ 25 → σ'.2.1 a = σ.2.1 a) := by
  obtain ⟨h1, h2, h3, h4, h5, h6, h7, h8, h9⟩ := h
  let σ1 : fx_S := (va_up σ.1 225 (nI ((ws ++ wl.flatten).length + 1)), va_up σ.2.1 15 (upd (σ.2.1 15) (ws ++ wl.flatten).length (nI x)), σ.2.2)
  have hlen : ((x :: ws) ++ wl.flatten).length = (ws ++ wl.flatten).length + 1 := by rw [List.cons_append, List.length_cons]
  have e0 : F_IntStack0_size σ1 = some (nI ((ws ++ wl.flatten).length + 1), σ1) := rfl
  have e1 : (if nI M < nI ((ws ++ wl.flatten).length + 1) then nI ((ws ++ wl.flatten).length + 1) else nI M) = nI (max M ((x :: ws) ++ wl.flatten).length) := by
    rw [hlen]
    by_cases q : M < (ws ++ wl.flatten).length + 1
    · rw [if_pos ((q_lt (by omega) (by omega)).mpr q), Nat.max_eq_right (by omega)]
    · rw [if_neg (fun z => q ((q_lt (by omega) (by omega)).mp z)), Nat.max_eq_left (by omega)]
  refine ⟨(va_up σ1.1 218 (nI (max M ((x :: ws) ++ wl.flatten).length)), σ1.2.1, σ1.2.2), ?_, ⟨SK_push h1 x, h2, h3, rfl, Nat.le_max_right _ _, by omega, h7, h8, h9⟩, ⟨fun r hr => ?_, fun a ha => va_up_ne _ _ (by omega), rfl⟩, fun a g1 g2 => va_up_ne _ _ (by omega)⟩
  · rw [F_Resolver_letWait, e_bnd (k_push0 h1 hl x)]
    refine (e_bnd (e_gI _ σ1)).trans ?_
    refine (e_bnd e0).trans ?_
    have e4 : σ1.1 218 = nI M := h4
    rw [e4, e1, e_bnd (e_pur _ _)]; rfl
  · show va_up (va_up σ.1 225 _) 218 _ r = _
    rw [va_up_ne _ _ (by omega), va_up_ne _ _ (by omega)]
section RUN
variable {K O : Nat → Int32} {n : Nat} {pt : Int32} {rk sd : Nat → Nat} {s : Nat}
theorem nkA_2 {w : Nat} (h : K w = 1 ∨ K w = 2) : nkA K n w = 2 ↔ K w = 2 := by
  unfold nkA
  rcases h with h | h
  · rw [h, if_neg (by decide)]
    constructor
    · intro q
      split at q
      · exact absurd q (by decide)
      · split at q
        · exact absurd q (by decide)
        · exact q
    · intro q; exact absurd q (by decide)
  · rw [h]; simp
theorem nkA_4 {w : Nat} (h : K w = 1 ∨ K w = 2) : nkA K n w = 4 ↔ K w = 1 ∧ 0 < w ∧ K (w - 1) = 3 := by
  unfold nkA
  rcases h with h | h
  · rw [h, if_neg (by decide)]
    by_cases q : 0 < w ∧ K (w - 1) = 3
    · rw [if_pos ⟨rfl, q⟩]; exact ⟨fun _ => ⟨rfl, q⟩, fun _ => rfl⟩
    · rw [if_neg (fun z => q z.2)]
      constructor
      · intro z
        split at z
        · exact absurd z (by decide)
        · exact absurd z (by decide)
      · exact fun z => absurd z.2 q
  · rw [h]; simp
/-- what becomes of the newest as the operator at j comes -/
theorem k_fate {σ : fx_S} (X : cxC K O n pt rk sd σ) {w j : Nat} (hw : w < n) (hj : j < n) (kw : K w = 1 ∨ K w = 2) (kj : K j = 1) : F_Resolver_fateOf (nI w) (nI j) σ = some (if rk w = rk j ∧ (sd w ≠ sd j ∨ sd w = 2) then 1 else if rk j < rk w ∨ (rk w = rk j ∧ sd w = 0) then (if K w = 1 ∧ 0 < w ∧ K (w - 1) = 3 then 3 else 0) else if pt = 1 ∧ K w = 2 then 4 else -1, σ) := by
  obtain ⟨ow, -, -, -, -, hrw, hsw, -⟩ := X.2.2.2.2.2.2.2 w hw kw
  obtain ⟨oj, -, -, -, -, hrj, hsj, -⟩ := X.2.2.2.2.2.2.2 j hj (Or.inl kj)
  have eqr : (nI (rk w) = nI (rk j)) ↔ rk w = rk j := q_eq (by omega) (by omega)
  have eqs : (nI (sd w) = nI (sd j)) ↔ sd w = sd j := q_eq (by omega) (by omega)
  have ltr : (nI (rk j) < nI (rk w)) ↔ rk j < rk w := q_lt (by omega) (by omega)
  have es2 : (nI (sd w) = 2) ↔ sd w = 2 := q_eq2 (by omega)
  have es0 : (nI (sd w) = 0) ↔ sd w = 0 := q_eq0 (by omega)
  have epat : F_Row_isPattern σ = some (pt, σ) := by
    rw [F_Row_isPattern, e_bnd (e_gI _ _), X.2.2.1, e_rz X.2.2.2.1]
  have J71 : F_Resolver_fateOf_J71 (nkA K n w) σ = some (if K w = 1 ∧ 0 < w ∧ K (w - 1) = 3 then 3 else 0, σ) := by
    rw [F_Resolver_fateOf_J71]
    by_cases q : K w = 1 ∧ 0 < w ∧ K (w - 1) = 3
    · rw [e_if ((nkA_4 kw).mpr q), if_pos q]; rfl
    · rw [e_el (fun z => q ((nkA_4 kw).mp z)), if_neg q]; rfl
  have J83 : F_Resolver_fateOf_J83 (nkA K n w) σ = some (if pt = 1 ∧ K w = 2 then 4 else -1, σ) := by
    rw [F_Resolver_fateOf_J83, e_bnd epat]
    rcases X.2.2.2.1 with rfl | rfl
    · rw [e_if rfl, if_neg (fun z => absurd z.1 (by decide))]; rfl
    · rw [e_el (by decide)]
      by_cases q : K w = 2
      · rw [e_if ((nkA_2 kw).mpr q), if_pos ⟨rfl, q⟩]; rfl
      · rw [e_el (fun z => q ((nkA_2 kw).mp z)), if_neg (fun z => q z.2)]; rfl
  have J44 : F_Resolver_fateOf_J44 (nI w) (nI (rk w)) (nI (sd w)) (nI (rk j)) σ = some (if rk j < rk w ∨ (rk w = rk j ∧ sd w = 0) then (if K w = 1 ∧ 0 < w ∧ K (w - 1) = 3 then 3 else 0) else if pt = 1 ∧ K w = 2 then 4 else -1, σ) := by
    rw [F_Resolver_fateOf_J44, e_bnd (c_nk X hw)]
    by_cases q1 : rk j < rk w
    · rw [e_if (ltr.mpr q1), J71, if_pos (Or.inl q1)]
    · rw [e_el (fun z => q1 (ltr.mp z))]
      by_cases q2 : rk w = rk j
      · rw [e_if (eqr.mpr q2)]
        by_cases q3 : sd w = 0
        · rw [e_if (es0.mpr q3), J71, if_pos (Or.inr ⟨q2, q3⟩)]
        · rw [e_el (fun z => q3 (es0.mp z)), J83, if_neg (c := rk j < rk w ∨ rk w = rk j ∧ sd w = 0) (by omega)]
      · rw [e_el (fun z => q2 (eqr.mp z)), J83, if_neg (c := rk j < rk w ∨ rk w = rk j ∧ sd w = 0) (by omega)]
  rw [F_Resolver_fateOf, e_bnd (c_rank X hw kw), e_bnd (c_side X hw kw), e_bnd (c_rank X hj (Or.inl kj))]
  by_cases q2 : rk w = rk j
  · rw [e_if (eqr.mpr q2), e_bnd (c_side X hj (Or.inl kj))]
    by_cases q4 : sd w = sd j
    · rw [e_if (eqs.mpr q4)]
      by_cases q5 : sd w = 2
      · rw [e_if (es2.mpr q5), if_pos ⟨q2, Or.inr q5⟩]; rfl
      · rw [e_el (fun z => q5 (es2.mp z)), J44, if_neg (c := rk w = rk j ∧ (sd w ≠ sd j ∨ sd w = 2)) (by omega)]
    · rw [e_el (fun z => q4 (eqs.mp z)), if_pos ⟨q2, Or.inl q4⟩]; rfl
  · rw [e_el (fun z => q2 (eqr.mp z)), J44, if_neg (c := rk w = rk j ∧ (sd w ≠ sd j ∨ sd w = 2)) (by omega)]
/-- one turn of the reference, alike -/
theorem m_fate {τ : fx_S} (Y : cxR K O n pt rk sd s τ) {w j : Nat} (hw : w < n) (hj : j < n) (kw : K w = 1 ∨ K w = 2) (hrw : rk w < 10) (hsw : sd w < 3) (hrj : rk j < 10) (hsj : sd j < 3) (hpt : pt = 0 ∨ pt = 1) (k51 : Int32 → Int32 → Int32 → Int32 → Int32 → Int32 → fx_M Unit) :
    F_Md_comes_B51 k51 (nI s) (nI j) (nI (rk j)) (nI (sd j)) (nI w) 1 τ = (if rk w = rk j ∧ (sd w ≠ sd j ∨ sd w = 2) then (fx_bnd (F_Md_clashes 1 (nI w) (nI j)) fun _ => fx_ret ()) else if rk j < rk w ∨ (rk w = rk j ∧ sd w = 0) then (if K w = 1 ∧ 0 < w ∧ K (w - 1) = 3 then (fx_bnd (F_Md_clashes 3 (nI w) (nI j)) fun _ => fx_ret ()) else (fx_bnd (s_Md_waits (nI w) 0) fun _ => fx_bnd (l_Md_group (nI j)) fun x12 => fx_bnd (F_Md_newest x12 (nI j)) fun x13 => if x13 = (-1) then k51 (nI s) (nI j) (nI (rk j)) (nI (sd j)) x13 0 else k51 (nI s) (nI j) (nI (rk j)) (nI (sd j)) x13 1)) else if pt = 1 ∧ K w = 2 then (fx_bnd (F_Md_clashes 4 (nI w) (nI j)) fun _ => fx_ret ()) else k51 (nI s) (nI j) (nI (rk j)) (nI (sd j)) (nI w) 0) τ := by
  have eqr : (nI (rk w) = nI (rk j)) ↔ rk w = rk j := q_eq (by omega) (by omega)
  have eqs : (nI (sd w) = nI (sd j)) ↔ sd w = sd j := q_eq (by omega) (by omega)
  have ltr : (nI (rk j) < nI (rk w)) ↔ rk j < rk w := q_lt (by omega) (by omega)
  have es1 : (nI (sd j) ≤ 1) ↔ sd j ≤ 1 := q_le1 (by omega)
  have es0 : (nI (sd j) = 0) ↔ sd j = 0 := q_eq0 (by omega)
  have J129 : F_Md_comes_J129 k51 (nI s) (nI j) (nI (rk j)) (nI (sd j)) (nI w) τ = (if K w = 1 ∧ 0 < w ∧ K (w - 1) = 3 then (fx_bnd (F_Md_clashes 3 (nI w) (nI j)) fun _ => fx_ret ()) else (fx_bnd (s_Md_waits (nI w) 0) fun _ => fx_bnd (l_Md_group (nI j)) fun x12 => fx_bnd (F_Md_newest x12 (nI j)) fun x13 => if x13 = (-1) then k51 (nI s) (nI j) (nI (rk j)) (nI (sd j)) x13 0 else k51 (nI s) (nI j) (nI (rk j)) (nI (sd j)) x13 1)) τ := by
    rw [F_Md_comes_J129, e_bnd (m_begins Y hw)]
    by_cases q : K w = 1 ∧ 0 < w ∧ K (w - 1) = 3
    · rw [if_pos q, e_el (by decide), e_if q]
    · rw [if_neg q, e_if rfl, e_el q]; rfl
  have J184 : F_Md_comes_J184 k51 (nI s) (nI j) (nI (rk j)) (nI (sd j)) (nI w) τ = (if pt = 1 ∧ K w = 2 then (fx_bnd (F_Md_clashes 4 (nI w) (nI j)) fun _ => fx_ret ()) else k51 (nI s) (nI j) (nI (rk j)) (nI (sd j)) (nI w) 0) τ := by
    rw [F_Md_comes_J184, e_bnd (e_gI _ _), Y.2.2.1]
    rcases hpt with rfl | rfl
    · rw [e_if rfl, e_el (c := _ ∧ _) (fun z => absurd z.1 (by decide))]; rfl
    · rw [e_el (by decide), e_bnd (m_kd Y hw)]
      by_cases q : K w = 2
      · rw [e_if q, e_if ⟨rfl, q⟩]
      · rw [e_el q, e_el (c := _ ∧ _) (fun z => q z.2)]; rfl
  have J112 : ¬ (rk w = rk j ∧ (sd w ≠ sd j ∨ sd w = 2)) → F_Md_comes_J112 k51 (nI s) (nI j) (nI (rk j)) (nI (sd j)) (nI w) (nI (rk w)) τ = (if rk j < rk w ∨ (rk w = rk j ∧ sd w = 0) then F_Md_comes_J129 k51 (nI s) (nI j) (nI (rk j)) (nI (sd j)) (nI w) else F_Md_comes_J184 k51 (nI s) (nI j) (nI (rk j)) (nI (sd j)) (nI w)) τ := by
    intro hne
    rw [F_Md_comes_J112]
    by_cases q1 : rk j < rk w
    · rw [e_if (ltr.mpr q1), e_if (Or.inl q1)]
    · rw [e_el (fun z => q1 (ltr.mp z))]
      by_cases q2 : rk w = rk j
      · rw [e_if (eqr.mpr q2)]
        have q4 : sd w = sd j := by
          by_cases q4 : sd w = sd j
          · exact q4
          · exact absurd ⟨q2, Or.inl q4⟩ hne
        by_cases q3 : sd j = 0
        · rw [e_if (es0.mpr q3), e_if (Or.inr ⟨q2, by omega⟩)]
        · rw [e_el (fun z => q3 (es0.mp z)), e_el (c := rk j < rk w ∨ rk w = rk j ∧ sd w = 0) (by omega)]
      · rw [e_el (fun z => q2 (eqr.mp z)), e_el (c := rk j < rk w ∨ rk w = rk j ∧ sd w = 0) (by omega)]
  rw [F_Md_comes_B51, e_el (by decide), e_bnd (m_opr Y hw), e_bnd (m_rank Y hw kw), e_bnd (m_opr Y hw), e_bnd (m_side Y hw kw)]
  by_cases q2 : rk w = rk j
  · rw [e_if (eqr.mpr q2)]
    by_cases q4 : sd w = sd j
    · rw [e_if (eqs.mpr q4)]
      by_cases q5 : sd w = 2
      · rw [e_el (fun z => by have := es1.mp z; omega), e_if ⟨q2, Or.inr q5⟩]; rfl
      · have hne : ¬ (rk w = rk j ∧ (sd w ≠ sd j ∨ sd w = 2)) := by omega
        rw [e_if (es1.mpr (by omega)), J112 hne, e_el hne]
        by_cases q : rk j < rk w ∨ (rk w = rk j ∧ sd w = 0)
        · rw [e_if q, e_if q, J129]
        · rw [e_el q, e_el q, J184]
    · rw [e_el (fun z => q4 (eqs.mp z)), e_if ⟨q2, Or.inl q4⟩]; rfl
  · have hne : ¬ (rk w = rk j ∧ (sd w ≠ sd j ∨ sd w = 2)) := fun z => q2 z.1
    rw [e_el (fun z => q2 (eqr.mp z)), J112 hne, e_el hne]
    by_cases q : rk j < rk w ∨ (rk w = rk j ∧ sd w = 0)
    · rw [e_if q, e_if q, J129]
    · rw [e_el q, e_el q, J184]
end RUN
/-! OPERATORS, NEGATIONS, GROUPS -/
theorem e_loop6 {A A2 A3 A4 A5 A6 R : Type} (b : (A → A2 → A3 → A4 → A5 → A6 → fx_M R) → A → A2 → A3 → A4 → A5 → A6 → fx_M R) (n : Nat) : fx_loop6 b (n + 1) = b (fx_loop6 b n) := rfl
def nwA (ws : List Nat) : Int32 := match ws with | [] => -1 | w :: _ => nI w
def onA (ws : List Nat) : Int32 := match ws with | [] => 0 | _ :: _ => 1
section RUN2
variable {K O : Nat → Int32} {n : Nat} {pt : Int32} {rk sd : Nat → Nat} {s : Nat}
theorem W_ok {T : Nat → Nat → Int32} {ws qs bs : List Nat} {wl ql : List (List Nat)} {j : Nat} (hpw : bs.Pairwise (fun a b => b < a)) (r : sO bs + ws.length + qs.length ≤ j ∧ (∀ x ∈ ws, sO bs ≤ x ∧ x < j ∧ (K x = 1 ∨ K x = 2)) ∧ ws.Pairwise (fun a b => b < a)) (L : LR K rk sd T bs wl ql) :
    (∀ x ∈ ws ++ wl.flatten, x < j ∧ (K x = 1 ∨ K x = 2)) ∧ (ws ++ wl.flatten).Pairwise (fun a b => b < a) ∧ (∀ x ∈ wl.flatten, x + 1 < sO bs) ∧ (ws ++ wl.flatten).length + (qs ++ ql.flatten).length ≤ j ∧ wl.length = bs.length ∧ sO bs ≤ j := by
  obtain ⟨r1, r2, r3⟩ := r
  obtain ⟨l1, l2, l3, l4⟩ := LR_rng hpw L
  refine ⟨fun x hx => ?_, List.pairwise_append.mpr ⟨r3, l3, fun x hx y hy => ?_⟩, fun x hx => (l2 x hx).1, by rw [List.length_append, List.length_append]; omega, l4, by omega⟩
  · rcases List.mem_append.mp hx with hx | hx
    · exact (r2 x hx).2
    · have := l2 x hx; exact ⟨by omega, this.2⟩
  · have := r2 x hx; have := l2 y hy; omega
/-- j waits, on both sides -/
theorem r_end {σ τ : fx_S} {j M : Nat} {bs ws qs ts : List Nat} {wl ql : List (List Nat)} (hj : j < 200) (hg : gO (stk K j) = gO bs) (H : SX K rk sd σ τ (j + 1) bs ws wl qs ql M) (hl : (ws ++ wl.flatten).length < 200) (hpw : bs.Pairwise (fun a b => b < a)) : ∃ σ' τ', F_Resolver_letWait (nI j) σ = some ((), σ') ∧ s_Md_waits (nI j) 1 τ = some ((), τ') ∧ (∀ a, 22 ≤ a → a ≤ 25 → σ'.2.1 a = σ.2.1 a) ∧ SX K rk sd σ' τ' (j + 1) bs (j :: ws) wl qs ql (max M ((j :: ws) ++ wl.flatten).length) ∧ frC σ σ' ∧ frG τ τ' ∧ τ'.1 = τ.1 := by
  obtain ⟨h1, h2, h3, h4⟩ := H
  obtain ⟨σ', a1, a2, a3, a4⟩ := k_wait h3 hl j
  refine ⟨σ', (τ.1, va_up τ.2.1 17 (upd (τ.2.1 17) j 1), τ.2.2), a1, e_sZ1 hj (by omega), a4, ⟨fun w hw => ?_, LR_cg (T := σ.2.1) (fun i _ => ?_) (fun b c t hb => ?_) hpw h2, a2, fun p hp => ?_⟩, a3, ⟨fun _ _ => rfl, fun a ha => va_up_ne _ _ (by omega), rfl⟩, rfl⟩
  · rcases List.mem_cons.mp hw with rfl | hw
    · exact hg
    · exact h1 w hw
  · unfold agT
    rw [a4 22 (by omega) (by omega), a4 23 (by omega) (by omega), a4 24 (by omega) (by omega), a4 25 (by omega) (by omega)]
    exact ⟨rfl, rfl, rfl, rfl⟩
  · subst hb
    exact (List.pairwise_cons.mp hpw).1 c (by simp)
  · show upd (τ.2.1 17) j 1 p = _
    by_cases e : p = j
    · subst e; rw [q_us, if_pos (by simp)]
    · rw [q_un _ _ e, h4 p hp]
      have : (p ∈ (j :: ws) ++ wl.flatten) = (p ∈ ws ++ wl.flatten) := by
        rw [List.cons_append, List.mem_cons]
        exact propext ⟨fun q => q.resolve_left e, Or.inr⟩
      simp only [this]
theorem CT_ag {T T' : Nat → Nat → Int32} {ws qs : List Nat} {a j : Nat} (h : ∀ a, 22 ≤ a → a ≤ 25 → T' a = T a) (H : CT K rk sd T ws qs a j) : CT K rk sd T' ws qs a j := CT_cg (fun i _ => by
  unfold agT
  rw [h 22 (by omega) (by omega), h 23 (by omega) (by omega), h 24 (by omega) (by omega), h 25 (by omega) (by omega)]
  exact ⟨rfl, rfl, rfl, rfl⟩) H
theorem LR_fin {T T' : Nat → Nat → Int32} {bs : List Nat} {wl ql : List (List Nat)} {w : Nat} (hpw : bs.Pairwise (fun a b => b < a)) (hw : sO bs ≤ w) (e : ∀ i, i ≠ w → agT T T' i) (L : LR K rk sd T bs wl ql) : LR K rk sd T' bs wl ql :=
  LR_cg (fun i hi => e i (by omega)) (fun b c t hb => by subst hb; exact (List.pairwise_cons.mp hpw).1 c (by simp)) hpw L
theorem fnF_ag {w : Nat} {σ σ' : fx_S} (h : fnF w σ σ') : ∀ i, i ≠ w → agT σ.2.1 σ'.2.1 i := fun i hi => ⟨h.2.2.2 22 i hi (by omega) (by omega), h.2.2.2 23 i hi (by omega) (by omega), h.2.2.2 24 i hi (by omega) (by omega), h.2.2.2 25 i hi (by omega) (by omega)⟩
theorem nkA_plain {w : Nat} (h1 : K w = 1) (h2 : ¬ K (w - 1) = 3) (h3 : ¬ K (w + 1) = 4) : nkA K n w = 1 := by
  unfold nkA
  rw [h1, if_neg (by decide), if_neg (fun z => h2 z.2.2), if_neg (fun z => h3 z.2.2)]
/-- the newest is popped and finished -/
theorem r_pop {σ : fx_S} {j M w : Nat} {bs ws qs ts : List Nat} {wl ql : List (List Nat)} (X : cxC K O n pt rk sd σ) (hjn : j ≤ n) (hpw : bs.Pairwise (fun a b => b < a)) (H : CC K rk sd σ.2.1 (w :: ws) qs (sO bs) j ts) (L : LR K rk sd σ.2.1 bs wl ql) (S : CS σ (w :: ws) wl (qs ++ ql.flatten) M) (hns : ¬ (K w = 1 ∧ 0 < w ∧ K (w - 1) = 3)) :
    ∃ σ1 σ2 qs' t1, F_IntStack0_pop σ = some (nI w, σ1) ∧ F_Resolver_finish (nI w) σ1 = some ((), σ2) ∧ frC σ σ2 ∧ CC K rk sd σ2.2.1 ws qs' (sO bs) j (t1 ++ w :: ts) ∧ (∀ x ∈ t1, hiA rk sd x w) ∧ LR K rk sd σ2.2.1 bs wl ql ∧ CS σ2 ws wl (qs' ++ ql.flatten) M := by
  have hn := X.1
  obtain ⟨g1, g2, g3, g4, g5, g6⟩ := W_ok hpw (CC_rng H) L
  obtain ⟨s1, s2, s3, s4, s5, s6, s7, s8, s9⟩ := S
  have hlen : ((w :: ws) ++ wl.flatten).length = (ws ++ wl.flatten).length + 1 := by rw [List.cons_append, List.length_cons]
  have hwr := (CC_rng H).2.1 w (by simp)
  have p0 : F_IntStack0_pop σ = some (nI w, (va_up σ.1 225 (nI (ws ++ wl.flatten).length), σ.2.1, σ.2.2)) := k_pop0 (l := ws ++ wl.flatten) s1 (by rw [hlen] at g4; omega)
  obtain ⟨σ1, e1⟩ : ∃ σ1 : fx_S, σ1 = (va_up σ.1 225 (nI (ws ++ wl.flatten).length), σ.2.1, σ.2.2) := ⟨_, rfl⟩
  rw [← e1] at p0
  have fr1 : frC σ σ1 := by rw [e1]; exact ⟨fun r hr => va_up_ne _ _ (by omega), fun _ _ => rfl, rfl⟩
  have X1 := cxC_fr X fr1
  have b1 : σ1.2.1 = σ.2.1 := by rw [e1]
  have r1 : ∀ r, r ≠ 225 → σ1.1 r = σ.1 r := fun r hr => by rw [e1]; exact va_up_ne _ _ hr
  have fin : ∀ σ2, fnF w σ1 σ2 → ∀ Q, SK (σ2.1 289) (σ2.2.1 19) Q → LR K rk sd σ2.2.1 bs wl ql ∧ CS σ2 ws wl Q M := by
    intro σ2 hf Q hQ
    have ag : ∀ i, i ≠ w → agT σ.2.1 σ2.2.1 i := by rw [← b1]; exact fnF_ag hf
    refine ⟨LR_fin hpw hwr.1 ag L, ?_, ?_, hQ, ?_, by rw [hlen] at s5; omega, s6, ?_, ?_, ?_⟩
    · rw [hf.1 225 (by omega), hf.2.1 15 (by omega) (by omega) (by omega) (by omega) (by omega), e1]
      exact (SK_pop s1).1
    · rw [hf.1 257 (by omega), r1 257 (by omega), hf.2.1 17 (by omega) (by omega) (by omega) (by omega) (by omega), b1]; exact s2
    · rw [hf.1 218 (by omega), r1 218 (by omega)]; exact s4
    · rw [hf.1 219 (by omega), r1 219 (by omega)]; exact s7
    · rw [hf.1 220 (by omega), r1 220 (by omega)]; exact s8
    · rw [hf.1 221 (by omega), r1 221 (by omega)]; exact s9
  have s3' : SK (σ1.1 289) (σ1.2.1 19) (qs ++ ql.flatten) := by rw [r1 289 (by omega), b1]; exact s3
  obtain ⟨hwj, C⟩ := CC_red H
  rcases C with ⟨kw, q, qs', z1, h1, rfl, hwq, hqj, hz, hh, hb, C⟩ | ⟨c1, c2, c3, -⟩ | ⟨kw, c2, c3, c4, q2, q1, qs', z1, h1, z2, h2, t1, rfl, hq1, hq2, hqj, hz1, hh1, hb1, hz2, hh2, hb2, ht1, C⟩
  · rw [List.cons_append] at s3'
    simp only [List.cons_append, List.length_cons] at g4
    obtain ⟨σ2, a1, a2, a3, a4⟩ := f_fin2 (z := z1) (h := h1) X1 (show w < n by omega) (Or.inl ((nkA_2 (Or.inr kw)).mpr kw)) s3' (by omega) (by omega) (by omega) (by rw [b1]; exact hz) (by rw [b1]; exact hh) (by omega)
    obtain ⟨L2, S2⟩ := fin σ2 a4 _ a2
    exact ⟨σ1, σ2, w :: qs', [], p0, a1, frC_tr fr1 (fnF_fr a4), C _ (by rw [← b1]; exact fnF_ag a4) a3, fun x hx => by simp at hx, L2, S2⟩
  · exact absurd ⟨c1, c2, c3⟩ hns
  · rw [List.cons_append, List.cons_append] at s3'
    simp only [List.cons_append, List.length_cons] at g4
    obtain ⟨σ2, a1, a2, a3, a4⟩ := f_fin1 (z1 := z1) (h1 := h1) (z2 := z2) (h2 := h2) X1 (show w < n by omega) (nkA_plain kw c3 c4) s3' (by omega) (by omega) (by omega) (by rw [b1]; exact hz1) (by rw [b1]; exact hh1) (by omega) (by omega) (by omega) (by rw [b1]; exact hz2) (by rw [b1]; exact hh2) (by omega)
    obtain ⟨L2, S2⟩ := fin σ2 a4 _ a2
    exact ⟨σ1, σ2, w :: qs', t1, p0, a1, frC_tr fr1 (fnF_fr a4), C _ (by rw [← b1]; exact fnF_ag a4) a3, ht1, L2, S2⟩
theorem r_one {σ : fx_S} {ws Q : List Nat} {wl : List (List Nat)} {M : Nat} (S : CS σ ws wl Q M) (hl : wl.length < 200) : F_Resolver_oneWaits σ = some (onA ws, σ) := by
  obtain ⟨s1, s2, s3, s4, s5, s6, -⟩ := S
  obtain ⟨t, h1, h2⟩ := bef_hd wl
  rw [h1] at s2
  rw [List.length_append] at s5
  rw [k_one s1.1 (by rw [List.length_append]; omega) s2 (by omega) (by omega)]
  cases ws with
  | nil => rw [if_pos (by simp)]; rfl
  | cons w ws => rw [if_neg (by rw [List.length_append, List.length_cons]; omega)]; rfl
theorem r_oper {j : Nat} {bs : List Nat} {wl ql : List (List Nat)} (hj : j < n) (kj : K j = 1) (h0 : 0 < j) (h3 : ¬ K (j - 1) = 3) (hb : stk K j = bs) (hb40 : bs.length ≤ 40) : ∀ (ws qs ts : List Nat) (σ τ : fx_S) (M turn f1 f2 : Nat), cxC K O n pt rk sd σ → cxR K O n pt rk sd s τ → LN K n τ → CC K rk sd σ.2.1 ws qs (sO bs) j ts → (∀ x ∈ ts, hiA rk sd x j) → SX K rk sd σ τ (j + 1) bs ws wl qs ql M → turn + ws.length < 200 →
    ∃ σ' τ', fx_loop2 F_Resolver_meetOperator_B2 (f1 + ws.length + 1) (nI j) (nI turn) σ = some ((), σ') ∧ fx_loop6 F_Md_comes_B51 (f2 + ws.length + 1 + 1) (nI s) (nI j) (nI (rk j)) (nI (sd j)) (nwA ws) (onA ws) τ = some ((), τ') ∧
      (clP σ τ σ' τ' ∨ ∃ ws' qs', CT K rk sd σ'.2.1 (j :: ws') qs' (sO bs) (j + 1) ∧ SX K rk sd σ' τ' (j + 1) bs (j :: ws') wl qs' ql (max M ((j :: ws') ++ wl.flatten).length) ∧ frC σ σ' ∧ frG τ τ' ∧ τ'.1 = τ.1) := by
  have hpw : bs.Pairwise (fun a b => b < a) := by rw [← hb]; exact stk_pw
  -- j is let wait
  have E : ∀ (ws qs ts : List Nat) (σ τ : fx_S) (M : Nat), cxC K O n pt rk sd σ → CC K rk sd σ.2.1 ws qs (sO bs) j ts → (∀ x ∈ ts, hiA rk sd x j) → hdA rk sd ws j → SX K rk sd σ τ (j + 1) bs ws wl qs ql M → ∃ σ' τ', F_Resolver_meetOperator_J72 (nI j) σ = some ((), σ') ∧ (fx_bnd (s_Md_waits (nI j) 1) fun _ => fx_ret ()) τ = some ((), τ') ∧ CT K rk sd σ'.2.1 (j :: ws) qs (sO bs) (j + 1) ∧ SX K rk sd σ' τ' (j + 1) bs (j :: ws) wl qs ql (max M ((j :: ws) ++ wl.flatten).length) ∧ frC σ σ' ∧ frG τ τ' ∧ τ'.1 = τ.1 := by
    intro ws qs ts σ τ M X C ht hd S
    have hn := X.1
    obtain ⟨g1, g2, g3, g4, g5, g6⟩ := W_ok hpw (CC_rng C) S.2.1
    obtain ⟨σ', τ', a1, a2, a3, a4, a5⟩ := r_end (ts := ts) (by omega) (by rw [hb]) S (by omega) hpw
    refine ⟨σ', τ', ?_, ?_, ?_, a4, a5⟩
    · rw [F_Resolver_meetOperator_J72, e_bnd a1]; rfl
    · rw [e_bnd a2]; rfl
    · obtain ⟨p, qs', a, z, h, rfl, c1, c2, c3, c4⟩ := C
      have : CT K rk sd σ.2.1 (j :: ws) (p :: qs') (sO bs) (j + 1) := ⟨rfl, hd, Or.inr (Or.inr ⟨kj, h0, h3, p, qs', a, z, h, ts, rfl, c2, c3, ht, c4⟩)⟩
      exact CT_ag a3 this
  intro ws
  induction ws with
  | nil =>
    intro qs ts σ τ M turn f1 f2 X Y hL C ht S htn
    obtain ⟨g1, g2, g3, g4, g5, g6⟩ := W_ok hpw (CC_rng C) S.2.1
    obtain ⟨σ', τ', a1, a2, a3, a4, a5⟩ := E [] qs ts σ τ M X C ht (fun w hw => by simp at hw) S
    refine ⟨σ', τ', ?_, ?_, Or.inr ⟨[], qs, a3, a4, a5⟩⟩
    · rw [e_loop2, F_Resolver_meetOperator_B2, e_el (by rw [q_200le (by omega)]; omega), e_bnd (r_one S.2.2.1 (by omega)), e_if (c := onA [] = 0) rfl, a1]
    · rw [e_loop6, F_Md_comes_B51, e_if (c := onA [] = 0) rfl]; exact a2
  | cons w ws ih =>
    intro qs ts σ τ M turn f1 f2 X Y hL C ht S htn
    have hn := X.1
    rw [List.length_cons] at htn
    obtain ⟨g1, g2, g3, g4, g5, g6⟩ := W_ok hpw (CC_rng C) S.2.1
    obtain ⟨wj, kw⟩ := g1 w (by simp)
    obtain ⟨ow, -, -, -, -, hrw, hsw, -⟩ := X.2.2.2.2.2.2.2 w (by omega) kw
    obtain ⟨oj, -, -, -, -, hrj, hsj, -⟩ := X.2.2.2.2.2.2.2 j hj (Or.inl kj)
    have hpt := X.2.2.2.1
    have etop : F_IntStack0_top σ = some (nI w, σ) := k_top0 (l := ws ++ wl.flatten) S.2.2.1.1 (by
      rw [List.cons_append, List.length_cons] at g4; omega)
    have ec : fx_loop2 F_Resolver_meetOperator_B2 (f1 + (w :: ws).length + 1) (nI j) (nI turn) σ = (fx_bnd (F_Resolver_fateOf (nI w) (nI j)) fun x3 => if x3 = (-1) then F_Resolver_meetOperator_J72 (nI j) else if x3 = 0 then (fx_bnd (F_IntStack0_pop) fun x4 => fx_bnd (F_Resolver_finish x4) fun _ => fx_bnd (fx_pur (nI turn + 1)) fun x5 => fx_loop2 F_Resolver_meetOperator_B2 (f1 + ws.length + 1) (nI j) x5) else (fx_bnd (F_Resolver_note x3 (nI w) (nI j)) fun _ => fx_ret ())) σ := by
      rw [show f1 + (w :: ws).length + 1 = (f1 + ws.length + 1) + 1 by rw [List.length_cons]; omega, e_loop2, F_Resolver_meetOperator_B2, e_el (by rw [q_200le (by omega)]; omega), e_bnd (r_one S.2.2.1 (by omega)), e_el (c := onA (w :: ws) = 0) (show ¬ (1 : Int32) = 0 by decide), e_bnd etop]
    have er : fx_loop6 F_Md_comes_B51 (f2 + (w :: ws).length + 1 + 1) (nI s) (nI j) (nI (rk j)) (nI (sd j)) (nwA (w :: ws)) (onA (w :: ws)) τ = F_Md_comes_B51 (fx_loop6 F_Md_comes_B51 (f2 + ws.length + 1 + 1)) (nI s) (nI j) (nI (rk j)) (nI (sd j)) (nI w) 1 τ := by
      rw [show f2 + (w :: ws).length + 1 + 1 = (f2 + ws.length + 1 + 1) + 1 by rw [List.length_cons]; omega, e_loop6]
      rfl
    rw [ec, er, m_fate Y (show w < n by omega) hj kw hrw hsw hrj hsj hpt, e_bnd (k_fate X (by omega) hj kw kj)]
    have clash : ∀ k : Int32, ¬ k = -1 → ¬ k = 0 → ∃ σ' τ', (if k = (-1) then F_Resolver_meetOperator_J72 (nI j) else if k = 0 then (fx_bnd (F_IntStack0_pop) fun x4 => fx_bnd (F_Resolver_finish x4) fun _ => fx_bnd (fx_pur (nI turn + 1)) fun x5 => fx_loop2 F_Resolver_meetOperator_B2 (f1 + ws.length + 1) (nI j) x5) else (fx_bnd (F_Resolver_note k (nI w) (nI j)) fun _ => fx_ret ())) σ = some ((), σ') ∧ (fx_bnd (F_Md_clashes k (nI w) (nI j)) fun _ => fx_ret ()) τ = some ((), τ') ∧ clP σ τ σ' τ' := by
      intro k k1 k0
      refine ⟨_, _, ?_, ?_, clP_note (k := k) (a := nI w) (b := nI j) k1⟩
      · rw [e_el k1, e_el k0, e_bnd (k_note _ _ _)]; rfl
      · rw [e_bnd (m_clashes _ _ _)]; rfl
    by_cases q1 : rk w = rk j ∧ (sd w ≠ sd j ∨ sd w = 2)
    · rw [if_pos q1, e_if q1]
      obtain ⟨σ', τ', a1, a2, a3⟩ := clash 1 (by decide) (by decide)
      exact ⟨σ', τ', a1, a2, Or.inl a3⟩
    · rw [if_neg q1, e_el q1]
      by_cases q2 : rk j < rk w ∨ (rk w = rk j ∧ sd w = 0)
      · rw [if_pos q2, e_if q2]
        by_cases q3 : K w = 1 ∧ 0 < w ∧ K (w - 1) = 3
        · rw [if_pos q3, e_if q3]
          obtain ⟨σ', τ', a1, a2, a3⟩ := clash 3 (by decide) (by decide)
          exact ⟨σ', τ', a1, a2, Or.inl a3⟩
        · rw [if_neg q3, e_el q3, e_el (by decide), e_if rfl]
          obtain ⟨σ1, σ2, qs', t1, b1, b2, b3, b4, b5, b6, b7⟩ := r_pop X (by omega) hpw C S.2.1 S.2.2.1 q3
          rw [e_bnd b1, e_bnd b2, e_bnd (e_pur _ _), nI_1]
          let τ1 : fx_S := (τ.1, va_up τ.2.1 17 (upd (τ.2.1 17) w 0), τ.2.2)
          have ew : s_Md_waits (nI w) 0 τ = some ((), τ1) := e_sZ0 (by omega) (by omega)
          have fg : frG τ τ1 := ⟨fun _ _ => rfl, fun a ha => va_up_ne _ _ (by omega), rfl⟩
          have Y1 := cxR_G Y fg
          have hL1 : LN K n τ1 := LN_fr hL ⟨rfl, rfl⟩
          have hwt : wtR (j + 1) (ws ++ wl.flatten) τ1 := by
            intro p hp
            show upd (τ.2.1 17) w 0 p = _
            have hnw : w ∉ ws ++ wl.flatten := fun hm => by
              have := (List.pairwise_cons.mp g2).1 w hm; omega
            by_cases e : p = w
            · subst e; rw [q_us, if_neg hnw]
            · rw [q_un _ _ e, S.2.2.2 p hp]
              have : (p ∈ (w :: ws) ++ wl.flatten) = (p ∈ ws ++ wl.flatten) := by
                rw [List.cons_append, List.mem_cons]
                exact propext ⟨fun q => q.resolve_left e, Or.inr⟩
              simp only [this]
          have S1 : SX K rk sd σ2 τ1 (j + 1) bs ws wl qs' ql M := ⟨fun x hx => S.1 x (List.mem_cons_of_mem _ hx), b6, b7, hwt⟩
          have egr : l_Md_group (nI j) τ1 = some (gO bs, τ1) := by
            rw [l_Md_group, e_lA (by omega) (by omega), hL1.1 j hj (by rw [kj]; decide), hb]
          obtain ⟨w1, w2, w3, w4, w5, w6⟩ := W_ok hpw (CC_rng b4) b6
          have enw : F_Md_newest (gO bs) (nI j) τ1 = some (nwA ws, τ1) := m_new (by omega) (by omega) hL1 (fun p hp => hwt p (by omega)) w1 S1.1 w2 w3 (by omega)
          rw [e_bnd ew, e_bnd egr, e_bnd enw]
          obtain ⟨σ', τ', i1, i2, i3⟩ := ih qs' (t1 ++ w :: ts) σ2 τ1 M (turn + 1) f1 f2 (cxC_fr X b3) Y1 hL1 b4 (by
            intro x hx
            have hwj : hiA rk sd w j := by
              unfold hiA
              rcases q2 with q2 | ⟨q2, q2'⟩
              · exact Or.inl q2
              · refine Or.inr ⟨q2, ?_⟩
                by_cases e : sd w = sd j
                · omega
                · exact absurd ⟨q2, Or.inl e⟩ q1
            rcases List.mem_append.mp hx with hx | hx
            · have := b5 x hx
              unfold hiA at *; omega
            · rcases List.mem_cons.mp hx with rfl | hx
              · exact hwj
              · exact ht x hx) S1 (by omega)
          refine ⟨σ', τ', i1, ?_, ?_⟩
          · rw [← i2]
            cases ws with
            | nil => rw [e_if (c := nwA [] = -1) rfl]; rfl
            | cons x ws => rw [e_el (c := nwA (x :: ws) = -1) (q_m1 (by have := w1 x (by simp); omega))]; rfl
          · rcases i3 with i3 | ⟨ws', qs'', i3, i4, i5, i6, i7⟩
            · exact Or.inl (clP_tr b3 fg i3)
            · exact Or.inr ⟨ws', qs'', i3, i4, frC_tr b3 i5, frG_tr fg i6, i7⟩
      · rw [if_neg q2, e_el q2]
        by_cases q3 : pt = 1 ∧ K w = 2
        · rw [if_pos q3, e_if q3]
          obtain ⟨σ', τ', a1, a2, a3⟩ := clash 4 (by decide) (by decide)
          exact ⟨σ', τ', a1, a2, Or.inl a3⟩
        · rw [if_neg q3, e_el q3, e_if rfl]
          obtain ⟨σ', τ', a1, a2, a3, a4, a5⟩ := E (w :: ws) qs ts σ τ M X C ht (by
            intro x hx
            have : w = x := by simpa using hx
            subst this
            unfold lowA; omega) S
          refine ⟨σ', τ', a1, ?_, Or.inr ⟨w :: ws, qs, a3, a4, a5⟩⟩
          rw [e_loop6, F_Md_comes_B51, e_if rfl]; exact a2
end RUN2
/-! A GROUP IS FINISHED -/
section RUN3
variable {K O : Nat → Int32} {n : Nat} {pt : Int32} {rk sd : Nat → Nat} {s : Nat}
/-- what is left of a group when it is finished -/
def FG (K : Nat → Int32) (rk sd : Nat → Nat) (σ : fx_S) (bs : List Nat) (wl ql : List (List Nat)) (M p : Nat) : Prop :=
  SK (σ.1 225) (σ.2.1 15) wl.flatten ∧ SK (σ.1 257) (σ.2.1 17) (bef wl).tail ∧ SK (σ.1 289) (σ.2.1 19) (p :: ql.flatten) ∧ σ.1 218 = nI M ∧ (σ.1 219 = -1 ∧ σ.1 220 = -1 ∧ σ.1 221 = -1) ∧ LR K rk sd σ.2.1 bs wl ql
theorem r_fin0 {σ : fx_S} {p M turn f : Nat} {bs : List Nat} {wl ql : List (List Nat)} (hw : wl.length < 200) (ht : turn < 200) (S : CS σ [] wl (p :: ql.flatten) M) (L : LR K rk sd σ.2.1 bs wl ql) : ∃ σ', fx_loop1 F_Resolver_finishGroup_B2 (f + 1) (nI turn) σ = some ((), σ') ∧ frC σ σ' ∧ FG K rk sd σ' bs wl ql M p ∧ σ'.2.1 = σ.2.1 := by
  obtain ⟨t, h1, h2⟩ := bef_hd wl
  have s2 := S.2.1
  rw [h1] at s2
  refine ⟨(va_up σ.1 257 (nI t.length), σ.2.1, σ.2.2), ?_, ⟨fun r hr => va_up_ne _ _ (by omega), fun _ _ => rfl, rfl⟩, ⟨S.1, ?_, S.2.2.1, S.2.2.2.1, S.2.2.2.2.2.2, L⟩, rfl⟩
  · rw [e_loop1, F_Resolver_finishGroup_B2, e_el (by rw [q_200le (by omega)]; omega), e_bnd (r_one S hw), e_if (c := onA [] = 0) rfl, F_Resolver_finishGroup_J33, e_bnd (k_pop1 s2 (by omega))]; rfl
  · rw [h1]; exact (SK_pop s2).1
theorem r_fin {j : Nat} {bs : List Nat} {wl ql : List (List Nat)} (hjn : j ≤ n) (hpw : bs.Pairwise (fun a b => b < a)) (hb : bs.length < 200) : ∀ (ws qs ts : List Nat) (σ : fx_S) (M turn f : Nat), cxC K O n pt rk sd σ → CC K rk sd σ.2.1 ws qs (sO bs) j ts → LR K rk sd σ.2.1 bs wl ql → CS σ ws wl (qs ++ ql.flatten) M → turn + ws.length < 200 →
    ∃ σ' p, fx_loop1 F_Resolver_finishGroup_B2 (f + ws.length + 1) (nI turn) σ = some ((), σ') ∧ frC σ σ' ∧ FG K rk sd σ' bs wl ql M p ∧ ((∃ z h t, TR K rk sd σ'.2.1 (sO bs) (j - 1) p z h t) ∨ (K (sO bs) = 1 ∧ 0 < sO bs ∧ K (sO bs - 1) = 3 ∧ p = sO bs ∧ ∃ q z1 h1 t, TR K rk sd σ'.2.1 (sO bs + 1) (j - 1) q z1 h1 t ∧ ndA σ'.2.1 p (nI q) (-1) (1 + z1) (1 + h1))) := by
  intro ws
  induction ws with
  | nil =>
    intro qs ts σ M turn f X C L S ht
    obtain ⟨g1, g2, g3, g4, g5, g6⟩ := W_ok hpw (CC_rng C) L
    obtain ⟨p, qs', a, z, h, rfl, c1, ⟨rfl, rfl⟩, c3, -⟩ := C
    obtain ⟨σ', a1, a2, a3, a4⟩ := r_fin0 (f := f) (turn := turn) (p := p) (by omega) (by omega) S L
    exact ⟨σ', p, a1, a2, a3, Or.inl ⟨z, h, ts, by rw [a4]; exact c3⟩⟩
  | cons w ws ih =>
    intro qs ts σ M turn f X C L S ht
    have hn := X.1
    rw [List.length_cons] at ht
    obtain ⟨g1, g2, g3, g4, g5, g6⟩ := W_ok hpw (CC_rng C) L
    have ef : fx_loop1 F_Resolver_finishGroup_B2 (f + (w :: ws).length + 1) (nI turn) σ = (fx_bnd (F_IntStack0_pop) fun x3 => fx_bnd (F_Resolver_finish x3) fun _ => fx_bnd (fx_pur (nI turn + 1)) fun x4 => fx_loop1 F_Resolver_finishGroup_B2 (f + ws.length + 1) x4) σ := by
      rw [show f + (w :: ws).length + 1 = (f + ws.length + 1) + 1 by rw [List.length_cons]; omega, e_loop1, F_Resolver_finishGroup_B2, e_el (by rw [q_200le (by omega)]; omega), e_bnd (r_one S (by omega)), e_el (c := onA (w :: ws) = 0) (show ¬ (1 : Int32) = 0 by decide)]
    rw [ef]
    by_cases q3 : K w = 1 ∧ 0 < w ∧ K (w - 1) = 3
    · have hlen : ((w :: ws) ++ wl.flatten).length = (ws ++ wl.flatten).length + 1 := by rw [List.cons_append, List.length_cons]
      obtain ⟨s1, s2, s3, s4, s5, s6, s7, s8, s9⟩ := S
      obtain ⟨hwj, C⟩ := CC_red C
      rcases C with ⟨kw, -⟩ | ⟨c1, c2, c3, rfl, c5, q, z1, h1, rfl, c6, c7, c8⟩ | ⟨kw, c2, c3, -⟩
      · rw [q3.1] at kw; exact absurd kw (by decide)
      · have p0 : F_IntStack0_pop σ = some (nI w, (va_up σ.1 225 (nI wl.flatten.length), σ.2.1, σ.2.2)) := k_pop0 (l := wl.flatten) s1 (by rw [hlen] at g4; simp only [List.nil_append] at g4; omega)
        obtain ⟨σ1, e1⟩ : ∃ σ1 : fx_S, σ1 = (va_up σ.1 225 (nI wl.flatten.length), σ.2.1, σ.2.2) := ⟨_, rfl⟩
        rw [← e1] at p0
        have fr1 : frC σ σ1 := by rw [e1]; exact ⟨fun r hr => va_up_ne _ _ (by omega), fun _ _ => rfl, rfl⟩
        have b1 : σ1.2.1 = σ.2.1 := by rw [e1]
        have r1 : ∀ r, r ≠ 225 → σ1.1 r = σ.1 r := fun r hr => by rw [e1]; exact va_up_ne _ _ hr
        have io := TR_io c8
        have nd := TR_nd c8
        have s3' : SK (σ1.1 289) (σ1.2.1 19) (q :: ql.flatten) := by rw [r1 289 (by omega), b1]; exact s3
        obtain ⟨σ2, a1, a2, a3, a4⟩ := f_fin2 (z := z1) (h := h1) (cxC_fr X fr1) (show w < n by omega) (Or.inr (Or.inr ((nkA_4 (Or.inl c1)).mpr q3))) s3' (by simp only [List.cons_append, List.length_cons, List.nil_append] at g4; omega) (by omega) (by omega) (by rw [b1]; exact nd.1) (by rw [b1]; exact nd.2) (by omega)
        have ag : ∀ i, i ≠ w → agT σ.2.1 σ2.2.1 i := by rw [← b1]; exact fnF_ag a4
        have L2 := LR_fin hpw (show sO bs ≤ w by omega) ag L
        have S2 : CS σ2 [] wl (w :: ql.flatten) M := by
          refine ⟨?_, ?_, a2, ?_, by simp only [List.cons_append, List.length_cons, List.nil_append] at s5 ⊢; omega, s6, ?_, ?_, ?_⟩
          · rw [a4.1 225 (by omega), a4.2.1 15 (by omega) (by omega) (by omega) (by omega) (by omega), e1]
            exact (SK_pop s1).1
          · rw [a4.1 257 (by omega), r1 257 (by omega), a4.2.1 17 (by omega) (by omega) (by omega) (by omega) (by omega), b1]; exact s2
          · rw [a4.1 218 (by omega), r1 218 (by omega)]; exact s4
          · rw [a4.1 219 (by omega), r1 219 (by omega)]; exact s7
          · rw [a4.1 220 (by omega), r1 220 (by omega)]; exact s8
          · rw [a4.1 221 (by omega), r1 221 (by omega)]; exact s9
        obtain ⟨σ', d1, d2, d3, d4⟩ := r_fin0 (f := f) (turn := turn + 1) (by omega) (by omega) S2 L2
        refine ⟨σ', w, ?_, frC_tr fr1 (frC_tr (fnF_fr a4) d2), d3, Or.inr ⟨by rw [← c5]; exact c1, by omega, by rw [← c5]; exact c3, c5, q, z1, h1, ts, ?_, ?_⟩⟩
        · rw [e_bnd p0, e_bnd a1, e_bnd (e_pur _ _), nI_1]; exact d1
        · rw [d4]; exact TR_cg (T := σ.2.1) (fun i i1 i2 => ag i (by omega)) c8
        · rw [d4]; exact a3
      · exact absurd q3.2.2 c3
    · obtain ⟨σ1, σ2, qs', t1, b1, b2, b3, b4, b5, b6, b7⟩ := r_pop X hjn hpw C L S q3
      obtain ⟨σ', p, i1, i2, i3, i4⟩ := ih qs' (t1 ++ w :: ts) σ2 M (turn + 1) f (cxC_fr X b3) b4 b6 b7 (by omega)
      exact ⟨σ', p, by rw [e_bnd b1, e_bnd b2, e_bnd (e_pur _ _), nI_1]; exact i1, frC_tr b3 i2, i3, i4⟩
/-- the reference lets go what waited in the group -/
theorem m_clear {τ0 : fx_S} {j b : Nat} {g : Int32} (hj : j < 200) (hg : ∀ p, b < p → p < j → ¬ τ0.2.1 17 p = 0 → τ0.2.1 15 p = g) : ∀ (m i f : Nat) (τ : fx_S), m + i = j → b < i → τ.2.1 15 = τ0.2.1 15 → (∀ p, i ≤ p → τ.2.1 17 p = τ0.2.1 17 p) → ∃ τ', fx_loop3 F_Md_closes_B47 (f + m + 1) (nI j) g (nI i) τ = some ((), τ') ∧ τ'.1 = τ.1 ∧ frG τ τ' ∧ τ'.2.1 15 = τ.2.1 15 ∧ τ'.2.1 16 = τ.2.1 16 ∧ (∀ p, τ'.2.1 17 p = if i ≤ p ∧ p < j then 0 else τ.2.1 17 p)
  | 0, i, f, τ, h, _, _, _ => by
    have : i = j := by omega
    subst this
    refine ⟨τ, ?_, rfl, frG_rfl, rfl, rfl, fun p => by rw [if_neg (by omega)]⟩
    rw [e_loop3, F_Md_closes_B47, e_if (by rw [q_le (by omega) (by omega)]; omega)]; rfl
  | m + 1, i, f, τ, h, hb, h15, h17 => by
    let τ1 : fx_S := (τ.1, va_up τ.2.1 17 (upd (τ.2.1 17) i 0), τ.2.2)
    obtain ⟨τ', a1, a2, a3, a4, a5, a6⟩ := m_clear hj hg m (i + 1) f τ1 (by omega) (by omega) h15 (fun p hp => by
      show upd (τ.2.1 17) i 0 p = _
      rw [q_un _ _ (by omega)]; exact h17 p (by omega))
    have F1 : frG τ τ1 := ⟨fun _ _ => rfl, fun a ha => va_up_ne _ _ (by omega), rfl⟩
    refine ⟨τ', ?_, a2, frG_tr F1 a3, a4, a5, fun p => ?_⟩
    · rw [show f + (m + 1) + 1 = (f + m + 1) + 1 by omega, e_loop3, F_Md_closes_B47, e_el (by rw [q_le (by omega) (by omega)]; omega), e_bnd (e_lA (by omega) (by omega))]
      have fin : F_Md_closes_J80 (fx_loop3 F_Md_closes_B47 (f + m + 1)) (nI j) g (nI i) (nI i) τ = some ((), τ') := by
        rw [F_Md_closes_J80, F_Md_closes_J81, e_bnd (e_sZ0 (by omega) (by omega)), e_bnd (e_pur _ _), nI_1]; exact a1
      by_cases q : τ.2.1 17 i = 0
      · rw [e_if q, fin]
      · rw [e_el q, e_bnd (e_lA (by omega) (by omega)), e_if (by rw [h15]; exact hg i hb (by omega) (by rw [← h17 i (Nat.le_refl _)]; exact q)), fin]
    · rw [a6 p]
      show (if _ then _ else upd (τ.2.1 17) i 0 p) = _
      by_cases e : p = i
      · subst e; rw [if_neg (by omega), q_us, if_pos (by omega)]
      · rw [q_un _ _ e]
        by_cases q : i + 1 ≤ p ∧ p < j
        · rw [if_pos q, if_pos (by omega)]
        · rw [if_neg q, if_neg (by omega)]
end RUN3
/-! ONE ITEM -/
def PO (K : Nat → Int32) (rk sd : Nat → Nat) (σ τ σ' τ' : fx_S) (j M : Nat) : Prop := clP σ τ σ' τ' ∨ (frC σ σ' ∧ frG τ τ' ∧ τ'.1 = τ.1 ∧ ∃ ws wl qs ql, SX K rk sd σ' τ' (j + 1) (stk K (j + 1)) ws wl qs ql (max M (ws ++ wl.flatten).length) ∧ (dueA K (j + 1) → CT K rk sd σ'.2.1 ws qs (sO (stk K (j + 1))) (j + 1)) ∧ (¬ dueA K (j + 1) → CC K rk sd σ'.2.1 ws qs (sO (stk K (j + 1))) (j + 1) []))
section ITEM
variable {K O : Nat → Int32} {n : Nat} {pt : Int32} {rk sd : Nat → Nat} {s : Nat} {σ τ : fx_S} {j M : Nat} {ws qs : List Nat} {wl ql : List (List Nat)}
theorem due_s (j : Nat) : dueA K (j + 1) ↔ (K j = 1 ∨ K j = 2 ∨ K j = 3) := by
  unfold dueA
  rw [Nat.add_sub_cancel]
  constructor
  · rintro (h | h)
    · omega
    · exact h
  · exact Or.inr
theorem stk_s0 (h3 : ¬ K j = 3) (h4 : ¬ K j = 4) : stk K (j + 1) = stk K j := by
  simp only [stk]
  rw [if_neg h3, if_neg h4]
theorem CS_fin {w : Nat} {σ' : fx_S} {Q Q' : List Nat} (hf : fnF w σ σ') (S : CS σ ws wl Q M) (hQ : SK (σ'.1 289) (σ'.2.1 19) Q') : CS σ' ws wl Q' M := by
  obtain ⟨s1, s2, s3, s4, s5, s6, s7, s8, s9⟩ := S
  refine ⟨?_, ?_, hQ, ?_, s5, s6, ?_, ?_, ?_⟩
  · rw [hf.1 225 (by omega), hf.2.1 15 (by omega) (by omega) (by omega) (by omega) (by omega)]; exact s1
  · rw [hf.1 257 (by omega), hf.2.1 17 (by omega) (by omega) (by omega) (by omega) (by omega)]; exact s2
  · rw [hf.1 218 (by omega)]; exact s4
  · rw [hf.1 219 (by omega)]; exact s7
  · rw [hf.1 220 (by omega)]; exact s8
  · rw [hf.1 221 (by omega)]; exact s9
theorem LR_ag {T T' : Nat → Nat → Int32} {bs : List Nat} (hpw : bs.Pairwise (fun a b => b < a)) (h : ∀ a, 22 ≤ a → a ≤ 25 → T' a = T a) (L : LR K rk sd T bs wl ql) : LR K rk sd T' bs wl ql :=
  LR_cg (fun i _ => by
    unfold agT
    rw [h 22 (by omega) (by omega), h 23 (by omega) (by omega), h 24 (by omega) (by omega), h 25 (by omega) (by omega)]
    exact ⟨rfl, rfl, rfl, rfl⟩) (fun b c t hb => by subst hb; exact (List.pairwise_cons.mp hpw).1 c (by simp)) hpw L
theorem t_operand (X : cxC K O n pt rk sd σ) (hj : j < n) (kj : K j = 0) (C : CT K rk sd σ.2.1 ws qs (sO (stk K j)) j) (S : SX K rk sd σ τ (j + 1) (stk K j) ws wl qs ql M) : ∃ σ', F_Resolver_finish (nI j) σ = some ((), σ') ∧ PO K rk sd σ τ σ' τ j M := by
  have hn := X.1
  obtain ⟨g1, g2, g3, g4, g5, g6⟩ := W_ok stk_pw (CT_rng C) S.2.1
  obtain ⟨σ', a1, a2, a3, a4⟩ := f_fin0 X hj (by simp [nkA, kj]) S.2.2.1.2.2.1 (by omega)
  have hst : stk K (j + 1) = stk K j := stk_s0 (by rw [kj]; decide) (by rw [kj]; decide)
  refine ⟨σ', a1, Or.inr ⟨fnF_fr a4, frG_rfl, rfl, ws, wl, j :: qs, ql, ⟨by rw [hst]; exact S.1, by rw [hst]; exact LR_fin stk_pw g6 (fnF_ag a4) S.2.1, ?_, S.2.2.2⟩, fun h => ?_, fun _ => ?_⟩⟩
  · rw [Nat.max_eq_left S.2.2.1.2.2.2.2.1]
    exact CS_fin a4 S.2.2.1 a2
  · rw [due_s, kj] at h
    rcases h with h | h | h <;> exact absurd h (by decide)
  · rw [hst]
    refine ⟨j, qs, j, 1, 1, rfl, by omega, CT_cg (fun i hi => fnF_ag a4 i (by omega)) C, ⟨1, ?_⟩, fun x hx => by simp at hx⟩
    rw [Nat.add_sub_cancel]
    unfold SP
    exact Or.inl ⟨rfl, kj, rfl, rfl, rfl, rfl, a3⟩
theorem t_neg (X : cxC K O n pt rk sd σ) (Y : cxR K O n pt rk sd s τ) (hL : LN K n τ) (hb40 : (stk K j).length ≤ 40) (hj : j < n) (kj : K j = 2) (C : CT K rk sd σ.2.1 ws qs (sO (stk K j)) j) (S : SX K rk sd σ τ (j + 1) (stk K j) ws wl qs ql M) : ∃ σ' τ', F_Resolver_meetNegation (nI j) σ = some ((), σ') ∧ F_Md_negates (nI s) (nI j) τ = some ((), τ') ∧ PO K rk sd σ τ σ' τ' j M := by
  have hn := X.1
  obtain ⟨g1, g2, g3, g4, g5, g6⟩ := W_ok stk_pw (CT_rng C) S.2.1
  have hst : stk K (j + 1) = stk K j := stk_s0 (by rw [kj]; decide) (by rw [kj]; decide)
  obtain ⟨oj, -, -, -, -, hrj, hsj, h6⟩ := X.2.2.2.2.2.2.2 j hj (Or.inr kj)
  have egr : l_Md_group (nI j) τ = some (gO (stk K j), τ) := by
    rw [l_Md_group, e_lA (by omega) (by omega), hL.1 j hj (by rw [kj]; decide)]
  have enw : F_Md_newest (gO (stk K j)) (nI j) τ = some (nwA ws, τ) := m_new (by omega) (by omega) hL (fun p hp => S.2.2.2 p (by omega)) g1 S.1 g2 g3 (by omega)
  have E : hdA rk sd ws j → ∃ σ' τ', F_Resolver_meetNegation_J39 (nI j) σ = some ((), σ') ∧ F_Md_negates_J43 (nI j) τ = some ((), τ') ∧ PO K rk sd σ τ σ' τ' j M := by
    intro hd
    obtain ⟨σ', τ', a1, a2, a3, a4, a5, a6, a7⟩ := r_end (ts := []) (by omega) rfl S (by omega) stk_pw
    refine ⟨σ', τ', ?_, ?_, Or.inr ⟨a5, a6, a7, j :: ws, wl, qs, ql, by rw [hst]; exact a4, fun _ => ?_, fun h => absurd ((due_s j).mpr (Or.inr (Or.inl kj))) h⟩⟩
    · rw [F_Resolver_meetNegation_J39, e_bnd a1]; rfl
    · rw [F_Md_negates_J43, e_bnd a2]; rfl
    · rw [hst]
      exact ⟨rfl, hd, Or.inl ⟨kj, CT_ag a3 C⟩⟩
  rw [F_Resolver_meetNegation, F_Md_negates, e_bnd (r_one S.2.2.1 (by omega)), e_bnd egr, e_bnd enw]
  cases ws with
  | nil =>
    rw [e_if (c := onA [] = 0) rfl, e_if (c := nwA [] = -1) rfl]
    exact E (fun w hw => by simp at hw)
  | cons w ws =>
    obtain ⟨wj, kw⟩ := g1 w (by simp)
    obtain ⟨ow, -, -, -, -, hrw, hsw, -⟩ := X.2.2.2.2.2.2.2 w (by omega) kw
    have etop : F_IntStack0_top σ = some (nI w, σ) := k_top0 (l := ws ++ wl.flatten) S.2.2.1.1 (by
      rw [List.cons_append, List.length_cons] at g4; omega)
    rw [e_el (c := onA (w :: ws) = 0) (show ¬ (1 : Int32) = 0 by decide), e_el (c := nwA (w :: ws) = -1) (q_m1 (by omega)), e_bnd etop, e_bnd (c_rank X (by omega) kw)]
    show ∃ σ' τ', _ ∧ (fx_bnd (l_Md_operators (nI w)) _) τ = _ ∧ _
    rw [e_bnd (m_opr Y (by omega)), e_bnd (m_rank Y (by omega) kw)]
    by_cases q : rk w < 6
    · rw [e_if ((q_lt6 (by omega)).mpr q), e_if ((q_lt6 (by omega)).mpr q)]
      refine E (fun x hx => ?_)
      have : w = x := by simpa using hx
      subst this
      have := h6 kj
      unfold lowA; omega
    · rw [e_el (fun z => q ((q_lt6 (by omega)).mp z)), e_el (fun z => q ((q_lt6 (by omega)).mp z)), e_bnd etop]
      refine ⟨_, _, ?_, ?_, Or.inl (clP_note (k := 2) (a := nI w) (b := nI j) (by decide))⟩
      · rw [e_bnd (k_note _ _ _)]; rfl
      · show (fx_bnd (F_Md_clashes 2 (nI w) (nI j)) fun _ => fx_ret ()) τ = _
        rw [e_bnd (m_clashes _ _ _)]; rfl
theorem t_oper (X : cxC K O n pt rk sd σ) (Y : cxR K O n pt rk sd s τ) (hL : LN K n τ) (hb40 : (stk K j).length ≤ 40) (hj : j < n) (kj : K j = 1) (hd : ¬ dueA K j ∨ (0 < j ∧ K (j - 1) = 3)) (C : dueA K j → CT K rk sd σ.2.1 ws qs (sO (stk K j)) j) (C' : ¬ dueA K j → CC K rk sd σ.2.1 ws qs (sO (stk K j)) j []) (S : SX K rk sd σ τ (j + 1) (stk K j) ws wl qs ql M) : ∃ σ' τ', F_Resolver_meetOperator (nI j) σ = some ((), σ') ∧ F_Md_comes (nI s) (nI j) τ = some ((), τ') ∧ PO K rk sd σ τ σ' τ' j M := by
  have hn := X.1
  have hst : stk K (j + 1) = stk K j := stk_s0 (by rw [kj]; decide) (by rw [kj]; decide)
  have egr : l_Md_group (nI j) τ = some (gO (stk K j), τ) := by
    rw [l_Md_group, e_lA (by omega) (by omega), hL.1 j hj (by rw [kj]; decide)]
  have head : F_Md_comes (nI s) (nI j) τ = (fx_bnd (F_Md_newest (gO (stk K j)) (nI j)) fun x6 => if x6 = (-1) then F_Md_comes_J49 (nI s) (nI j) (nI (rk j)) (nI (sd j)) x6 0 else F_Md_comes_J49 (nI s) (nI j) (nI (rk j)) (nI (sd j)) x6 1) τ := by
    rw [F_Md_comes, e_bnd (m_opr Y hj), e_bnd (m_rank Y hj (Or.inl kj)), e_bnd (m_opr Y hj), e_bnd (m_side Y hj (Or.inl kj)), e_bnd egr]
  by_cases hdu : dueA K j
  · have h3 : 0 < j ∧ K (j - 1) = 3 := hd.resolve_left (fun z => z hdu)
    have C0 := C hdu
    obtain ⟨g1, g2, g3, g4, g5, g6⟩ := W_ok stk_pw (CT_rng C0) S.2.1
    cases ws with
    | cons w ws =>
      exfalso
      have hw : j = w + 1 := C0.1
      have hk := (g1 w (by simp)).2
      rw [show j - 1 = w by omega] at h3
      rcases hk with hk | hk <;> rw [hk] at h3 <;> exact absurd h3.2 (by decide)
    | nil =>
      obtain ⟨rfl, hs⟩ := C0
      have enw : F_Md_newest (gO (stk K j)) (nI j) τ = some (nwA [], τ) := m_new (by omega) (by omega) hL (fun p hp => S.2.2.2 p (by omega)) g1 S.1 g2 g3 (by omega)
      obtain ⟨σ', τ', a1, a2, a3, a4, a5, a6, a7⟩ := r_end (ts := []) (by omega) rfl S (by omega) stk_pw
      refine ⟨σ', τ', ?_, ?_, Or.inr ⟨a5, a6, a7, [j], wl, [], ql, by rw [hst]; exact a4, fun _ => ?_, fun h => absurd ((due_s j).mpr (Or.inl kj)) h⟩⟩
      · rw [F_Resolver_meetOperator, show fx_fuel = (fx_fuel - 1) + 1 by unfold fx_fuel; omega, e_loop2, F_Resolver_meetOperator_B2, e_el (by decide), e_bnd (r_one S.2.2.1 (by omega)), e_if (c := onA [] = 0) rfl, F_Resolver_meetOperator_J72, e_bnd a1]; rfl
      · rw [head, e_bnd enw, e_if (c := nwA [] = -1) rfl, F_Md_comes_J49, show fx_fuel = (fx_fuel - 1) + 1 by unfold fx_fuel; omega, e_loop6, F_Md_comes_B51, e_if rfl, e_bnd a2]; rfl
      · rw [hst]
        exact ⟨rfl, fun w hw => by simp at hw, Or.inr (Or.inl ⟨kj, h3.1, h3.2, rfl, rfl, hs⟩)⟩
  · have C0 := C' hdu
    obtain ⟨g1, g2, g3, g4, g5, g6⟩ := W_ok stk_pw (CC_rng C0) S.2.1
    have enw : F_Md_newest (gO (stk K j)) (nI j) τ = some (nwA ws, τ) := m_new (by omega) (by omega) hL (fun p hp => S.2.2.2 p (by omega)) g1 S.1 g2 g3 (by omega)
    have h0 : 0 < j := by
      by_cases e : j = 0
      · exact absurd (Or.inl e) hdu
      · omega
    have hlw : ws.length ≤ j := by
      have := (CC_rng C0).1; omega
    obtain ⟨σ', τ', a1, a2, a3⟩ := r_oper (s := s) hj kj h0 (fun z => hdu (Or.inr (Or.inr (Or.inr z)))) rfl hb40 ws qs [] σ τ M 0 (fx_fuel - ws.length - 1) (fx_fuel - ws.length - 2) X Y hL C0 (fun x hx => by simp at hx) S (by omega)
    rw [show fx_fuel - ws.length - 1 + ws.length + 1 = fx_fuel by unfold fx_fuel; omega] at a1
    rw [show fx_fuel - ws.length - 2 + ws.length + 1 + 1 = fx_fuel by unfold fx_fuel; omega] at a2
    refine ⟨σ', τ', a1, ?_, ?_⟩
    · rw [head, e_bnd enw]
      cases ws with
      | nil => rw [e_if (c := nwA [] = -1) rfl]; exact a2
      | cons x ws => rw [e_el (c := nwA (x :: ws) = -1) (q_m1 (by have := g1 x (by simp); omega))]; exact a2
    · rcases a3 with a3 | ⟨ws', qs', a3, a4, a5, a6, a7⟩
      · exact Or.inl a3
      · exact Or.inr ⟨a5, a6, a7, j :: ws', wl, qs', ql, by rw [hst]; exact a4, fun _ => by rw [hst]; exact a3, fun h => absurd ((due_s j).mpr (Or.inl kj)) h⟩
theorem t_open (X : cxC K O n pt rk sd σ) (hb40 : (stk K j).length ≤ 40) (hj : j < n) (kj : K j = 3) (C : CT K rk sd σ.2.1 ws qs (sO (stk K j)) j) (S : SX K rk sd σ τ (j + 1) (stk K j) ws wl qs ql M) : ∃ σ', (∀ β (k : fx_M β), (fx_bnd F_IntStack0_size fun x6 => fx_bnd (F_IntStack1_push x6) fun _ => k) σ = k σ') ∧ PO K rk sd σ τ σ' τ j M := by
  have hn := X.1
  obtain ⟨g1, g2, g3, g4, g5, g6⟩ := W_ok stk_pw (CT_rng C) S.2.1
  obtain ⟨s1, s2, s3, s4, s5, s6, s7, s8, s9⟩ := id S.2.2.1
  have hst : stk K (j + 1) = j :: stk K j := by
    simp only [stk]; rw [if_pos kj]
  obtain ⟨t, h1, h2⟩ := bef_hd wl
  have hbl : (bef wl).length < 200 := by rw [h1, List.length_cons]; omega
  have e0 : F_IntStack0_size σ = some (nI (ws ++ wl.flatten).length, σ) := by
    rw [F_IntStack0_size, e_bnd (e_gI _ _), s1.1]; rfl
  refine ⟨(va_up σ.1 257 (nI ((bef wl).length + 1)), va_up σ.2.1 17 (upd (σ.2.1 17) (bef wl).length (nI (ws ++ wl.flatten).length)), σ.2.2), fun β k => ?_, Or.inr ⟨⟨fun r hr => va_up_ne _ _ (by omega), fun a ha => va_up_ne _ _ (by omega), rfl⟩, frG_rfl, rfl, [], ws :: wl, [], qs :: ql, ⟨fun w hw => by simp at hw, ?_, ?_, ?_⟩, fun _ => ?_, fun h => absurd ((due_s j).mpr (Or.inr (Or.inr kj))) h⟩⟩
  · rw [e_bnd e0, e_bnd (k_push1 s2 hbl _)]
  · rw [hst]
    exact ⟨CT_ag (fun a a1 a2 => va_up_ne _ _ (by omega)) C, S.1, LR_ag stk_pw (fun a a1 a2 => va_up_ne _ _ (by omega)) S.2.1⟩
  · have e9 : max M ([] ++ (ws :: wl).flatten).length = M := Nat.max_eq_left s5
    rw [e9]
    exact ⟨s1, SK_push s2 _, s3, s4, s5, s6, s7, s8, s9⟩
  · exact S.2.2.2
  · rw [hst]; exact ⟨rfl, rfl⟩
end ITEM
