/-! CLOSE -/
section CLOSE
variable {K O : Nat → Int32} {n : Nat} {pt : Int32} {rk sd : Nat → Nat} {s : Nat} {σ τ : fx_S} {j M : Nat} {ws qs : List Nat} {wl ql : List (List Nat)}
theorem LR_cons {T : Nat → Nat → Int32} {b : Nat} {bs : List Nat} (L : LR K rk sd T (b :: bs) wl ql) : ∃ ws' wl' qs' ql', wl = ws' :: wl' ∧ ql = qs' :: ql' ∧ CT K rk sd T ws' qs' (sO bs) b ∧ (∀ w ∈ ws', gO (stk K w) = gO bs) ∧ LR K rk sd T bs wl' ql' := by
  cases wl with
  | nil => exact L.elim
  | cons ws' wl' =>
    cases ql with
    | nil => exact L.elim
    | cons qs' ql' => exact ⟨ws', wl', qs', ql', rfl, rfl, L⟩
theorem t_close {b : Nat} {bs : List Nat} (X : cxC K O n pt rk sd σ) (Y : cxR K O n pt rk sd s τ) (hL : LN K n τ) (hb40 : (stk K j).length ≤ 40) (hj : j < n) (kj : K j = 4) (hb : stk K j = b :: bs) (hd : ¬ dueA K j ∨ (0 < j ∧ K (j - 1) = 1 ∧ ¬ K (b + 1) = 1)) (hg : j = 0 ∨ K (j - 1) = 0 ∨ K (j - 1) = 1 ∨ K (j - 1) = 2 ∨ K (j - 1) = 3 ∨ K (j - 1) = 4) (C : dueA K j → CT K rk sd σ.2.1 ws qs (sO (stk K j)) j) (C' : ¬ dueA K j → CC K rk sd σ.2.1 ws qs (sO (stk K j)) j []) (S : SX K rk sd σ τ (j + 1) (stk K j) ws wl qs ql M) : ∃ σ' τ', F_Resolver_meetClose (nI j) σ = some ((), σ') ∧ F_Md_closes (nI j) τ = some ((), τ') ∧ PO K rk sd σ τ σ' τ' j M := by
  have hn := X.1
  have hbj := stk_hd hb
  have hpw : (b :: bs).Pairwise (fun a b => b < a) := by rw [← hb]; exact stk_pw
  have hst : stk K (j + 1) = bs := by
    simp only [stk]
    rw [if_neg (by rw [kj]; decide), if_pos kj, hb]; rfl
  rw [hb] at S C C' hb40
  rw [List.length_cons] at hb40
  obtain ⟨S1, S2, S3, S4⟩ := S
  have hm := hL.2 j b bs hj kj hb
  -- what the reference does when nothing clashes
  have R : (∀ x ∈ ws, b < x) → (∀ x ∈ wl.flatten, x < b) → (∀ x ∈ ws ++ wl.flatten, x < j ∧ (K x = 1 ∨ K x = 2)) → ∃ τ', F_Md_closes_J43 (nI j) (nI b) τ = some ((), τ') ∧ frG τ τ' ∧ τ'.1 = τ.1 ∧ wtR (j + 1) wl.flatten τ' := by
    intro w1 w2 w3
    obtain ⟨τ', a1, a2, a3, a4, a5, a6⟩ := m_clear (τ0 := τ) (j := j) (b := b) (g := nI b) (by omega) (fun p p1 p2 p3 => by
      rw [S4 p (by omega)] at p3
      by_cases hm : p ∈ ws ++ wl.flatten
      · have hk := (w3 p hm).2
        rcases List.mem_append.mp hm with hm | hm
        · rw [hL.1 p (by omega) (by rcases hk with hk | hk <;> rw [hk] <;> decide)]
          exact S1 p hm
        · have := w2 p hm; omega
      · rw [if_neg hm] at p3; exact absurd rfl p3) (j - (b + 1)) (b + 1) (fx_fuel - (j - (b + 1)) - 1) τ (by omega) (by omega) rfl (fun _ _ => rfl)
    rw [show fx_fuel - (j - (b + 1)) - 1 + (j - (b + 1)) + 1 = fx_fuel by unfold fx_fuel; omega] at a1
    refine ⟨τ', ?_, a3, a2, fun p hp => ?_⟩
    · rw [F_Md_closes_J43, e_bnd (e_pur _ _), nI_1]; exact a1
    · rw [a6 p]
      by_cases q : b + 1 ≤ p ∧ p < j
      · rw [if_pos q, if_neg (fun z => by have := w2 p z; omega)]
      · rw [if_neg q, S4 p hp]
        have : (p ∈ ws ++ wl.flatten) = (p ∈ wl.flatten) := by
          apply propext
          rw [List.mem_append]
          refine ⟨fun z => z.resolve_left (fun z => ?_), Or.inr⟩
          have := w1 p z
          have := (w3 p (List.mem_append_left _ z)).1
          omega
        simp only [this]
  -- the end: a tree of the brackets
  have E : ∀ σ' τ' p z h, frC σ σ' → frG τ τ' → τ'.1 = τ.1 → FG K rk sd σ' (b :: bs) wl ql M p → wl.flatten.length ≤ M → M ≤ 200 → wtR (j + 1) wl.flatten τ' → TR K rk sd σ'.2.1 b j p z h [] → PO K rk sd σ τ σ' τ' j M := by
    intro σ' τ' p z h e1 e2 e3 ⟨f1, f2, f3, f4, f5, f6⟩ e4 e4' e5 e6
    obtain ⟨ws', wl', qs', ql', rfl, rfl, l1, l2, l3⟩ := LR_cons f6
    refine Or.inr ⟨e1, e2, e3, ws', wl', p :: qs', ql', ?_, fun hdu => ?_, fun _ => ?_⟩
    · rw [hst]
      rw [Nat.max_eq_left (show (ws' ++ wl'.flatten).length ≤ M from e4)]
      exact ⟨l2, l3, ⟨f1, f2, f3, f4, e4, e4', f5⟩, e5⟩
    · rw [due_s, kj] at hdu
      rcases hdu with h | h | h <;> exact absurd h (by decide)
    · rw [hst]
      exact ⟨p, qs', b, z, h, rfl, by omega, l1, by rw [Nat.add_sub_cancel]; exact e6, fun x hx => by simp at hx⟩
  have h0 : 0 < j := by omega
  have mK : F_Md_closes (nI j) τ = (if K (j - 1) = 1 then (fx_bnd (F_Md_newest (nI b) (nI (j - 1))) fun x7 => if x7 = (-1) then F_Md_closes_J43 (nI j) (nI b) else fx_bnd (F_Md_clashes 3 x7 (nI (j - 1))) fun _ => fx_ret ()) else F_Md_closes_J43 (nI j) (nI b)) τ := by
    rw [F_Md_closes, e_bnd (e_lA (by omega) (by omega)), hm.2, q_s1 h0, e_bnd (m_kd Y (by omega))]
  have cK : F_Resolver_meetClose (nI j) σ = (if nkA K n (j - 1) = 3 then (fx_bnd (F_IntStack0_pop) fun x2 => fx_bnd (F_Resolver_oneWaits) fun x3 => if x3 = 0 then (fx_bnd (F_IntStack0_push x2) fun _ => F_Resolver_meetClose_J51) else (fx_bnd (F_IntStack0_top) fun x4 => fx_bnd (F_Resolver_note 3 x4 x2) fun _ => fx_ret ())) else F_Resolver_meetClose_J51) σ := by
    rw [F_Resolver_meetClose, q_s1 h0, e_bnd (c_nk X (by omega))]
  by_cases hdu : dueA K j
  · -- a left section
    obtain ⟨-, h1, hb1⟩ := hd.resolve_left (fun z => z hdu)
    have C0 := C hdu
    obtain ⟨g1, g2, g3, g4, g5, g6⟩ := W_ok hpw (CT_rng C0) S2
    have g5' : wl.length = bs.length + 1 := g5
    have rng := CT_rng C0
    cases ws with
    | nil =>
      exfalso
      obtain ⟨-, e⟩ := C0
      have e' : j = b + 1 := e
      have : K b = 3 := stk_3 (j := j) (by rw [hb]; exact List.mem_cons_self)
      rw [show j - 1 = b by omega, this] at h1
      exact absurd h1 (by decide)
    | cons w ws =>
      obtain ⟨e1, hdw, C1⟩ := C0
      have ew : j - 1 = w := by omega
      rw [ew] at h1 mK cK
      rcases C1 with ⟨q, -⟩ | ⟨-, -, -, -, -, q⟩ | ⟨-, hw0, hnb, p, qs1, a, z, h, ts, rfl, C1, C2, -, -⟩
      · rw [h1] at q; exact absurd q (by decide)
      · have q' : w = b + 1 := q
        rw [← q'] at hb1; exact absurd h1 hb1
      · have hnk : nkA K n w = 3 := by
          unfold nkA
          rw [h1, if_neg (by decide), if_neg (fun z => hnb z.2.2), if_pos ⟨rfl, by omega, by rw [← e1]; exact kj⟩]
        rw [if_pos h1] at mK
        rw [e_if hnk] at cK
        obtain ⟨s1, s2, s3, s4, s5, s6, s7, s8, s9⟩ := id S3
        have hlen : ((w :: ws) ++ wl.flatten).length = (ws ++ wl.flatten).length + 1 := by rw [List.cons_append, List.length_cons]
        have p0 : F_IntStack0_pop σ = some (nI w, (va_up σ.1 225 (nI (ws ++ wl.flatten).length), σ.2.1, σ.2.2)) := k_pop0 (l := ws ++ wl.flatten) s1 (by rw [hlen] at g4; omega)
        obtain ⟨σ1, e1'⟩ : ∃ σ1 : fx_S, σ1 = (va_up σ.1 225 (nI (ws ++ wl.flatten).length), σ.2.1, σ.2.2) := ⟨_, rfl⟩
        rw [← e1'] at p0
        have b1 : σ1.2.1 = σ.2.1 := by rw [e1']
        have r1 : ∀ r, r ≠ 225 → σ1.1 r = σ.1 r := fun r hr => by rw [e1']; exact va_up_ne _ _ hr
        have fr1 : frC σ σ1 := by rw [e1']; exact ⟨fun r hr => va_up_ne _ _ (by omega), fun _ _ => rfl, rfl⟩
        have sk1 : SK (σ1.1 225) (σ1.2.1 15) (ws ++ wl.flatten) := by rw [e1']; exact (SK_pop s1).1
        have S1' : CS σ1 ws wl ((p :: qs1) ++ ql.flatten) M := by
          refine ⟨sk1, ?_, ?_, ?_, by rw [hlen] at s5; omega, s6, ?_, ?_, ?_⟩
          · rw [r1 257 (by omega), b1]; exact s2
          · rw [r1 289 (by omega), b1]; exact s3
          · rw [r1 218 (by omega)]; exact s4
          · rw [r1 219 (by omega)]; exact s7
          · rw [r1 220 (by omega)]; exact s8
          · rw [r1 221 (by omega)]; exact s9
        have g2' := List.pairwise_cons.mp g2
        have enw : F_Md_newest (nI b) (nI w) τ = some (nwA ws, τ) := m_new (bs := b :: bs) (n := n) (by omega) (by omega) hL (fun q hq => by
            rw [S4 q (by omega)]
            have : (q ∈ (w :: ws) ++ wl.flatten) = (q ∈ ws ++ wl.flatten) := by
              rw [List.cons_append, List.mem_cons]
              exact propext ⟨fun z => z.resolve_left (by omega), Or.inr⟩
            simp only [this]) (fun x hx => ⟨g2'.1 x hx, (g1 x (List.mem_cons_of_mem _ hx)).2⟩) (fun x hx => S1 x (List.mem_cons_of_mem _ hx)) g2'.2 g3 (by show b + 1 ≤ 201; omega)
        rw [mK, cK, e_bnd enw, e_bnd p0, e_bnd (r_one S1' (by omega))]
        cases ws with
        | cons x ws =>
          rw [e_el (c := onA (x :: ws) = 0) (show ¬ (1 : Int32) = 0 by decide), e_el (c := nwA (x :: ws) = -1) (q_m1 (by have := g1 x (by simp); omega)), e_bnd (k_top0 (l := ws ++ wl.flatten) sk1 (by simp only [List.cons_append, List.length_cons] at g4; omega))]
          refine ⟨_, _, ?_, ?_, Or.inl (clP_tr fr1 frG_rfl (clP_note (k := 3) (a := nI x) (b := nI w) (by decide)))⟩
          · rw [e_bnd (k_note _ _ _)]; rfl
          · show (fx_bnd (F_Md_clashes 3 (nI x) (nI w)) fun _ => fx_ret ()) τ = _
            rw [e_bnd (m_clashes _ _ _)]; rfl
        | nil =>
          obtain ⟨rfl, ea⟩ := C1
          rw [e_if (c := onA [] = 0) rfl, e_if (c := nwA [] = -1) rfl]
          obtain ⟨τ', t1, t2, t3, t4⟩ := R (fun x hx => by have := (rng.2.1 x hx).1; show b < x; have : b + 1 ≤ x := this; omega) (fun x hx => by have := g3 x hx; have : x + 1 < b + 1 := this; omega) g1
          have ll : ([] ++ wl.flatten).length < 200 := by simp only [List.cons_append, List.length_cons] at g4; omega
          have pu := k_push0 sk1 ll w
          obtain ⟨σ2, e2⟩ : ∃ σ2 : fx_S, σ2 = (va_up σ1.1 225 (nI (([] ++ wl.flatten).length + 1)), va_up σ1.2.1 15 (upd (σ1.2.1 15) ([] ++ wl.flatten).length (nI w)), σ1.2.2) := ⟨_, rfl⟩
          rw [← e2] at pu
          have fr2 : frC σ1 σ2 := by rw [e2]; exact ⟨fun r hr => va_up_ne _ _ (by omega), fun a ha => va_up_ne _ _ (by omega), rfl⟩
          have r2 : ∀ r, r ≠ 225 → σ2.1 r = σ1.1 r := fun r hr => by rw [e2]; exact va_up_ne _ _ hr
          have b2 : ∀ a, a ≠ 15 → σ2.2.1 a = σ1.2.1 a := fun a ha => by rw [e2]; exact va_up_ne _ _ ha
          have sk2 : SK (σ2.1 225) (σ2.2.1 15) (w :: wl.flatten) := by rw [e2]; exact SK_push sk1 w
          have S2' : CS σ2 [w] wl ((p :: []) ++ ql.flatten) M := by
            refine ⟨sk2, ?_, ?_, ?_, s5, s6, ?_, ?_, ?_⟩
            · rw [r2 257 (by omega), b2 17 (by omega)]; exact S1'.2.1
            · rw [r2 289 (by omega), b2 19 (by omega)]; exact S1'.2.2.1
            · rw [r2 218 (by omega)]; exact S1'.2.2.2.1
            · rw [r2 219 (by omega)]; exact S1'.2.2.2.2.2.2.1
            · rw [r2 220 (by omega)]; exact S1'.2.2.2.2.2.2.2.1
            · rw [r2 221 (by omega)]; exact S1'.2.2.2.2.2.2.2.2
          have wll : wl.flatten.length < 200 := ll
          have p3 := k_pop0 (l := wl.flatten) sk2 wll
          obtain ⟨σ3, e3⟩ : ∃ σ3 : fx_S, σ3 = (va_up σ2.1 225 (nI wl.flatten.length), σ2.2.1, σ2.2.2) := ⟨_, rfl⟩
          rw [← e3] at p3
          have fr3 : frC σ2 σ3 := by rw [e3]; exact ⟨fun r hr => va_up_ne _ _ (by omega), fun _ _ => rfl, rfl⟩
          have r3 : ∀ r, r ≠ 225 → σ3.1 r = σ2.1 r := fun r hr => by rw [e3]; exact va_up_ne _ _ hr
          have b3 : σ3.2.1 = σ2.2.1 := by rw [e3]
          have fr13 : frC σ σ3 := frC_tr fr1 (frC_tr fr2 fr3)
          have S3' : CS σ3 [] wl (p :: ql.flatten) M := by
            refine ⟨by rw [e3]; exact (SK_pop sk2).1, ?_, ?_, ?_, by rw [hlen] at s5; omega, s6, ?_, ?_, ?_⟩
            · rw [r3 257 (by omega), b3]; exact S2'.2.1
            · rw [r3 289 (by omega), b3]; exact S2'.2.2.1
            · rw [r3 218 (by omega)]; exact S2'.2.2.2.1
            · rw [r3 219 (by omega)]; exact S2'.2.2.2.2.2.2.1
            · rw [r3 220 (by omega)]; exact S2'.2.2.2.2.2.2.2.1
            · rw [r3 221 (by omega)]; exact S2'.2.2.2.2.2.2.2.2
          have T3 : ∀ a, 22 ≤ a → a ≤ 25 → σ3.2.1 a = σ.2.1 a := fun a a1 a2 => by rw [b3, b2 a (by omega), b1]
          have io := TR_io C2
          have nd := TR_nd C2
          obtain ⟨σ4, f1, f2, f3, f4⟩ := f_fin2 (z := z) (h := h) (cxC_fr X fr13) (show w < n by omega) (Or.inr (Or.inl hnk)) S3'.2.2.1 (by simp only [List.cons_append, List.length_cons, List.nil_append] at g4; omega) (by omega) (by omega) (by rw [T3 24 (by omega) (by omega)]; exact nd.1) (by rw [T3 25 (by omega) (by omega)]; exact nd.2) (by omega)
          have ag3 : ∀ i, i ≠ w → agT σ3.2.1 σ4.2.1 i := fnF_ag f4
          have L3 : LR K rk sd σ3.2.1 (b :: bs) wl ql := LR_ag hpw T3 S2
          have L4 : LR K rk sd σ4.2.1 (b :: bs) wl ql := LR_fin hpw (show b + 1 ≤ w from (rng.2.1 w (by simp)).1) ag3 L3
          have S4' : CS σ4 [] wl (w :: ql.flatten) M := CS_fin f4 S3' f2
          obtain ⟨σ5, d1, d2, d3, d4⟩ := r_fin0 (f := fx_fuel - 2) (turn := 1) (by omega) (by omega) S4' L4
          refine ⟨σ5, τ', ?_, t1, E σ5 τ' w (1 + z) (1 + h) (frC_tr fr13 (frC_tr (fnF_fr f4) d2)) t2 t3 d3 ?_ s6 t4 ?_⟩
          · have e51 : F_Resolver_finishGroup σ2 = some ((), σ5) := by
              rw [F_Resolver_finishGroup, show fx_fuel = (fx_fuel - 2 + 1) + 1 by unfold fx_fuel; omega, e_loop1, F_Resolver_finishGroup_B2, e_el (by decide), e_bnd (r_one S2' (by omega)), e_el (c := onA [w] = 0) (show ¬ (1 : Int32) = 0 by decide), e_bnd p3, e_bnd f1, e_bnd (e_pur _ _)]
              exact d1
            rw [e_bnd pu, F_Resolver_meetClose_J51, e_bnd e51]; rfl
          · rw [hlen] at s5
            have : ([] ++ wl.flatten).length = wl.flatten.length := rfl
            omega
          · rw [d4]
            have ea' : a = b + 1 := ea
            obtain ⟨f, H⟩ := TR_cg (T := σ3.2.1) (T' := σ4.2.1) (fun i i1 i2 => ag3 i (by omega)) (TR_cg (T := σ.2.1) (T' := σ3.2.1) (fun i _ _ => by
              unfold agT
              rw [T3 22 (by omega) (by omega), T3 23 (by omega) (by omega), T3 24 (by omega) (by omega), T3 25 (by omega) (by omega)]
              exact ⟨rfl, rfl, rfl, rfl⟩) C2)
            refine ⟨f + 1, ?_⟩
            unfold SP
            refine Or.inr (Or.inl ⟨stk_3 (j := j) (by rw [hb]; exact List.mem_cons_self), hbj, ⟨kj, bs, hb⟩, rfl, Or.inr (Or.inr ⟨hb1, by rw [ew]; exact h1, ew.symm, p, z, h, ts, ?_, rfl, rfl, f3⟩)⟩)
            rw [← ea', show j - 2 = w - 1 by omega]
            exact H
  · have C0 := C' hdu
    obtain ⟨g1, g2, g3, g4, g5, g6⟩ := W_ok hpw (CC_rng C0) S2
    have g5' : wl.length = bs.length + 1 := g5
    have rng := CC_rng C0
    have k1 : K (j - 1) = 0 ∨ K (j - 1) = 4 := by
      unfold dueA at hdu
      rcases hg with h | h | h | h | h | h
      · omega
      · exact Or.inl h
      · exact absurd (Or.inr (Or.inl h)) hdu
      · exact absurd (Or.inr (Or.inr (Or.inl h))) hdu
      · exact absurd (Or.inr (Or.inr (Or.inr h))) hdu
      · exact Or.inr h
    have hk1 : ¬ K (j - 1) = 1 := by rcases k1 with k | k <;> rw [k] <;> decide
    have hnk : ¬ nkA K n (j - 1) = 3 := by
      unfold nkA
      rcases k1 with k | k
      · rw [k]; simp
      · rw [k, if_pos (Or.inr rfl)]; decide
    obtain ⟨τ', t1, t2, t3, t4⟩ := R (fun x hx => by have : b + 1 ≤ x := (rng.2.1 x hx).1; omega) (fun x hx => by have : x + 1 < b + 1 := g3 x hx; omega) g1
    have hlw : ws.length ≤ j := by have := rng.1; omega
    obtain ⟨σ', p, f1, f2, f3, f4⟩ := r_fin (by omega) hpw (by rw [List.length_cons]; omega) ws qs [] σ M 0 (fx_fuel - ws.length - 1) X C0 S2 S3 (by omega)
    rw [show fx_fuel - ws.length - 1 + ws.length + 1 = fx_fuel by unfold fx_fuel; omega] at f1
    have hl : wl.flatten.length ≤ M := by
      have := S3.2.2.2.2.1
      rw [List.length_append] at this; omega
    have hb3 : K b = 3 := stk_3 (j := j) (by rw [hb]; exact List.mem_cons_self)
    have fin : ∃ z h, TR K rk sd σ'.2.1 b j p z h [] := by
      rcases f4 with ⟨z, h, t, f, H⟩ | ⟨c1, c2, c3, c4, q, z1, h1, t, ⟨f, H⟩, hnd⟩
      · have io := SP_io H
        refine ⟨z, h, f + 1, ?_⟩
        unfold SP
        refine Or.inr (Or.inl ⟨hb3, hbj, ⟨kj, bs, hb⟩, rfl, Or.inl ⟨?_, hk1, t, H⟩⟩)
        have hio : K (b + 1) = 0 ∨ K (b + 1) = 2 ∨ K (b + 1) = 3 := io.1
        rcases hio with k | k | k <;> rw [k] <;> decide
      · refine ⟨1 + z1, 1 + h1, f + 1, ?_⟩
        unfold SP
        exact Or.inr (Or.inl ⟨hb3, hbj, ⟨kj, bs, hb⟩, rfl, Or.inr (Or.inl ⟨c1, c4, q, z1, h1, t, H, rfl, rfl, hnd⟩)⟩)
    obtain ⟨z, h, fin⟩ := fin
    refine ⟨σ', τ', ?_, ?_, E σ' τ' p z h f2 t2 t3 f3 hl S3.2.2.2.2.2.1 t4 fin⟩
    · rw [cK, e_el hnk, F_Resolver_meetClose_J51, e_bnd (show F_Resolver_finishGroup σ = some ((), σ') from f1)]; rfl
    · rw [mK, e_el hk1]; exact t1
end CLOSE
/-! THE RUN -/
def INV (K : Nat → Int32) (rk sd : Nat → Nat) (σ τ : fx_S) (j : Nat) : Prop := ∃ ws wl qs ql M, SX K rk sd σ τ j (stk K j) ws wl qs ql M ∧ (τ.1 33 = nI M ∧ τ.1 30 = -1 ∧ τ.1 31 = -1 ∧ τ.1 32 = -1) ∧ (dueA K j → CT K rk sd σ.2.1 ws qs (sO (stk K j)) j) ∧ (¬ dueA K j → CC K rk sd σ.2.1 ws qs (sO (stk K j)) j [])
/-- how a run ends -/
def RE (K : Nat → Int32) (rk sd : Nat → Nat) (n : Nat) (σ τ : fx_S) (b : Int32) : Prop :=
  (b = 0 ∧ ¬ σ.1 219 = -1 ∧ σ.1 219 = τ.1 30 ∧ σ.1 220 = τ.1 31 ∧ σ.1 221 = τ.1 32) ∨
  (b = 1 ∧ σ.1 219 = -1 ∧ σ.1 220 = -1 ∧ σ.1 221 = -1 ∧ τ.1 30 = -1 ∧ τ.1 31 = -1 ∧ τ.1 32 = -1 ∧ σ.1 218 = τ.1 33 ∧ ∃ p z h ts, TR K rk sd σ.2.1 0 (n - 1) p z h ts ∧ SK (σ.1 289) (σ.2.1 19) [p])
theorem m_countx {τ : fx_S} {j : Nat} {k26 : Int32 → Int32 → fx_M Int32} {v1 : Int32} (hj : j < 200) : ∀ (m i f : Nat) (c : Int32), m + i = j + 1 → ∃ t, fx_loop4 (F_Md_goThrough_B107 k26) (f + m + 1) v1 (nI j) c (nI i) τ = F_Md_goThrough_J154 k26 v1 (nI j) t τ
  | 0, i, f, c, h => by
    have : i = j + 1 := by omega
    subst this
    rw [e_loop4, F_Md_goThrough_B107, e_if (by rw [q_lt (by omega) (by omega)]; omega), e_bnd (e_gI _ _)]
    by_cases q : c ≤ τ.1 33
    · exact ⟨τ.1 33, by rw [e_if q, e_bnd (e_gI _ _)]⟩
    · exact ⟨c, by rw [e_el q]⟩
  | m + 1, i, f, c, h => by
    rw [show f + (m + 1) + 1 = (f + m + 1) + 1 by omega, e_loop4, F_Md_goThrough_B107, e_el (by rw [q_lt (by omega) (by omega)]; omega), e_bnd (e_lA (by omega) (by omega))]
    by_cases q : τ.2.1 17 i = 0
    · obtain ⟨t, ht⟩ := m_countx hj (k26 := k26) (v1 := v1) m (i + 1) f (c + 0) (by omega)
      exact ⟨t, by rw [e_if q, F_Md_goThrough_J129, e_bnd (e_pur _ _), e_bnd (e_pur _ _), nI_1]; exact ht⟩
    · obtain ⟨t, ht⟩ := m_countx hj (k26 := k26) (v1 := v1) m (i + 1) f (c + 1) (by omega)
      exact ⟨t, by rw [e_el q, F_Md_goThrough_J129, e_bnd (e_pur _ _), e_bnd (e_pur _ _), nI_1]; exact ht⟩
section RUNS
variable {K O : Nat → Int32} {V : Nat → Int64} {n : Nat} {pt : Int32} {rk sd : Nat → Nat} {s : Nat}
theorem r_stop {σ : fx_S} {f : Nat} {i : Int32} (h : ¬ σ.1 219 = -1) : fx_loop1 F_Resolver_run_B6 (f + 1) i σ = some ((), σ) := by
  have J : F_Resolver_run_J123 σ = some ((), σ) := by
    rw [F_Resolver_run_J123, e_bnd (e_gI _ _), e_el h]; rfl
  have e : F_Row_size σ = some (σ.1 117, σ) := rfl
  rw [e_loop1, F_Resolver_run_B6, e_bnd e]
  by_cases q : σ.1 117 ≤ i
  · rw [e_if q, J]
  · rw [e_el q, e_bnd (e_gI _ _), e_el h, J]
theorem m_stop {τ : fx_S} {f : Nat} {v i : Int32} (h : ¬ τ.1 30 = -1) : fx_loop2 F_Md_goThrough_B26 (f + 1) v i τ = some (0, τ) := by
  have J : F_Md_goThrough_J163 τ = some (0, τ) := by
    rw [F_Md_goThrough_J163, e_bnd (e_gI _ _), e_el h]; rfl
  rw [e_loop2, F_Md_goThrough_B26, e_bnd (e_gI _ _)]
  by_cases q : τ.1 5 ≤ i
  · rw [e_if q, J]
  · rw [e_el q, e_bnd (e_gI _ _), e_el h, J]
theorem r_run (hg : gr K O V n) (hdep : ∀ j, j ≤ n → (stk K j).length ≤ 40) (hwh : ¬ dueA K n) (hs0 : stk K n = []) : ∀ (m j f1 f2 : Nat) (σ τ : fx_S), m + j = n → cxC K O n pt rk sd σ → cxR K O n pt rk sd s τ → LN K n τ → INV K rk sd σ τ j → ∃ σ' τ' b, fx_loop1 F_Resolver_run_B6 (f1 + m + 1) (nI j) σ = some ((), σ') ∧ fx_loop2 F_Md_goThrough_B26 (f2 + m + 1) (nI s) (nI j) τ = some (b, τ') ∧ frC σ σ' ∧ frG τ τ' ∧ RE K rk sd n σ' τ' b := by
  intro m
  induction m with
  | zero =>
    intro j f1 f2 σ τ hjm X Y hL I
    have : j = n := by omega
    subst this
    have hn := X.1
    obtain ⟨ws, wl, qs, ql, M, S, ⟨i1, i2, i3, i4⟩, -, C⟩ := I
    have C0 := C hwh
    rw [hs0] at S C0
    obtain ⟨g1, g2, g3, g4, g5, g6⟩ := W_ok List.Pairwise.nil (CC_rng C0) S.2.1
    have hlw : ws.length ≤ j := by have := (CC_rng C0).1; omega
    have hwlt : ws.length < 200 := by
      have h1 := (CC_rng C0).1
      obtain ⟨p, qs', a, z, h, rfl, -⟩ := C0
      rw [List.length_cons] at h1; omega
    obtain ⟨σ', p, f1', f2', f3', f4'⟩ := r_fin (by omega) List.Pairwise.nil (by simp) ws qs [] σ M 0 (fx_fuel - ws.length - 1) X C0 S.2.1 S.2.2.1 (by omega)
    rw [show fx_fuel - ws.length - 1 + ws.length + 1 = fx_fuel by unfold fx_fuel; omega] at f1'
    have e : F_Row_size σ = some (nI j, σ) := by rw [F_Row_size, e_bnd (e_gI _ _), X.2.1]; rfl
    have hql : ql = [] := by
      have := S.2.1
      cases wl with
      | nil => cases ql with
        | nil => rfl
        | cons _ _ => exact this.elim
      | cons _ _ => exact this.elim
    subst hql
    refine ⟨σ', τ, 1, ?_, ?_, f2', frG_rfl, Or.inr ⟨rfl, f3'.2.2.2.2.1.1, f3'.2.2.2.2.1.2.1, f3'.2.2.2.2.1.2.2, i2, i3, i4, by rw [f3'.2.2.2.1, i1], ?_⟩⟩
    · rw [e_loop1, F_Resolver_run_B6, e_bnd e, e_if (by rw [q_le (by omega) (by omega)]; omega), F_Resolver_run_J123, e_bnd (e_gI _ _), e_if S.2.2.1.2.2.2.2.2.2.1, e_bnd (show F_Resolver_finishGroup σ = some ((), σ') from f1')]; rfl
    · rw [e_loop2, F_Md_goThrough_B26, e_bnd (e_gI _ _), Y.2.1, e_if (by rw [q_le (by omega) (by omega)]; omega), F_Md_goThrough_J163, e_bnd (e_gI _ _), e_if i2]; rfl
    · rcases f4' with ⟨z, h, t, H⟩ | ⟨-, c, -⟩
      · exact ⟨p, z, h, t, H, f3'.2.2.1⟩
      · exact absurd c (by show ¬ 0 < 0; omega)
  | succ m ih =>
    intro j f1 f2 σ τ hjm X Y hL I
    have hn := X.1
    have hj : j < n := by omega
    obtain ⟨ws, wl, qs, ql, M, S, ⟨i1, i2, i3, i4⟩, C, C'⟩ := I
    obtain ⟨hgj, hgi⟩ := hg j hj
    have hb40 := hdep j (by omega)
    have hWj : ∀ x ∈ ws ++ wl.flatten, x < j := by
      by_cases hdu : dueA K j
      · exact fun x hx => ((W_ok stk_pw (CT_rng (C hdu)) S.2.1).1 x hx).1
      · exact fun x hx => ((W_ok stk_pw (CC_rng (C' hdu)) S.2.1).1 x hx).1
    let τ0 : fx_S := (τ.1, va_up τ.2.1 17 (upd (τ.2.1 17) j 0), τ.2.2)
    have fg0 : frG τ τ0 := ⟨fun _ _ => rfl, fun a ha => va_up_ne _ _ (by omega), rfl⟩
    have Y0 := cxR_G Y fg0
    have hL0 : LN K n τ0 := LN_fr hL ⟨rfl, rfl⟩
    have S0 : SX K rk sd σ τ0 (j + 1) (stk K j) ws wl qs ql M := by
      refine ⟨S.1, S.2.1, S.2.2.1, fun p hp => ?_⟩
      show upd (τ.2.1 17) j 0 p = _
      by_cases e : p = j
      · subst e; rw [q_us, if_neg (fun z => by have := hWj p z; omega)]
      · rw [q_un _ _ e]; exact S.2.2.2 p (by omega)
    have ecl := S.2.2.1.2.2.2.2.2.2.1
    have esz : F_Row_size σ = some (nI n, σ) := by rw [F_Row_size, e_bnd (e_gI _ _), X.2.1]; rfl
    have ekd : F_Row_kindAt (nI j) σ = some (K j, σ) := by
      rw [F_Row_kindAt, e_bnd (c_has X hj), e_el (by decide), e_bnd (e_lA (by omega) (by omega)), X.2.2.2.2.1]; rfl
    have hC : fx_loop1 F_Resolver_run_B6 (f1 + (m + 1) + 1) (nI j) σ = (if K j = 0 then (fx_bnd (F_Resolver_finish (nI j)) fun _ => F_Resolver_run_J117 (fx_loop1 F_Resolver_run_B6 (f1 + m + 1)) (nI j)) else if K j = 1 then (fx_bnd (F_Resolver_meetOperator (nI j)) fun _ => F_Resolver_run_J117 (fx_loop1 F_Resolver_run_B6 (f1 + m + 1)) (nI j)) else if K j = 2 then (fx_bnd (F_Resolver_meetNegation (nI j)) fun _ => F_Resolver_run_J117 (fx_loop1 F_Resolver_run_B6 (f1 + m + 1)) (nI j)) else if K j = 3 then (fx_bnd (F_IntStack0_size) fun x6 => fx_bnd (F_IntStack1_push x6) fun _ => F_Resolver_run_J117 (fx_loop1 F_Resolver_run_B6 (f1 + m + 1)) (nI j)) else if K j = 4 then (fx_bnd (F_Resolver_meetClose (nI j)) fun _ => F_Resolver_run_J117 (fx_loop1 F_Resolver_run_B6 (f1 + m + 1)) (nI j)) else F_Resolver_run_J117 (fx_loop1 F_Resolver_run_B6 (f1 + m + 1)) (nI j)) σ := by
      rw [show f1 + (m + 1) + 1 = (f1 + m + 1) + 1 by omega, e_loop1, F_Resolver_run_B6, e_bnd esz, e_el (by rw [q_le (by omega) (by omega)]; omega), e_bnd (e_gI _ _), e_if ecl, e_bnd ekd]
    have hR : fx_loop2 F_Md_goThrough_B26 (f2 + (m + 1) + 1) (nI s) (nI j) τ = (fx_bnd (l_Md_kinds (nI j)) fun x4 => if x4 = 2 then (fx_bnd (F_Md_negates (nI s) (nI j)) fun _ => F_Md_goThrough_J102 (fx_loop2 F_Md_goThrough_B26 (f2 + m + 1)) (nI s) (nI j)) else (fx_bnd (l_Md_kinds (nI j)) fun x5 => if x5 = 1 then (fx_bnd (F_Md_comes (nI s) (nI j)) fun _ => F_Md_goThrough_J102 (fx_loop2 F_Md_goThrough_B26 (f2 + m + 1)) (nI s) (nI j)) else (fx_bnd (l_Md_kinds (nI j)) fun x6 => if x6 = 4 then (fx_bnd (F_Md_closes (nI j)) fun _ => F_Md_goThrough_J102 (fx_loop2 F_Md_goThrough_B26 (f2 + m + 1)) (nI s) (nI j)) else F_Md_goThrough_J102 (fx_loop2 F_Md_goThrough_B26 (f2 + m + 1)) (nI s) (nI j)))) τ0 := by
      rw [show f2 + (m + 1) + 1 = (f2 + m + 1) + 1 by omega, e_loop2, F_Md_goThrough_B26, e_bnd (e_gI _ _), Y.2.1, e_el (by rw [q_le (by omega) (by omega)]; omega), e_bnd (e_gI _ _), e_if i2, e_bnd (e_sZ0 (by omega) (by omega))]
    rw [e_bnd (m_kd Y0 hj)] at hR
    -- both go on
    have G : ∀ σ1 τ1, PO K rk sd σ τ0 σ1 τ1 j M → ∃ σ' τ' b, F_Resolver_run_J117 (fx_loop1 F_Resolver_run_B6 (f1 + m + 1)) (nI j) σ1 = some ((), σ') ∧ F_Md_goThrough_J102 (fx_loop2 F_Md_goThrough_B26 (f2 + m + 1)) (nI s) (nI j) τ1 = some (b, τ') ∧ frC σ σ' ∧ frG τ τ' ∧ RE K rk sd n σ' τ' b := by
      intro σ1 τ1 hP
      rcases hP with ⟨p1, p2, p3, p4, p5, p6⟩ | ⟨p1, p2, p3, ws', wl', qs', ql', p4, p5, p6⟩
      · obtain ⟨t, ht⟩ := m_countx (τ := τ1) (k26 := fx_loop2 F_Md_goThrough_B26 (f2 + m + 1)) (v1 := nI s) (show j < 200 by omega) (j + 1) 0 (fx_fuel - (j + 1) - 1) 0 rfl
        rw [show fx_fuel - (j + 1) - 1 + (j + 1) + 1 = fx_fuel by unfold fx_fuel; omega] at ht
        refine ⟨σ1, (va_up τ1.1 33 t, τ1.2.1, τ1.2.2), 0, ?_, ?_, p1, frG_tr fg0 (frG_tr p2 ⟨fun r hr => va_up_ne _ _ (by omega), fun _ _ => rfl, rfl⟩), Or.inl ⟨rfl, p3, p4, p5, p6⟩⟩
        · rw [F_Resolver_run_J117, e_bnd (e_pur _ _), r_stop p3]
        · refine (show F_Md_goThrough_J102 _ _ _ τ1 = _ from ht).trans ?_
          rw [F_Md_goThrough_J154, e_bnd (e_pI _ _ _), e_bnd (e_pur _ _)]
          exact m_stop (by rw [p4] at p3; exact p3)
      · have t33 : τ1.1 33 = nI M := by rw [p3]; exact i1
        have hlen : (ws' ++ wl'.flatten).length ≤ 200 := by
          have := p4.2.2.1.2.2.2.2.2.1
          have := Nat.le_max_right M (ws' ++ wl'.flatten).length
          omega
        have hM : M ≤ 200 := S.2.2.1.2.2.2.2.2.1
        have hpw' : (ws' ++ wl'.flatten).Pairwise (fun a b => b < a) ∧ (∀ x ∈ ws' ++ wl'.flatten, x < j + 1) := by
          by_cases hdu : dueA K (j + 1)
          · have := W_ok stk_pw (CT_rng (p5 hdu)) p4.2.1
            exact ⟨this.2.1, fun x hx => (this.1 x hx).1⟩
          · have := W_ok stk_pw (CC_rng (p6 hdu)) p4.2.1
            exact ⟨this.2.1, fun x hx => (this.1 x hx).1⟩
        have hcn := cnW_len hpw'.1 hpw'.2
        have ct := m_count (τ := τ1) (k26 := fx_loop2 F_Md_goThrough_B26 (f2 + m + 1)) (v1 := nI s) (show j < 200 by omega) (by omega) t33 p4.2.2.2 (j + 1) 0 (fx_fuel - (j + 1) - 1) rfl
        rw [show fx_fuel - (j + 1) - 1 + (j + 1) + 1 = fx_fuel by unfold fx_fuel; omega, hcn] at ct
        let τ2 : fx_S := (va_up τ1.1 33 (nI (max M (ws' ++ wl'.flatten).length)), τ1.2.1, τ1.2.2)
        have fg2 : frG τ1 τ2 := ⟨fun r hr => va_up_ne _ _ (by omega), fun _ _ => rfl, rfl⟩
        have fg02 : frG τ0 τ2 := frG_tr p2 fg2
        obtain ⟨σ', τ', b, a1, a2, a3, a4, a5⟩ := ih (j + 1) f1 f2 σ1 τ2 (by omega) (cxC_fr X p1) (cxR_G Y0 fg02) (LN_fr hL0 ⟨fg02.2.1 15 (by omega), fg02.2.1 16 (by omega)⟩) ⟨ws', wl', qs', ql', _, ⟨p4.1, p4.2.1, p4.2.2.1, p4.2.2.2⟩, ⟨rfl, by show τ1.1 30 = -1; rw [p3]; exact i2, by show τ1.1 31 = -1; rw [p3]; exact i3, by show τ1.1 32 = -1; rw [p3]; exact i4⟩, p5, p6⟩
        refine ⟨σ', τ', b, ?_, ?_, frC_tr p1 a3, frG_tr fg0 (frG_tr fg02 a4), a5⟩
        · rw [F_Resolver_run_J117, e_bnd (e_pur _ _), nI_1]; exact a1
        · refine (show F_Md_goThrough_J102 _ _ _ τ1 = _ from ct).trans ?_
          rw [F_Md_goThrough_J154, e_bnd (e_pI _ _ _), e_bnd (e_pur _ _), nI_1]
          exact a2
    rw [hC, hR]
    rcases gi_k hgi with kj | kj | kj | kj | kj
    · -- an operand
      have hdu : dueA K j := by
        rcases hgj with ⟨-, h⟩ | ⟨h, -⟩ | ⟨h, -⟩
        · exact h
        · rw [kj] at h; exact absurd h (by decide)
        · rw [kj] at h; exact absurd h (by decide)
      obtain ⟨σ1, a1, a2⟩ := t_operand X hj kj (C hdu) S0
      rw [e_if kj, e_bnd a1, kj, e_el (by decide), e_bnd (m_kd Y0 hj), kj, e_el (by decide), e_bnd (m_kd Y0 hj), kj, e_el (by decide)]
      exact G σ1 τ0 a2
    · -- an operator
      have hd : ¬ dueA K j ∨ (0 < j ∧ K (j - 1) = 3) := by
        rcases hgj with ⟨h | h | h, -⟩ | ⟨-, h⟩ | ⟨h, -⟩
        · rw [kj] at h; exact absurd h (by decide)
        · rw [kj] at h; exact absurd h (by decide)
        · rw [kj] at h; exact absurd h (by decide)
        · exact h
        · rw [kj] at h; exact absurd h (by decide)
      obtain ⟨σ1, τ1, a1, a2, a3⟩ := t_oper X Y0 hL0 hb40 hj kj hd C C' S0
      rw [e_el (by rw [kj]; decide), e_if kj, e_bnd a1, kj, e_el (by decide), e_bnd (m_kd Y0 hj), e_if kj, e_bnd a2]
      exact G σ1 τ1 a3
    · -- a negation
      have hdu : dueA K j := by
        rcases hgj with ⟨-, h⟩ | ⟨h, -⟩ | ⟨h, -⟩
        · exact h
        · rw [kj] at h; exact absurd h (by decide)
        · rw [kj] at h; exact absurd h (by decide)
      obtain ⟨σ1, τ1, a1, a2, a3⟩ := t_neg X Y0 hL0 hb40 hj kj (C hdu) S0
      rw [e_el (by rw [kj]; decide), e_el (by rw [kj]; decide), e_if kj, e_bnd a1, e_if kj, e_bnd a2]
      exact G σ1 τ1 a3
    · -- a bracket opens
      have hdu : dueA K j := by
        rcases hgj with ⟨-, h⟩ | ⟨h, -⟩ | ⟨h, -⟩
        · exact h
        · rw [kj] at h; exact absurd h (by decide)
        · rw [kj] at h; exact absurd h (by decide)
      obtain ⟨σ1, a1, a2⟩ := t_open X hb40 hj kj (C hdu) S0
      rw [e_el (by rw [kj]; decide), e_el (by rw [kj]; decide), e_el (by rw [kj]; decide), e_if kj, a1, kj, e_el (by decide), e_bnd (m_kd Y0 hj), kj, e_el (by decide), e_bnd (m_kd Y0 hj), kj, e_el (by decide)]
      exact G σ1 τ0 a2
    · -- a bracket closes
      have hd : ∃ b bs, stk K j = b :: bs ∧ (¬ dueA K j ∨ (0 < j ∧ K (j - 1) = 1 ∧ ¬ K (b + 1) = 1)) := by
        rcases hgj with ⟨h | h | h, -⟩ | ⟨h, -⟩ | ⟨-, h⟩
        · rw [kj] at h; exact absurd h (by decide)
        · rw [kj] at h; exact absurd h (by decide)
        · rw [kj] at h; exact absurd h (by decide)
        · rw [kj] at h; exact absurd h (by decide)
        · exact h
      obtain ⟨b, bs, hb, hd⟩ := hd
      have hg0 : j = 0 ∨ K (j - 1) = 0 ∨ K (j - 1) = 1 ∨ K (j - 1) = 2 ∨ K (j - 1) = 3 ∨ K (j - 1) = 4 := by
        by_cases e : j = 0
        · exact Or.inl e
        · exact Or.inr (gi_k (hg (j - 1) (by omega)).2)
      obtain ⟨σ1, τ1, a1, a2, a3⟩ := t_close X Y0 hL0 hb40 hj kj hb hd hg0 C C' S0
      rw [e_el (by rw [kj]; decide), e_el (by rw [kj]; decide), e_el (by rw [kj]; decide), e_el (by rw [kj]; decide), e_if kj, e_bnd a1, kj, e_el (by decide), e_bnd (m_kd Y0 hj), kj, e_el (by decide), e_bnd (m_kd Y0 hj), e_if kj, e_bnd a2]
      exact G σ1 τ1 a3
/-- run and goThrough -/
theorem r_runs (hg : gr K O V n) (hdep : ∀ j, j ≤ n → (stk K j).length ≤ 40) (hwh : ¬ dueA K n) (hs0 : stk K n = []) {σ τ : fx_S} (X : cxC K O n pt rk sd σ) (Y : cxR K O n pt rk sd s τ) : ∃ σ' τ' b, F_Resolver_run σ = some ((), σ') ∧ F_Md_goThrough (nI s) τ = some (b, τ') ∧ frC σ σ' ∧ frL τ τ' ∧ LN K n τ' ∧ RE K rk sd n σ' τ' b := by
  obtain ⟨τ1, l1, l2, l3, l4⟩ := m_learn (s := s) (pt := pt) (rk := rk) (sd := sd) hg hdep n 0 (fx_fuel - n - 1) τ (by omega) Y ⟨fun i hi => by omega, fun b a s hb => by omega⟩ ⟨rfl, fun e x hx => by simp [stk] at hx⟩
  have hn := X.1
  rw [show fx_fuel - n - 1 + n + 1 = fx_fuel by unfold fx_fuel; omega] at l1
  let τ2 : fx_S := (va_up (va_up (va_up (va_up τ1.1 30 (-1)) 31 (-1)) 32 (-1)) 33 0, τ1.2.1, τ1.2.2)
  have f2 : frL τ1 τ2 := ⟨fun r hr => by
    show va_up (va_up (va_up (va_up τ1.1 30 (-1)) 31 (-1)) 32 (-1)) 33 0 r = _
    rw [va_up_ne _ _ (by omega), va_up_ne _ _ (by omega), va_up_ne _ _ (by omega), va_up_ne _ _ (by omega)], fun _ _ => rfl, rfl⟩
  have f02 := frL_tr l3 f2
  have Y2 : cxR K O n pt rk sd s τ2 := cxR_fr Y (fun r hr => f02.1 r (by omega)) (fun a ha => f02.2.1 a (by omega))
  let σ2 : fx_S := (va_up (va_up (va_up (va_up (va_up (va_up (va_up (va_up σ.1 225 0) 257 0) 257 (nI 1)) 289 0) 218 0) 219 (-1)) 220 (-1)) 221 (-1), va_up σ.2.1 17 (upd (σ.2.1 17) 0 0), σ.2.2)
  have ec : F_Resolver_clear σ = some ((), σ2) := by
    have e0 : F_IntStack1_push 0 (va_up (va_up σ.1 225 0) 257 0, σ.2.1, σ.2.2) = _ := k_push1 (l := []) (σ := (va_up (va_up σ.1 225 0) 257 0, σ.2.1, σ.2.2)) SK_nil (by simp) 0
    have e1 : F_IntStack0_clear σ = some ((), (va_up σ.1 225 0, σ.2.1, σ.2.2)) := rfl
    have e2 : F_IntStack1_clear (va_up σ.1 225 0, σ.2.1, σ.2.2) = some ((), (va_up (va_up σ.1 225 0) 257 0, σ.2.1, σ.2.2)) := rfl
    rw [F_Resolver_clear, e_bnd e1, e_bnd e2, e_bnd e0]
    rfl
  have fC : frC σ σ2 := ⟨fun r hr => by
    show va_up (va_up (va_up (va_up (va_up (va_up (va_up (va_up σ.1 225 0) 257 0) 257 (nI 1)) 289 0) 218 0) 219 (-1)) 220 (-1)) 221 (-1) r = _
    rw [va_up_ne _ _ (by omega), va_up_ne _ _ (by omega), va_up_ne _ _ (by omega), va_up_ne _ _ (by omega), va_up_ne _ _ (by omega), va_up_ne _ _ (by omega), va_up_ne _ _ (by omega), va_up_ne _ _ (by omega)], fun a ha => va_up_ne _ _ (by omega), rfl⟩
  have I : INV K rk sd σ2 τ2 0 := by
    refine ⟨[], [], [], [], 0, ⟨fun w hw => by simp at hw, trivial, ⟨SK_nil, ?_, SK_nil, rfl, Nat.le_refl _, by omega, rfl, rfl, rfl⟩, fun p hp => by omega⟩, ⟨rfl, rfl, rfl, rfl⟩, fun _ => ⟨rfl, rfl⟩, fun h => absurd (Or.inl rfl) h⟩
    exact SK_push (l := []) (A := σ.2.1 17) SK_nil 0
  obtain ⟨σ', τ', b, a1, a2, a3, a4, a5⟩ := r_run hg hdep hwh hs0 n 0 (fx_fuel - n - 1) (fx_fuel - n - 1) σ2 τ2 (by omega) (cxC_fr X fC) Y2 (LN_fr l2 ⟨rfl, rfl⟩) I
  rw [show fx_fuel - n - 1 + n + 1 = fx_fuel by unfold fx_fuel; omega] at a1 a2
  refine ⟨σ', τ', b, ?_, ?_, frC_tr fC a3, frL_tr f02 ⟨fun r hr => a4.1 r hr, fun a ha => a4.2.1 a (by omega), a4.2.2⟩, LN_fr l2 ⟨a4.2.1 15 (by omega), a4.2.1 16 (by omega)⟩, a5⟩
  · rw [F_Resolver_run, e_bnd ec]; exact a1
  · rw [F_Md_goThrough, e_bnd (show F_Md_learn τ = some ((), τ1) from l1), e_bnd (e_pI _ _ _), e_bnd (e_pI _ _ _), e_bnd (e_pI _ _ _), e_bnd (e_pI _ _ _)]
    exact a2
end RUNS
/-! THE LOOSEST, THE ROOT OF A SPAN -/
/-- the items from i to b that are in no bracket of it, in their order -/
def WK (K : Nat → Int32) (b : Nat) : Nat → Nat → List Nat → Prop
  | 0, i, ts => i = b + 1 ∧ ts = []
  | g + 1, i, ts => (i = b + 1 ∧ ts = []) ∨ (i ≤ b ∧ ((K i = 3 ∧ ∃ c, mtc K i c ∧ i < c ∧ c ≤ b ∧ WK K b g (c + 1) ts) ∨ (K i = 0 ∧ WK K b g (i + 1) ts) ∨ ((K i = 1 ∨ K i = 2) ∧ ∃ t, ts = i :: t ∧ WK K b g (i + 1) t)))
section WKS
variable {K : Nat → Int32} {rk sd : Nat → Nat} {T : Nat → Nat → Int32}
theorem WK_mono {b : Nat} : ∀ {g i : Nat} {ts : List Nat}, WK K b g i ts → WK K b (g + 1) i ts
  | 0, i, ts, H => Or.inl H
  | g + 1, i, ts, H => by
    rcases H with H | ⟨h, ⟨h1, c, h2, h3, h4, H⟩ | ⟨h1, H⟩ | ⟨h1, t, h2, H⟩⟩
    · exact Or.inl H
    · exact Or.inr ⟨h, Or.inl ⟨h1, c, h2, h3, h4, WK_mono H⟩⟩
    · exact Or.inr ⟨h, Or.inr (Or.inl ⟨h1, WK_mono H⟩)⟩
    · exact Or.inr ⟨h, Or.inr (Or.inr ⟨h1, t, h2, WK_mono H⟩)⟩
theorem WK_le {b g g' i : Nat} {ts : List Nat} (h : g ≤ g') (H : WK K b g i ts) : WK K b g' i ts := by
  induction h with
  | refl => exact H
  | step _ ih => exact WK_mono ih
theorem WK_app {b c : Nat} {t2 : List Nat} {g2 : Nat} (hc : c ≤ b) (H2 : WK K b g2 (c + 1) t2) : ∀ {g i : Nat} {t1 : List Nat}, WK K c g i t1 → ∃ g', WK K b g' i (t1 ++ t2)
  | 0, i, t1, H => by
    obtain ⟨rfl, rfl⟩ := H
    exact ⟨g2, H2⟩
  | g + 1, i, t1, H => by
    rcases H with ⟨rfl, rfl⟩ | ⟨h, ⟨h1, d, h2, h3, h4, H⟩ | ⟨h1, H⟩ | ⟨h1, t, rfl, H⟩⟩
    · exact ⟨g2, H2⟩
    · obtain ⟨g', H'⟩ := WK_app hc H2 H
      exact ⟨g' + 1, Or.inr ⟨by omega, Or.inl ⟨h1, d, h2, h3, by omega, H'⟩⟩⟩
    · obtain ⟨g', H'⟩ := WK_app hc H2 H
      exact ⟨g' + 1, Or.inr ⟨by omega, Or.inr (Or.inl ⟨h1, H'⟩)⟩⟩
    · obtain ⟨g', H'⟩ := WK_app hc H2 H
      exact ⟨g' + 1, Or.inr ⟨by omega, Or.inr (Or.inr ⟨h1, t ++ t2, rfl, H'⟩)⟩⟩
theorem SP_WK : ∀ {f a b p z h : Nat} {ts : List Nat}, SP K rk sd T f a b p z h ts → ∃ g, WK K b g a ts
  | 0, _, _, _, _, _, _, H => H.elim
  | f + 1, a, b, p, z, h, ts, H => by
    have io := SP_io H
    unfold SP at H
    rcases H with ⟨rfl, h2, -, -, -, rfl, -⟩ | ⟨h1, h2, h3, rfl, -⟩ | ⟨rfl, h2, h3, q, z1, h1', t, H, h4, rfl, -⟩ | ⟨h1, h2, h3, q1, z1, h1', t1, q2, z2, h2', t2, H1, H2, h4, h5, rfl, -⟩
    · exact ⟨1, Or.inr ⟨Nat.le_refl _, Or.inr (Or.inl ⟨h2, rfl, rfl⟩)⟩⟩
    · exact ⟨1, Or.inr ⟨by omega, Or.inl ⟨h1, b, h3, h2, Nat.le_refl _, rfl, rfl⟩⟩⟩
    · obtain ⟨g, H'⟩ := SP_WK H
      exact ⟨g + 1, Or.inr ⟨by omega, Or.inr (Or.inr ⟨Or.inr h2, t, rfl, H'⟩)⟩⟩
    · obtain ⟨g1, W1⟩ := SP_WK H1
      obtain ⟨g2, W2⟩ := SP_WK H2
      have W3 : WK K b (g2 + 1) (p - 1 + 1) (p :: t2) := by
        rw [show p - 1 + 1 = p by omega]
        exact Or.inr ⟨by omega, Or.inr (Or.inr ⟨Or.inl h3, t2, rfl, W2⟩)⟩
      exact WK_app (by omega) W3 W1
end WKS
section LOO
variable {K O : Nat → Int32} {n : Nat} {pt : Int32} {rk sd : Nat → Nat} {s : Nat} {τ : fx_S}
/-- one item of the walk -/
theorem lo_B {i b : Nat} {v4 : Int32} {r : Nat} (Y : cxR K O n pt rk sd s τ) (hL : LN K n τ) (hi : i ≤ b) (hb : b < n) (hr : r ≤ 10) (hrk : ∀ j, j < n → K j = 1 ∨ K j = 2 → rk j < 10 ∧ sd j < 3) (k10 : Int32 → Int32 → Int32 → Int32 → Int32 → fx_M Int32) :
    (∀ c, K i = 3 → mtc K i c → c < n → F_Md_loosest_B10 k10 (nI s) (nI b) v4 (nI r) (nI i) τ = k10 (nI s) (nI b) v4 (nI r) (nI (c + 1)) τ) ∧
    (K i = 0 → F_Md_loosest_B10 k10 (nI s) (nI b) v4 (nI r) (nI i) τ = k10 (nI s) (nI b) v4 (nI r) (nI (i + 1)) τ) ∧
    (K i = 1 ∨ K i = 2 → F_Md_loosest_B10 k10 (nI s) (nI b) v4 (nI r) (nI i) τ = (if rk i < r ∨ (rk i = r ∧ sd i = 0) then k10 (nI s) (nI b) (nI i) (nI (rk i)) (nI (i + 1)) else k10 (nI s) (nI b) v4 (nI r) (nI (i + 1))) τ) := by
  have hn := Y.1
  have h0 : F_Md_loosest_B10 k10 (nI s) (nI b) v4 (nI r) (nI i) τ = (if K i = 3 then (fx_bnd (l_Md_match (nI i)) fun x8 => F_Md_loosest_J100 k10 (nI s) (nI b) v4 (nI r) x8) else (fx_bnd (l_Md_kinds (nI i)) fun x2 => if x2 = 0 then F_Md_loosest_J100 k10 (nI s) (nI b) v4 (nI r) (nI i) else (fx_bnd (l_Md_operators (nI i)) fun x4 => fx_bnd (F_Md_rankOf (nI s) x4) fun x5 => if x5 < nI r then F_Md_loosest_J92 k10 (nI s) (nI b) (nI i) x5 else if x5 = nI r then (fx_bnd (l_Md_operators (nI i)) fun x6 => fx_bnd (F_Md_sideOf (nI s) x6) fun x7 => if x7 = 0 then F_Md_loosest_J92 k10 (nI s) (nI b) (nI i) x5 else F_Md_loosest_J100 k10 (nI s) (nI b) v4 (nI r) (nI i)) else F_Md_loosest_J100 k10 (nI s) (nI b) v4 (nI r) (nI i)))) τ := by
    rw [F_Md_loosest_B10, e_el (by rw [q_lt (by omega) (by omega)]; omega), e_bnd (m_kd Y (show i < n by omega))]
  refine ⟨fun c h3 hc hcn => ?_, fun hk => ?_, fun hk => ?_⟩
  · obtain ⟨h4, t, ht⟩ := hc
    have hm := (hL.2 c i t hcn h4 ht).1
    rw [h0, e_if h3, e_bnd (e_lA (by omega) (by omega)), hm, F_Md_loosest_J100, e_bnd (e_pur _ _), nI_1]
  · rw [h0, e_el (by rw [hk]; decide), e_bnd (m_kd Y (show i < n by omega)), e_if hk, F_Md_loosest_J100, e_bnd (e_pur _ _), nI_1]
  · obtain ⟨r1, r2⟩ := hrk i (by omega) hk
    have k3 : ¬ K i = 3 := by rcases hk with k | k <;> rw [k] <;> decide
    have k0 : ¬ K i = 0 := by rcases hk with k | k <;> rw [k] <;> decide
    rw [h0, e_el k3, e_bnd (m_kd Y (show i < n by omega)), e_el k0, e_bnd (m_opr Y (by omega)), e_bnd (m_rank Y (by omega) hk)]
    by_cases q1 : rk i < r
    · rw [e_if ((q_lt (by omega) (by omega)).mpr q1), e_if (c := rk i < r ∨ rk i = r ∧ sd i = 0) (Or.inl q1), F_Md_loosest_J92, F_Md_loosest_J100, e_bnd (e_pur _ _), nI_1]
    · rw [e_el (fun z => q1 ((q_lt (by omega) (by omega)).mp z))]
      by_cases q2 : rk i = r
      · rw [e_if ((q_eq (by omega) (by omega)).mpr q2), e_bnd (m_opr Y (by omega)), e_bnd (m_side Y (by omega) hk)]
        by_cases q3 : sd i = 0
        · rw [e_if ((q_eq0 (by omega)).mpr q3), e_if (c := rk i < r ∨ rk i = r ∧ sd i = 0) (Or.inr ⟨q2, q3⟩), F_Md_loosest_J92, F_Md_loosest_J100, e_bnd (e_pur _ _), nI_1]
        · rw [e_el (fun z => q3 ((q_eq0 (by omega)).mp z)), e_el (c := rk i < r ∨ rk i = r ∧ sd i = 0) (by omega), F_Md_loosest_J100, e_bnd (e_pur _ _), nI_1]
      · rw [e_el (fun z => q2 ((q_eq (by omega) (by omega)).mp z)), e_el (c := rk i < r ∨ rk i = r ∧ sd i = 0) (by omega), F_Md_loosest_J100, e_bnd (e_pur _ _), nI_1]
theorem lo_2 {b p : Nat} (Y : cxR K O n pt rk sd s τ) (hL : LN K n τ) (hb : b < n) (hp : rk p ≤ 10) (hrk : ∀ j, j < n → K j = 1 ∨ K j = 2 → rk j < 10 ∧ sd j < 3) : ∀ (g i f : Nat) (ts : List Nat), WK K b g i ts → i ≤ b + 1 → (∀ x ∈ ts, lowA rk sd p x) → fx_loop5 F_Md_loosest_B10 (f + (b + 1 - i) + 1) (nI s) (nI b) (nI p) (nI (rk p)) (nI i) τ = some (nI p, τ) := by
  have hn := Y.1
  have fin : ∀ f, fx_loop5 F_Md_loosest_B10 (f + (b + 1 - (b + 1)) + 1) (nI s) (nI b) (nI p) (nI (rk p)) (nI (b + 1)) τ = some (nI p, τ) := by
    intro f
    rw [e_loop5, F_Md_loosest_B10, e_if (by rw [q_lt (by omega) (by omega)]; omega)]; rfl
  intro g
  induction g with
  | zero =>
    intro i f ts H _ _
    obtain ⟨rfl, -⟩ := H
    exact fin f
  | succ g ih =>
    intro i f ts H hi ht
    rcases H with ⟨rfl, -⟩ | ⟨h, H⟩
    · exact fin f
    · have hB := lo_B (v4 := nI p) Y hL h hb hp hrk (fx_loop5 F_Md_loosest_B10 (f + (b + 1 - i)))
      rw [e_loop5]
      rcases H with ⟨h1, c, h2, h3, h4, H⟩ | ⟨h1, H⟩ | ⟨h1, t, rfl, H⟩
      · rw [hB.1 c h1 h2 (by omega)]
        have := ih (c + 1) (f + (c - i)) ts H (by omega) ht
        rw [show f + (c - i) + (b + 1 - (c + 1)) + 1 = f + (b + 1 - i) by omega] at this
        exact this
      · rw [hB.2.1 h1]
        have := ih (i + 1) f ts H (by omega) ht
        rw [show f + (b + 1 - (i + 1)) + 1 = f + (b + 1 - i) by omega] at this
        exact this
      · rw [hB.2.2 h1, e_el (by
          have := ht i (by simp)
          unfold lowA at this; omega)]
        have := ih (i + 1) f t H (by omega) (fun x hx => ht x (List.mem_cons_of_mem _ hx))
        rw [show f + (b + 1 - (i + 1)) + 1 = f + (b + 1 - i) by omega] at this
        exact this
theorem lo_1 {b p : Nat} {t2 : List Nat} (Y : cxR K O n pt rk sd s τ) (hL : LN K n τ) (hb : b < n) (hp : rk p < 10) (hrk : ∀ j, j < n → K j = 1 ∨ K j = 2 → rk j < 10 ∧ sd j < 3) (h2 : ∀ x ∈ t2, lowA rk sd p x) : ∀ (g i f r : Nat) (v4 : Int32) (t1 : List Nat), WK K b g i (t1 ++ p :: t2) → i ≤ b + 1 → r ≤ 10 → (rk p < r ∨ (r = rk p ∧ sd p = 0)) → (∀ x ∈ t1, hiA rk sd x p) → fx_loop5 F_Md_loosest_B10 (f + (b + 1 - i) + 1) (nI s) (nI b) v4 (nI r) (nI i) τ = some (nI p, τ) := by
  have hn := Y.1
  intro g
  induction g with
  | zero =>
    intro i f r v4 t1 H _ _ _ _
    exact absurd H.2 (by simp)
  | succ g ih =>
    intro i f r v4 t1 H hi hr hrp ht
    rcases H with ⟨-, H⟩ | ⟨h, H⟩
    · exact absurd H (by simp)
    · have hB := lo_B (v4 := v4) Y hL h hb hr hrk (fx_loop5 F_Md_loosest_B10 (f + (b + 1 - i)))
      rw [e_loop5]
      rcases H with ⟨h1, c, h2, h3, h4, H⟩ | ⟨h1, H⟩ | ⟨h1, t, he, H⟩
      · rw [hB.1 c h1 h2 (by omega)]
        have := ih (c + 1) (f + (c - i)) r v4 t1 H (by omega) hr hrp ht
        rw [show f + (c - i) + (b + 1 - (c + 1)) + 1 = f + (b + 1 - i) by omega] at this
        exact this
      · rw [hB.2.1 h1]
        have := ih (i + 1) f r v4 t1 H (by omega) hr hrp ht
        rw [show f + (b + 1 - (i + 1)) + 1 = f + (b + 1 - i) by omega] at this
        exact this
      · rw [hB.2.2 h1]
        cases t1 with
        | nil =>
          obtain ⟨rfl, rfl⟩ := List.cons.inj he
          rw [e_if (by omega)]
          have := lo_2 Y hL hb (by omega) hrk g (p + 1) f t2 H (by omega) h2
          rw [show f + (b + 1 - (p + 1)) + 1 = f + (b + 1 - p) by omega] at this
          exact this
        | cons x t1 =>
          obtain ⟨rfl, rfl⟩ := List.cons.inj he
          have hx := ht x (by simp)
          have ht' : ∀ y ∈ t1, hiA rk sd y p := fun y hy => ht y (List.mem_cons_of_mem _ hy)
          by_cases q : rk x < r ∨ (rk x = r ∧ sd x = 0)
          · rw [e_if q]
            have := ih (x + 1) f (rk x) (nI x) t1 H (by omega) (by have := (hrk x (by omega) h1).1; omega) (by unfold hiA at hx; omega) ht'
            rw [show f + (b + 1 - (x + 1)) + 1 = f + (b + 1 - x) by omega] at this
            exact this
          · rw [e_el q]
            have := ih (x + 1) f r v4 t1 H (by omega) hr hrp ht'
            rw [show f + (b + 1 - (x + 1)) + 1 = f + (b + 1 - x) by omega] at this
            exact this
theorem m_loo {T : Nat → Nat → Int32} {f a b p z h : Nat} {t1 t2 : List Nat} (Y : cxR K O n pt rk sd s τ) (hL : LN K n τ) (hb : b < n) (hpn : p < n) (kp : K p = 1 ∨ K p = 2) (hrk : ∀ j, j < n → K j = 1 ∨ K j = 2 → rk j < 10 ∧ sd j < 3) (H : SP K rk sd T f a b p z h (t1 ++ p :: t2)) (h1 : ∀ x ∈ t1, hiA rk sd x p) (h2 : ∀ x ∈ t2, lowA rk sd p x) : F_Md_loosest (nI s) (nI a) (nI b) τ = some (nI p, τ) := by
  obtain ⟨g, W⟩ := SP_WK H
  have io := SP_io H
  have hn := Y.1
  have hr := (hrk p hpn kp).1
  have := lo_1 Y hL hb hr hrk h2 g a (fx_fuel - (b + 1 - a) - 1) 10 (-1) t1 W (by omega) (by omega) (Or.inl hr) h1
  rw [show fx_fuel - (b + 1 - a) - 1 + (b + 1 - a) + 1 = fx_fuel by unfold fx_fuel; omega] at this
  exact this
end LOO
/-! ROOT -/
def tlS (τ : fx_S) (i : Nat) (kd : Int32) (p : Nat) : fx_S := (τ.1, va_up (va_up (va_up τ.2.1 8 (upd (τ.2.1 8) i kd)) 12 (upd (τ.2.1 12) i (nI p))) 9 (upd (τ.2.1 9) i (τ.2.1 5 p)), va_up τ.2.2 14 (vp_updL (τ.2.2 14) i (τ.2.2 6 p)))
def prS (τ : fx_S) (m : Nat) (a b par side : Int32) : fx_S := (va_up τ.1 38 (nI (m + 1)), va_up (va_up (va_up (va_up τ.2.1 19 (upd (τ.2.1 19) m a)) 20 (upd (τ.2.1 20) m b)) 21 (upd (τ.2.1 21) m par)) 22 (upd (τ.2.1 22) m side), τ.2.2)
theorem m_tell {τ : fx_S} {i p : Nat} (hi : i < 400) (hp : p < 200) (kd : Int32) : F_Md_tell (nI i) kd (nI p) τ = some ((), tlS τ i kd p) := by
  rw [F_Md_tell, e_bnd (e_sA hi (by omega)), e_bnd (e_sA hi (by omega)), e_bnd (e_lA hp (by omega)), e_bnd (e_sA hi (by omega)), e_bnd (e_lL hp (by omega)), e_bnd (e_sL hi (by omega))]
  rfl
theorem m_part {τ : fx_S} {m : Nat} (hz : τ.1 38 = nI m) (hm : m < 400) (a b par side : Int32) : F_Md_part a b par side τ = some ((), prS τ m a b par side) := by
  rw [F_Md_part, e_bnd (e_gI _ _), hz, e_bnd (e_sA hm (by omega)), e_bnd (e_gI _ _)]
  refine (?_ : fx_bnd (s_Md_partTo (τ.1 38) b) _ _ = _)
  rw [hz, e_bnd (e_sA hm (by omega)), e_bnd (e_gI _ _)]
  refine (?_ : fx_bnd (s_Md_partParent (τ.1 38) par) _ _ = _)
  rw [hz, e_bnd (e_sA hm (by omega)), e_bnd (e_gI _ _)]
  refine (?_ : fx_bnd (s_Md_partSide (τ.1 38) side) _ _ = _)
  rw [hz, e_bnd (e_sA hm (by omega)), e_bnd (e_gI _ _)]
  refine (?_ : fx_bnd (fx_pI 38 (τ.1 38 + 1)) _ _ = _)
  rw [hz, nI_1]
  rfl
section ROOT
variable {K O : Nat → Int32} {n : Nat} {pt : Int32} {rk sd : Nat → Nat} {s : Nat} {T : Nat → Nat → Int32}
/-- what a span's root is -/
def ROT (K : Nat → Int32) (rk sd : Nat → Nat) (T : Nat → Nat → Int32) (n p z h : Nat) (i k m : Nat) (τ τ' : fx_S) : Prop :=
  (nkA K n p = 0 ∧ z = 1 ∧ h = 1 ∧ T 22 p = -1 ∧ T 23 p = -1 ∧ τ' = tlS τ i 0 p) ∨
  (∃ kd a1 b1 q z1 h1 t, nkA K n p = kd ∧ (kd = 2 ∨ kd = 3 ∨ kd = 4) ∧ TR K rk sd T a1 b1 q z1 h1 t ∧ b1 < n ∧ z = 1 + z1 ∧ h = 1 + h1 ∧ T 22 p = nI q ∧ T 23 p = -1 ∧ τ' = prS (tlS τ i kd p) m (nI a1) (nI b1) (nI k) 0) ∨
  (∃ a1 b1 q1 z1 h1 t1 a2 b2 q2 z2 h2 t2, nkA K n p = 1 ∧ TR K rk sd T a1 b1 q1 z1 h1 t1 ∧ b1 < n ∧ TR K rk sd T a2 b2 q2 z2 h2 t2 ∧ b2 < n ∧ z = 1 + z1 + z2 ∧ h = 1 + max h1 h2 ∧ T 22 p = nI q1 ∧ T 23 p = nI q2 ∧ τ' = prS (prS (tlS τ i 1 p) m (nI a2) (nI b2) (nI k) 1) (m + 1) (nI a1) (nI b1) (nI k) 0)
theorem m_root {i k m B : Nat} (hrk : ∀ j, j < n → K j = 1 ∨ K j = 2 → rk j < 10 ∧ sd j < 3) (hi : B + k = i) (hi4 : i < 400) (hm : m + 1 < 400) : ∀ (f a b p z h g : Nat) (ts : List Nat) (τ : fx_S), cxR K O n pt rk sd s τ → LN K n τ → τ.1 38 = nI m → b < n → SP K rk sd T f a b p z h ts → ∃ τ', fx_loop5 F_Md_root_B8 (g + f) (nI s) (nI B) (nI k) (nI a) (nI b) τ = some ((), τ') ∧ ROT K rk sd T n p z h i k m τ τ'
  | 0, _, _, _, _, _, _, _, _, _, _, _, _, H => H.elim
  | f + 1, a, b, p, z, h, g, ts, τ, Y, hL, h38, hb, H0 => by
    have hn := Y.1
    have io := SP_io H0
    have H := H0
    unfold SP at H
    rw [show g + (f + 1) = (g + f) + 1 by omega, e_loop5, F_Md_root_B8, e_bnd (m_kd Y (show a < n by omega))]
    rcases H with ⟨rfl, h2, rfl, rfl, rfl, -, hnd⟩ | ⟨h1, h2, h3, rfl, H⟩ | ⟨rfl, h2, h3, q, z1, h1', t, H, h4, rfl, rfl, rfl, hnd⟩ | ⟨h1, h2, h3, q1, z1, h1', t1, q2, z2, h2', t2, H1, H2, h4, h5, rfl, rfl, rfl, hnd⟩
    · -- a leaf
      refine ⟨tlS τ i 0 p, ?_, Or.inl ⟨by simp [nkA, h2], rfl, rfl, hnd.1, hnd.2.1, rfl⟩⟩
      rw [e_el (by rw [h2]; decide), F_Md_root_J64, e_if rfl, nI_add, hi, e_bnd (m_tell hi4 (by omega) 0)]; rfl
    · -- brackets
      obtain ⟨h4, tt, htt⟩ := id h3
      have hm1 := (hL.2 b a tt hb h4 htt).1
      have hbg : F_Md_begins (nI (a + 1)) τ = some (if K (a + 1) = 1 then 1 else 0, τ) := by
        rw [m_begins Y (by omega)]
        by_cases q : K (a + 1) = 1
        · rw [if_pos q, if_pos ⟨q, by omega, by rw [Nat.add_sub_cancel]; exact h1⟩]
        · rw [if_neg q, if_neg (fun z => q z.1)]
      have em : l_Md_match (nI a) τ = some (nI b, τ) := by rw [l_Md_match, e_lA (by omega) (by omega), hm1]
      rw [e_if h1, e_bnd em, e_if rfl, nI_1, e_bnd hbg]
      have hab : ¬ nI a = nI b := fun z => by rw [q_eq (by omega) (by omega)] at z; omega
      rcases H with ⟨g1, g2, t, H⟩ | ⟨g1, rfl, q, z1, h1', t, H, rfl, rfl, hnd⟩ | ⟨g1, g2, rfl, q, z1, h1', t, H, rfl, rfl, hnd⟩
      · rw [if_neg g1, e_if rfl, q_s1 (by omega), e_bnd (m_kd Y (by omega)), e_el g2, e_bnd (e_pur _ _), e_bnd (e_pur _ _)]
        have e9 : nI b + (-1) = nI (b - 1) := by rw [← q_s1 (show 0 < b by omega), Int32.sub_eq_add_neg]
        rw [e9]
        exact m_root hrk hi hi4 hm f (a + 1) (b - 1) p z h g t τ Y hL h38 (by omega) H
      · have io' := SP_io H
        refine ⟨prS (tlS τ i 4 (a + 1)) m (nI (a + 2)) (nI (b - 1)) (nI k) 0, ?_, Or.inr (Or.inl ⟨4, a + 2, b - 1, q, z1, h1', t, ?_, Or.inr (Or.inr rfl), ⟨f, H⟩, by omega, rfl, rfl, hnd.1, hnd.2.1, rfl⟩)⟩
        · rw [if_pos g1, e_el (by decide), F_Md_root_J64, e_el hab, e_bnd (m_kd Y (show a < n by omega)), e_if h1, e_bnd em, e_if rfl, nI_1, e_bnd hbg, if_pos g1, e_el (by decide), nI_add, hi, e_bnd (m_tell hi4 (by omega) 4), show nI a + 2 = nI (a + 2) from nI_add a 2, q_s1 (by omega), e_bnd (m_part (show (tlS τ i 4 (a + 1)).1 38 = nI m from h38) (by omega) _ _ _ _)]; rfl
        · exact (nkA_4 (Or.inl g1)).mpr ⟨g1, by omega, by rw [Nat.add_sub_cancel]; exact h1⟩
      · have io' := SP_io H
        refine ⟨prS (tlS τ i 3 (b - 1)) m (nI (a + 1)) (nI (b - 2)) (nI k) 0, ?_, Or.inr (Or.inl ⟨3, a + 1, b - 2, q, z1, h1', t, ?_, Or.inr (Or.inl rfl), ⟨f, H⟩, by omega, rfl, rfl, hnd.1, hnd.2.1, rfl⟩)⟩
        · rw [if_neg g1, e_if rfl, q_s1 (by omega), e_bnd (m_kd Y (by omega)), e_if g2, F_Md_root_J64, e_el hab, e_bnd (m_kd Y (show a < n by omega)), e_if h1, e_bnd em, e_if rfl, nI_1, e_bnd hbg, if_neg g1, e_if rfl, F_Md_root_J147, e_bnd (m_kd Y (show a < n by omega)), e_if h1, e_bnd em, e_if rfl, nI_add, hi, q_s1 (by omega), e_bnd (m_tell hi4 (by omega) 3), nI_1, show nI b - 2 = nI (b - 2) from q_sub (b := 2) (by omega), e_bnd (m_part (show (tlS τ i 3 (b - 1)).1 38 = nI m from h38) (by omega) _ _ _ _)]; rfl
        · unfold nkA
          rw [g2, if_neg (by decide), if_neg, if_pos ⟨rfl, by omega, by rw [show b - 1 + 1 = b by omega]; exact h4⟩]
          rintro ⟨-, -, z⟩
          rw [show b - 1 - 1 = b - 2 by omega] at z
          rcases io'.2.1 with q | q <;> rw [q] at z <;> exact absurd z (by decide)
    · -- a negation
      have hab : ¬ nI p = nI b := fun z => by rw [q_eq (by omega) (by omega)] at z; omega
      have k3 : ¬ K p = 3 := by rw [h2]; decide
      have el := m_loo (t1 := []) Y hL hb (by omega) (Or.inr h2) hrk H0 (fun x hx => by simp at hx) h4
      refine ⟨prS (tlS τ i 2 p) m (nI (p + 1)) (nI b) (nI k) 0, ?_, Or.inr (Or.inl ⟨2, p + 1, b, q, z1, h1', t, (nkA_2 (Or.inr h2)).mpr h2, Or.inl rfl, ⟨f, H⟩, hb, rfl, rfl, hnd.1, hnd.2.1, rfl⟩)⟩
      have Y1 : cxR K O n pt rk sd s (tlS τ i 2 p) := cxR_fr Y (fun _ _ => rfl) (fun a ha => by
        show va_up (va_up (va_up τ.2.1 8 _) 12 _) 9 _ a = _
        rw [va_up_ne _ _ (by omega), va_up_ne _ _ (by omega), va_up_ne _ _ (by omega)])
      rw [e_el k3, F_Md_root_J64, e_el hab, e_bnd (m_kd Y (show p < n by omega)), e_el k3, F_Md_root_J147, e_bnd (m_kd Y (show p < n by omega)), e_el k3, F_Md_root_J199, e_bnd el, e_bnd (m_kd Y (show p < n by omega)), h2, nI_add, hi, e_bnd (m_tell hi4 (by omega) 2), e_bnd (m_kd Y1 (show p < n by omega)), e_el (by rw [h2]; decide), nI_1, e_bnd (m_part (show (tlS τ i 2 p).1 38 = nI m from h38) (by omega) _ _ _ _)]; rfl
    · -- an operator
      have i1 := SP_io H1
      have i2 := SP_io H2
      have hab : ¬ nI a = nI b := fun z => by rw [q_eq (by omega) (by omega)] at z; omega
      have el := m_loo Y hL hb (by omega) (Or.inl h3) hrk H0 h4 h5
      have hnk : nkA K n p = 1 := by
        refine nkA_plain h3 ?_ ?_
        · rcases i1.2.1 with q | q <;> rw [q] <;> decide
        · rcases i2.1 with q | q | q <;> rw [q] <;> decide
      let τ1 := tlS τ i 1 p
      have Y1 : cxR K O n pt rk sd s τ1 := cxR_fr Y (fun _ _ => rfl) (fun a ha => by
        show va_up (va_up (va_up τ.2.1 8 _) 12 _) 9 _ a = _
        rw [va_up_ne _ _ (by omega), va_up_ne _ _ (by omega), va_up_ne _ _ (by omega)])
      have J : F_Md_root_J199 (nI s) (nI B) (nI k) (nI a) (nI b) τ = some ((), prS (prS τ1 m (nI (p + 1)) (nI b) (nI k) 1) (m + 1) (nI a) (nI (p - 1)) (nI k) 0) := by
        rw [F_Md_root_J199, e_bnd el, e_bnd (m_kd Y (show p < n by omega)), h3, nI_add, hi, e_bnd (m_tell hi4 (by omega) 1), e_bnd (m_kd Y1 (show p < n by omega)), e_if h3, nI_1, e_bnd (m_part (show τ1.1 38 = nI m from h38) (by omega) _ _ _ _), q_s1 (by omega), e_bnd (m_part (m := m + 1) (show (prS τ1 m (nI (p + 1)) (nI b) (nI k) 1).1 38 = nI (m + 1) from rfl) (by omega) _ _ _ _)]; rfl
      refine ⟨_, ?_, Or.inr (Or.inr ⟨a, p - 1, q1, z1, h1', t1, p + 1, b, q2, z2, h2', t2, hnk, ⟨f, H1⟩, by omega, ⟨f, H2⟩, hb, rfl, rfl, hnd.1, hnd.2.1, rfl⟩)⟩
      rw [← J]
      by_cases k3 : K a = 3
      · obtain ⟨b', g1, g2, g3⟩ := SP_open H1 k3
        obtain ⟨g4, tt, g5⟩ := g3
        have em : l_Md_match (nI a) τ = some (nI b', τ) := by rw [l_Md_match, e_lA (by omega) (by omega), (hL.2 b' a tt (by omega) g4 g5).1]
        have hbb : ¬ nI b' = nI b := fun z => by rw [q_eq (by omega) (by omega)] at z; omega
        rw [e_if k3, e_bnd em, e_el hbb, F_Md_root_J64, e_el hab, e_bnd (m_kd Y (show a < n by omega)), e_if k3, e_bnd em, e_el hbb, F_Md_root_J147, e_bnd (m_kd Y (show a < n by omega)), e_if k3, e_bnd em, e_el hbb]
      · rw [e_el k3, F_Md_root_J64, e_el hab, e_bnd (m_kd Y (show a < n by omega)), e_el k3, F_Md_root_J147, e_bnd (m_kd Y (show a < n by omega)), e_el k3]
end ROOT
