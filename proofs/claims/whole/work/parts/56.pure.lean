/-! RESOLVE -/
def CF (σ σ' : fx_S) : Prop := (∀ r, (10 < r ∧ r < 200) ∨ 600 < r → σ'.1 r = σ.1 r) ∧ (∀ a, a < 5 ∨ (6 < a ∧ a < 13) ∨ 39 < a → σ'.2.1 a = σ.2.1 a) ∧ (∀ a, a < 32 ∨ 39 < a → σ'.2.2 a = σ.2.2 a)
def MF (τ τ' : fx_S) : Prop := (∀ r, (0 < r ∧ r < 12) ∨ 38 < r → τ'.1 r = τ.1 r) ∧ (∀ a, a < 8 ∨ 22 < a → τ'.2.1 a = τ.2.1 a) ∧ (∀ a, a ≠ 14 → τ'.2.2 a = τ.2.2 a)
theorem CF_tr {σ σ' σ'' : fx_S} (h : CF σ σ') (g : CF σ' σ'') : CF σ σ'' := ⟨fun r q => (g.1 r q).trans (h.1 r q), fun a q => (g.2.1 a q).trans (h.2.1 a q), fun a q => (g.2.2 a q).trans (h.2.2 a q)⟩
theorem MF_tr {σ σ' σ'' : fx_S} (h : MF σ σ') (g : MF σ' σ'') : MF σ σ'' := ⟨fun r q => (g.1 r q).trans (h.1 r q), fun a q => (g.2.1 a q).trans (h.2.1 a q), fun a q => (g.2.2 a q).trans (h.2.2 a q)⟩
theorem CF_frC {σ σ' : fx_S} (h : frC σ σ') : CF σ σ' := ⟨fun r q => h.1 r (by omega), fun a q => h.2.1 a (by omega), fun a q => by rw [h.2.2]⟩
theorem MF_frL {τ τ' : fx_S} (h : frL τ τ') : MF τ τ' := ⟨fun r q => h.1 r (by omega), fun a q => h.2.1 a (by omega), fun a q => by rw [h.2.2]⟩
theorem MF_gF {B : Nat} {τ τ' : fx_S} (h : gF B τ τ') : MF τ τ' := ⟨fun r q => h.1 r (by omega), fun a q => h.2.1 a (by omega), h.2.2.2.1⟩
theorem Rel_CF {σ τ σ' τ' : fx_S} (h : Rel σ τ) (c : CF σ σ') (m : MF τ τ') : RS σ' τ' ∧ RR σ' τ' ∧ RW σ' τ' := by
  refine ⟨RS_cg h.1 ?_ ?_, RR_cg h.2.1 ?_ ?_, RW_cg h.2.2.2.2 ?_ ?_⟩
  · simp only [kS]; rw [c.1 18 (by omega), c.2.1 2 (by omega), c.2.1 3 (by omega)]
  · simp only [kS']; rw [m.1 1 (by omega), m.2.1 1 (by omega), m.2.1 2 (by omega), m.2.1 3 (by omega)]
  · simp only [kR]; rw [c.1 117 (by omega), c.1 118 (by omega), c.1 119 (by omega), c.2.1 8 (by omega), c.2.1 9 (by omega), c.2.1 10 (by omega), c.2.1 12 (by omega), c.2.2 11 (by omega)]
  · simp only [kR']; rw [m.1 5 (by omega), m.1 6 (by omega), m.1 10 (by omega), m.2.1 4 (by omega), m.2.1 5 (by omega), m.2.1 7 (by omega), m.2.2 6 (by omega)]
  · simp only [kW]; rw [c.1 646 (by omega), c.1 647 (by omega), c.2.1 41 (by omega), c.2.1 42 (by omega), c.2.1 43 (by omega), c.2.2 44 (by omega)]
  · simp only [kW']; rw [m.1 39 (by omega), m.1 40 (by omega), m.2.1 23 (by omega), m.2.1 24 (by omega), m.2.1 25 (by omega), m.2.2 26 (by omega)]
/-- both are ready to run -/
theorem r_ready {σ τ : fx_S} {n s nr : Nat} (hs : s < n) (HS : RSn σ τ n) (hC : rowC (σ.1 117) (σ.1 118) (σ.2.1 8) (σ.2.1 9) (σ.2.1 10) (σ.2.2 11) (σ.2.1 12) nr) (hR : rowR (τ.1 5) (τ.1 10) (τ.2.1 4) (τ.2.1 5) (τ.2.2 6) (τ.2.1 7) (σ.2.1 8) (σ.2.1 10) (σ.2.2 11) nr) (hp : σ.1 119 = τ.1 6 ∧ (τ.1 6 = 0 ∨ τ.1 6 = 1)) :
    ∃ rk sd A B, F_Fixities_look_Scopes (nI s) σ = some ((), (σ.1, va_up (va_up σ.2.1 5 A) 6 B, σ.2.2)) ∧ cxC (σ.2.1 8) (σ.2.1 10) nr (τ.1 6) rk sd (σ.1, va_up (va_up σ.2.1 5 A) 6 B, σ.2.2) ∧ cxR (σ.2.1 8) (σ.2.1 10) nr (τ.1 6) rk sd s (va_up τ.1 0 0, τ.2.1, τ.2.2) := by
  obtain ⟨df, kf, hT⟩ := fxT_ex HS hs
  obtain ⟨A, B, l1, l2⟩ := l_look0 HS hs hT
  obtain ⟨h2, hz, hzo, hdep, hgr, hnk, hrs⟩ := id hC
  have hop : ∀ j, j < nr → σ.2.1 8 j = 1 ∨ σ.2.1 8 j = 2 → ∃ o, o < 41 ∧ σ.2.1 10 j = nI o ∧ (σ.2.1 8 j = 2 → o = 0) := by
    intro j hj hk
    rcases (hgr j hj).2 with ⟨h, -⟩ | ⟨h, ⟨o, ho, ho2⟩, -⟩ | ⟨h, ho, -⟩ | ⟨h | h, -⟩
    · rcases hk with k | k <;> rw [k] at h <;> exact absurd h (by decide)
    · exact ⟨o, ho, ho2, fun z => by rw [h] at z; exact absurd z (by decide)⟩
    · exact ⟨0, by omega, ho, fun _ => rfl⟩
    · rcases hk with k | k <;> rw [k] at h <;> exact absurd h (by decide)
    · rcases hk with k | k <;> rw [k] at h <;> exact absurd h (by decide)
  refine ⟨fun j => kf (σ.2.1 10 j).toNatClampNeg, fun j => df (σ.2.1 10 j).toNatClampNeg, A, B, l1, ⟨h2, hz, hp.1, hp.2, rfl, rfl, hnk, fun j hj hk => ?_⟩, ⟨h2, hR.1, rfl, fun j hj => ⟨(hR.2.2.1 j hj).1, (hR.2.2.1 j hj).2.1⟩, df, kf, σ, n, HS, hs, fxT_cg HS hs hT rfl rfl, fun j hj hk => ?_⟩⟩
  · obtain ⟨o, ho, ho2, ho3⟩ := hop j hj hk
    obtain ⟨t1, t2, t3, -⟩ := hT o ho
    refine ⟨o, ho, ho2, ?_⟩
    show B o = nI (kf (σ.2.1 10 j).toNatClampNeg) ∧ A o = nI (df (σ.2.1 10 j).toNatClampNeg) ∧ kf (σ.2.1 10 j).toNatClampNeg < 10 ∧ df (σ.2.1 10 j).toNatClampNeg < 3 ∧ (σ.2.1 8 j = 2 → kf (σ.2.1 10 j).toNatClampNeg = 6)
    rw [ho2, q_cl (by omega)]
    exact ⟨(l2 o ho).2, (l2 o ho).1, t2, t1, fun z => t3 (ho3 z)⟩
  · obtain ⟨o, ho, ho2, ho3⟩ := hop j hj hk
    refine ⟨o, ho, ho2, ?_⟩
    show kf (σ.2.1 10 j).toNatClampNeg = _ ∧ df (σ.2.1 10 j).toNatClampNeg = _
    rw [ho2, q_cl (by omega)]
    exact ⟨rfl, rfl⟩
/-- the deepest -/
theorem m_deep {N : Nat} {dp : Nat → Nat} (hN : N ≤ 200) (hd : ∀ i, i < N → dp i < 2 ^ 31) (hm : ∀ i, i ≤ N → mxN dp i < 2 ^ 31) : ∀ (m i f : Nat) (τ : fx_S), m + i = N → τ.1 12 = nI N → τ.1 21 = nI (mxN dp i) → (∀ j, j < N → τ.2.1 13 j = nI (dp j)) → ∃ τ', fx_loop1 F_Md_resolve_B80 (f + m + 1) (nI i) τ = some (nI N, τ') ∧ τ'.1 21 = nI (mxN dp N) ∧ (∀ r, r ≠ 21 → τ'.1 r = τ.1 r) ∧ τ'.2 = τ.2
  | 0, i, f, τ, h, h12, h21, h13 => by
    have : i = N := by omega
    subst this
    refine ⟨τ, ?_, h21, fun _ _ => rfl, rfl⟩
    rw [e_loop1, F_Md_resolve_B80, e_bnd (e_gI _ _), h12, e_if (by rw [q_le (by omega) (by omega)]; omega), e_bnd (e_gI _ _), h12]; rfl
  | m + 1, i, f, τ, h, h12, h21, h13 => by
    have hdi := hd i (by omega)
    have hmi := hm i (by omega)
    obtain ⟨τ', a1, a2, a3, a4⟩ := m_deep hN hd hm m (i + 1) f (va_up τ.1 21 (nI (mxN dp (i + 1))), τ.2.1, τ.2.2) (by omega) h12 rfl h13
    refine ⟨τ', ?_, a2, fun r hr => (a3 r hr).trans (va_up_ne _ _ hr), a4⟩
    rw [show f + (m + 1) + 1 = (f + m + 1) + 1 by omega, e_loop1, F_Md_resolve_B80, e_bnd (e_gI _ _), h12, e_el (by rw [q_le (by omega) (by omega)]; omega), e_bnd (e_lA (by omega) (by omega)), h13 i (by omega), e_bnd (e_gI _ _), h21]
    by_cases q : dp i ≤ mxN dp i
    · rw [e_if ((q_le hdi hmi).mpr q), e_bnd (e_gI _ _), h21, F_Md_resolve_J115, e_bnd (e_pI _ _ _), e_bnd (e_pur _ _), nI_1, ← a1]
      simp only [mxN, Nat.max_eq_left q]
    · rw [e_el (fun z => q ((q_le hdi hmi).mp z)), e_bnd (e_lA (by omega) (by omega)), h13 i (by omega), F_Md_resolve_J115, e_bnd (e_pI _ _ _), e_bnd (e_pur _ _), nI_1, ← a1]
      simp only [mxN, Nat.max_eq_right (show mxN dp i ≤ dp i by omega)]
theorem mxN_mono {dp : Nat → Nat} : ∀ {k i : Nat}, i ≤ k → mxN dp i ≤ mxN dp k
  | 0, i, h => by
    have : i = 0 := by omega
    subst this; exact Nat.le_refl _
  | k + 1, i, h => by
    by_cases e : i = k + 1
    · subst e; exact Nat.le_refl _
    · have := mxN_mono (dp := dp) (show i ≤ k by omega)
      simp only [mxN]
      exact Nat.le_trans this (Nat.le_max_left _ _)
theorem o_resolve {σ τ : fx_S} (h : Rel σ τ) (a : Int32) : lw_op Rel [(0, 1), (1, 2)] (F_FixityTrees_resolve a) (F_Md_resolve a) (fun r b => r = b) σ τ := by
  rcases w_why h a with ⟨c1, m1⟩ | ⟨c1, ⟨c2, m1⟩ | ⟨c2, m1, n, s, nr, rfl, hs, HS, hC, hR, hp, hdu, hst⟩⟩
  · refine op_thr0 h (b := 0) 0 1 (by simp) ?_ ?_
    · rw [F_FixityTrees_resolve, e_bndt c1]
    · rw [F_Md_resolve, e_bnd m1, e_bnd (m_good (by decide) τ), e_if rfl]; rfl
  · refine op_thr0 h (b := 0) 1 2 (by simp) ?_ ?_
    · rw [F_FixityTrees_resolve, e_bndx c1, e_bndt c2]
    · rw [F_Md_resolve, e_bnd m1, e_bnd (m_good (by decide) τ), e_if rfl]; rfl
  · obtain ⟨rk, sd, A, B, l1, X, Y⟩ := r_ready hs HS hC hR hp
    obtain ⟨h2, hz, hzo, hdep, hgr, hnk, hrs⟩ := id hC
    let τ0 : fx_S := (va_up τ.1 0 0, τ.2.1, τ.2.2)
    let σ1 : fx_S := (σ.1, va_up (va_up σ.2.1 5 A) 6 B, σ.2.2)
    have hF1 : CF σ σ1 := ⟨fun _ _ => rfl, fun a ha => by
      show va_up (va_up σ.2.1 5 A) 6 B a = _
      rw [va_up_ne _ _ (by omega), va_up_ne _ _ (by omega)], fun _ _ => rfl⟩
    have hM1 : MF τ τ0 := ⟨fun r hr => va_up_ne _ _ (by omega), fun _ _ => rfl, fun _ _ => rfl⟩
    obtain ⟨σ2, τ1, b, r1, r2, r3, r4, r5, r6⟩ := r_runs hgr hdep hdu hst X Y
    have hn0 : 0 < nr := by
      by_cases e : nr = 0
      · exact absurd (Or.inl e) hdu
      · omega
    -- the registers of a clash
    let σ3 : fx_S := (va_up (va_up (va_up σ2.1 7 (σ2.1 219)) 8 (σ2.1 220)) 9 (σ2.1 221), σ2.2.1, σ2.2.2)
    let τ2 : fx_S := (va_up (va_up (va_up τ1.1 22 (τ1.1 30)) 23 (τ1.1 31)) 24 (τ1.1 32), τ1.2.1, τ1.2.2)
    have hc3 : F_FixityTrees_resolve (nI s) σ = (if σ2.1 219 = (-1) then (fx_bnd (F_Resolver_numberInto_Tree0) fun _ => fx_bnd (F_Resolver_mostWaiting) fun x5 => fx_bnd (p_FixityTrees_mostWaiting x5) fun _ => fx_bnd (F_Tree0_size) fun x6 => fx_ret (.inl x6)) else (fx_bnd (F_Tree0_clear) fun _ => fx_ret (.inl (-1)))) σ3 := by
      rw [F_FixityTrees_resolve, e_bndx c1, e_bndx c2, e_bnd l1, e_bnd r1]
      rfl
    have hm3 : F_Md_resolve (nI s) τ = (if b = 0 then (fx_bnd (p_Md_treeSize 0) fun _ => fx_ret (-1)) else (fx_bnd g_Md_foundMost fun x7 => fx_bnd (p_Md_mostWaiting x7) fun _ => fx_bnd (F_Md_grow (nI s) 0) fun x8 => fx_bnd (p_Md_treeSize x8) fun _ => fx_bnd (p_Md_deepest 0) fun _ => fx_loop1 (F_Md_resolve_B80) fx_fuel 0)) τ2 := by
      rw [F_Md_resolve, e_bnd m1, e_bnd (m_good0 τ), e_el (by decide), e_bnd r2]
      rfl
    have hF3 : CF σ σ3 := CF_tr hF1 (CF_tr (CF_frC r3) ⟨fun r hr => by
      show va_up (va_up (va_up σ2.1 7 _) 8 _) 9 _ r = _
      rw [va_up_ne _ _ (by omega), va_up_ne _ _ (by omega), va_up_ne _ _ (by omega)], fun _ _ => rfl, fun _ _ => rfl⟩)
    have hM3 : MF τ τ2 := MF_tr hM1 (MF_tr (MF_frL r4) ⟨fun r hr => by
      show va_up (va_up (va_up τ1.1 22 _) 23 _) 24 _ r = _
      rw [va_up_ne _ _ (by omega), va_up_ne _ _ (by omega), va_up_ne _ _ (by omega)], fun _ _ => rfl, fun _ _ => rfl⟩)
    have c10 : σ3.1 10 = σ.1 10 := r3.1 10 (by omega)
    have c25 : τ2.1 25 = τ.1 25 := r4.1 25 (by omega)
    rcases r6 with ⟨rfl, k1, k2, k3, k4⟩ | ⟨rfl, k1, k2, k3, k4, k5, k6, k7, p, z, hh, ts, k8, k9⟩
    · -- a clash
      refine op_ret (r := -1) (b := -1) (σ' := (va_up (va_up σ3.1 422 0) 423 0, σ3.2.1, σ3.2.2)) (τ' := (va_up τ2.1 12 0, τ2.2.1, τ2.2.2)) ?_ ?_ ?_ rfl ?_
      · rw [hc3, e_el k1]; rfl
      · rw [hm3, e_if rfl]; rfl
      · show τ1.1 0 = 0
        rw [r4.1 0 (by omega)]; rfl
      · obtain ⟨g1, g2, g3⟩ := Rel_CF h (CF_tr hF3 (σ'' := (va_up (va_up σ3.1 422 0) 423 0, σ3.2.1, σ3.2.2)) ⟨fun r hr => by
          show va_up (va_up σ3.1 422 0) 423 0 r = _
          rw [va_up_ne _ _ (by omega), va_up_ne _ _ (by omega)], fun _ _ => rfl, fun _ _ => rfl⟩) (MF_tr hM3 (σ'' := (va_up τ2.1 12 0, τ2.2.1, τ2.2.2)) ⟨fun r hr => va_up_ne _ _ (by omega), fun _ _ => rfl, fun _ _ => rfl⟩)
        refine ⟨g1, g2, ⟨k2, k3, k4, ?_⟩, ⟨0, by omega, rfl, rfl, rfl, fun k hk => by omega, Or.inl rfl⟩, g3⟩
        show σ3.1 10 = τ2.1 25
        rw [c10, c25]; exact h.2.2.1.2.2.2
    · -- a tree
      let τ3 : fx_S := (va_up τ2.1 25 (τ2.1 33), τ2.2.1, τ2.2.2)
      have X2 := cxC_fr X r3
      have X3 : cxC (σ.2.1 8) (σ.2.1 10) nr (τ.1 6) rk sd σ3 := X2
      have Y3 : cxR (σ.2.1 8) (σ.2.1 10) nr (τ.1 6) rk sd s τ3 := cxR_fr Y (fun r hr => by
        show va_up (va_up (va_up (va_up τ1.1 22 _) 23 _) 24 _) 25 _ r = _
        rw [va_up_ne _ _ (by omega), va_up_ne _ _ (by omega), va_up_ne _ _ (by omega), va_up_ne _ _ (by omega)]; exact r4.1 r (by omega)) (fun a ha => r4.2.1 a (by omega))
      have L3 : LN (σ.2.1 8) nr τ3 := LN_fr r5 ⟨rfl, rfl⟩
      have V3 : σ3.2.2 11 = σ.2.2 11 := hF3.2.2 11 (by omega)
      have V3' : ∀ j, j < nr → τ3.2.2 6 j = σ.2.2 11 j := fun j hj => by
        show τ2.2.2 6 j = _
        rw [hM3.2.2 6 (by omega)]; exact (hR.2.2.1 j hj).2.2
      obtain ⟨σ4, τ4, dp, d1, d2, d3, d4, d5, d6, d7, d8, d9, d10, ⟨d11, d12, d13⟩, d14⟩ := n_into0 (B := 0) (by omega) X3 Y3 L3 hgr V3 V3' hn0 (show TR _ rk sd σ3.2.1 0 (nr - 1) p z hh ts from k8) k9
      let τ5 : fx_S := (va_up (va_up τ4.1 12 (nI z)) 21 0, τ4.2.1, τ4.2.2)
      have hdp : ∀ i, i < z → dp i < 2 ^ 31 := fun i hi => by
        have := mxN_le (dp := dp) hi
        omega
      have hmx : ∀ i, i ≤ z → mxN dp i < 2 ^ 31 := fun i hi => by
        have := mxN_mono (dp := dp) hi
        omega
      obtain ⟨τ6, e1, e2, e3, e4⟩ := m_deep (N := z) (dp := dp) d4 hdp hmx z 0 (fx_fuel - z - 1) τ5 (by omega) rfl rfl (fun j hj => by
        have := d10 j hj
        rw [Nat.zero_add] at this
        exact this)
      rw [show fx_fuel - z - 1 + z + 1 = fx_fuel by unfold fx_fuel; omega] at e1
      let σ5 : fx_S := (va_up σ4.1 10 (σ4.1 218), σ4.2.1, σ4.2.2)
      refine op_ret (r := nI z) (b := nI z) (σ' := σ5) (τ' := τ6) ?_ ?_ ?_ rfl ?_
      · rw [hc3, e_if k1, e_bnd d1]
        show some (Sum.inl (σ4.1 422), σ5) = _
        rw [d7]
      · rw [hm3, e_el (by decide), e_bnd (e_gI _ _), e_bnd (e_pI _ _ _)]
        refine (e_bnd (show F_Md_grow (nI s) 0 τ3 = some (nI z, τ4) from d2)).trans ?_
        exact e1
      · rw [e3 0 (by omega)]
        show τ4.1 0 = 0
        rw [d14.1 0 (by omega)]
        show τ1.1 0 = 0
        rw [r4.1 0 (by omega)]; rfl
      · have fc : CF σ σ5 := CF_tr hF3 ⟨fun r hr => by
          show va_up σ4.1 10 (σ4.1 218) r = _
          rw [va_up_ne _ _ (by omega)]; exact d11 r (by omega) (by omega) (by omega), fun a ha => d12 a (by omega) (by omega), fun a ha => d13 a (by omega)⟩
        have fm : MF τ τ6 := by
          refine MF_tr hM3 (MF_tr (σ' := τ3) ⟨fun r hr => va_up_ne _ _ (by omega), fun _ _ => rfl, fun _ _ => rfl⟩ (MF_tr (MF_gF d14) (MF_tr (σ' := τ5) ⟨fun r hr => ?_, fun _ _ => rfl, fun _ _ => rfl⟩ ⟨fun r hr => e3 r (by omega), fun a _ => by rw [e4], fun a _ => by rw [e4]⟩)))
          show va_up (va_up τ4.1 12 _) 21 _ r = _
          rw [va_up_ne _ _ (by omega), va_up_ne _ _ (by omega)]
        obtain ⟨g1, g2, g3⟩ := Rel_CF h fc fm
        have rr : ∀ r, r = 22 ∨ r = 23 ∨ r = 24 ∨ r = 25 → τ6.1 r = τ3.1 r := fun r hr => by
          rw [e3 r (by omega)]
          show va_up (va_up τ4.1 12 _) 21 _ r = _
          rw [va_up_ne _ _ (by omega), va_up_ne _ _ (by omega), d14.1 r (by omega)]
        refine ⟨g1, g2, ⟨?_, ?_, ?_, ?_⟩, ⟨z, d4, ?_, ?_, ?_, ?_, ?_⟩, g3⟩
        · rw [rr 22 (by omega)]
          show va_up σ4.1 10 (σ4.1 218) 7 = τ1.1 30
          rw [va_up_ne _ _ (by omega), d11 7 (by omega) (by omega) (by omega), k4]; exact k1
        · rw [rr 23 (by omega)]
          show va_up σ4.1 10 (σ4.1 218) 8 = τ1.1 31
          rw [va_up_ne _ _ (by omega), d11 8 (by omega) (by omega) (by omega), k5]; exact k2
        · rw [rr 24 (by omega)]
          show va_up σ4.1 10 (σ4.1 218) 9 = τ1.1 32
          rw [va_up_ne _ _ (by omega), d11 9 (by omega) (by omega) (by omega), k6]; exact k3
        · rw [rr 25 (by omega)]
          show σ4.1 218 = τ1.1 33
          rw [d11 218 (by omega) (by omega) (by omega)]; exact k7
        · show σ4.1 422 = nI z
          exact d7
        · rw [e3 12 (by omega)]; rfl
        · rw [if_neg (by omega), e2, d9]
          exact d8
        · intro k hk
          have := d6.1 k hk
          rw [Nat.zero_add] at this
          rw [e4]; exact this
        · exact d6.2
/-! SAME -/
theorem lg0 (x y : Int64) : lg_cmp x y = 0 ↔ x = y := by
  unfold lg_cmp
  constructor
  · intro h
    split at h
    · exact absurd h (by decide)
    · split at h
      · assumption
      · exact absurd h (by decide)
  · rintro rfl
    rw [if_neg (fun z => Int64.lt_irrefl z), if_pos rfl]
/-- kinds alike tell the shape -/
theorem pt_sz {K O F G K' O' F' G' : Nat → Int32} {V V' : Nat → Int64} {sz sz' : Nat → Nat} {n : Nat} (h : ∀ k, k < n → ptk K O F G V sz n k) (h' : ∀ k, k < n → ptk K' O' F' G' V' sz' n k) (hk : ∀ k, k < n → K k = K' k) : ∀ m k, m + k = n → k < n → sz k = sz' k := by
  intro m
  induction m using Nat.strongRecOn with
  | _ m ih =>
    intro k hm hkn
    have e := hk k hkn
    rcases (h k hkn).2 with ⟨a1, a2, a3, a4, a5⟩ | ⟨a1, a2, a3, a4, ⟨a5, a6, a7⟩ | ⟨a5, a6, a7, a8⟩⟩
    · rcases (h' k hkn).2 with ⟨b1, b2, b3, b4, b5⟩ | ⟨b1, b2, b3, b4, ⟨b5, b6, b7⟩ | ⟨b5, b6, b7, b8⟩⟩
      · rw [a5, b5]
      · rw [← e, a1] at b5; rcases b5 with b | b | b <;> exact absurd b (by decide)
      · rw [← e, a1] at b5; exact absurd b5 (by decide)
    · have i1 := ih (m - 1) (by omega) (k + 1) (by omega) a4
      rcases (h' k hkn).2 with ⟨b1, b2, b3, b4, b5⟩ | ⟨b1, b2, b3, b4, ⟨b5, b6, b7⟩ | ⟨b5, b6, b7, b8⟩⟩
      · rw [e, b1] at a5; rcases a5 with b | b | b <;> exact absurd b (by decide)
      · rw [a7, b7, i1]
      · rw [e, b5] at a5; rcases a5 with b | b | b <;> exact absurd b (by decide)
    · have i1 := ih (m - 1) (by omega) (k + 1) (by omega) a4
      rcases (h' k hkn).2 with ⟨b1, b2, b3, b4, b5⟩ | ⟨b1, b2, b3, b4, ⟨b5, b6, b7⟩ | ⟨b5, b6, b7, b8⟩⟩
      · rw [e, b1] at a5; exact absurd a5 (by decide)
      · rw [← e, a5] at b5; rcases b5 with b | b | b <;> exact absurd b (by decide)
      · have i2 := ih (m - 1 - sz (k + 1)) (by omega) (k + 1 + sz (k + 1)) (by omega) a7
        rw [a8, b8, ← i1, i2]
theorem pt_fg {K O F G K' O' F' G' : Nat → Int32} {V V' : Nat → Int64} {n : Nat} (hn : 0 < n) (h : ptA K O F G V n) (h' : ptA K' O' F' G' V' n) (hk : ∀ k, k < n → K k = K' k) : ∀ k, k < n → F k = F' k ∧ G k = G' k := by
  rcases h with h | ⟨sz, -, h⟩
  · omega
  rcases h' with h' | ⟨sz', -, h'⟩
  · omega
  intro k hkn
  have e := hk k hkn
  have es := pt_sz h h' hk
  rcases (h k hkn).2 with ⟨a1, a2, a3, a4, a5⟩ | ⟨a1, a2, a3, a4, ⟨a5, a6, a7⟩ | ⟨a5, a6, a7, a8⟩⟩
  · rcases (h' k hkn).2 with ⟨b1, b2, b3, b4, b5⟩ | ⟨b1, b2, b3, b4, ⟨b5, b6, b7⟩ | ⟨b5, b6, b7, b8⟩⟩
    · exact ⟨by rw [a3, b3], by rw [a4, b4]⟩
    · rw [← e, a1] at b5; rcases b5 with b | b | b <;> exact absurd b (by decide)
    · rw [← e, a1] at b5; exact absurd b5 (by decide)
  · rcases (h' k hkn).2 with ⟨b1, b2, b3, b4, b5⟩ | ⟨b1, b2, b3, b4, ⟨b5, b6, b7⟩ | ⟨b5, b6, b7, b8⟩⟩
    · rw [e, b1] at a5; rcases a5 with b | b | b <;> exact absurd b (by decide)
    · exact ⟨by rw [a3, b3], by rw [a6, b6]⟩
    · rw [e, b5] at a5; rcases a5 with b | b | b <;> exact absurd b (by decide)
  · rcases (h' k hkn).2 with ⟨b1, b2, b3, b4, b5⟩ | ⟨b1, b2, b3, b4, ⟨b5, b6, b7⟩ | ⟨b5, b6, b7, b8⟩⟩
    · rw [e, b1] at a5; exact absurd a5 (by decide)
    · rw [← e, a5] at b5; rcases b5 with b | b | b <;> exact absurd b (by decide)
    · exact ⟨by rw [a3, b3], by rw [a6, b6, es (n - (k + 1)) (k + 1) (by omega) a4]⟩
theorem t1_has {σ : fx_S} {n j : Nat} (h : σ.1 534 = nI n) (hn : n ≤ 200) (hj : j < n) : F_Tree1_has (nI j) σ = some (1, σ) := by
  simp (disch := omega) only [F_Tree1_has, fx_bnd, fx_bndx, e_gI, e_pI, e_rz0, e_rz1, e_ret, e_pur, e_thr, e_if, e_el, h, q_lt, q_le, q_eq, q_lt0, q_0lt, q_le0, q_0le, q_eq0, q_lt1, q_1lt, q_le1, q_1le, q_eq1, q_lt2, q_2lt, q_le2, q_2le, q_eq2, q_lt3, q_3lt, q_le3, q_3le, q_eq3, q_lt4, q_4lt, q_le4, q_4le, q_eq4, q_lt6, q_6lt, q_le6, q_6le, q_eq6, q_lt10, q_10lt, q_le10, q_10le, q_eq10, q_lt30, q_30lt, q_le30, q_30le, q_eq30, q_lt40, q_40lt, q_le40, q_40le, q_eq40, q_lt41, q_41lt, q_le41, q_41le, q_eq41, q_lt200, q_200lt, q_le200, q_200le, q_eq200, q_lt400, q_400lt, q_le400, q_400le, q_eq400, q_lt600, q_600lt, q_le600, q_600le, q_eq600, q_lt800, q_800lt, q_le800, q_800le, q_eq800, q_lt900, q_900lt, q_le900, q_900le, q_eq900, q_0eq, q_1eq, q_2eq, q_3eq, q_4eq, q_neg, q_m1, q_m1l, q_s1, nI_1, q_1a, nI_add, q_mul, q_m41, q_41m, q_dn, q_dm10, q_dm11, q_dm12, q_dm13, q_dm14, q_d0m1, q_d01, q_d02, q_d03, q_d04, q_d1m1, q_d10, q_d12, q_d13, q_d14, q_d2m1, q_d20, q_d21, q_d23, q_d24, q_d3m1, q_d30, q_d31, q_d32, q_d34, q_d4m1, q_d40, q_d41, q_d42, q_d43, if_true, if_false, eq_self]
theorem t1_kind {σ : fx_S} {n j : Nat} (h : σ.1 534 = nI n) (hn : n ≤ 200) (hj : j < n) : F_Tree1_kindAt (nI j) σ = some (σ.2.1 34 j, σ) := by
  simp (disch := omega) only [F_Tree1_kindAt, fx_bnd, fx_bndx, e_gI, e_pI, e_rz0, e_rz1, e_ret, e_pur, e_thr, e_if, e_el, t1_has h hn hj, q_lt, q_le, q_eq, q_lt0, q_0lt, q_le0, q_0le, q_eq0, q_lt1, q_1lt, q_le1, q_1le, q_eq1, q_lt2, q_2lt, q_le2, q_2le, q_eq2, q_lt3, q_3lt, q_le3, q_3le, q_eq3, q_lt4, q_4lt, q_le4, q_4le, q_eq4, q_lt6, q_6lt, q_le6, q_6le, q_eq6, q_lt10, q_10lt, q_le10, q_10le, q_eq10, q_lt30, q_30lt, q_le30, q_30le, q_eq30, q_lt40, q_40lt, q_le40, q_40le, q_eq40, q_lt41, q_41lt, q_le41, q_41le, q_eq41, q_lt200, q_200lt, q_le200, q_200le, q_eq200, q_lt400, q_400lt, q_le400, q_400le, q_eq400, q_lt600, q_600lt, q_le600, q_600le, q_eq600, q_lt800, q_800lt, q_le800, q_800le, q_eq800, q_lt900, q_900lt, q_le900, q_900le, q_eq900, q_0eq, q_1eq, q_2eq, q_3eq, q_4eq, q_neg, q_m1, q_m1l, q_s1, nI_1, q_1a, nI_add, q_mul, q_m41, q_41m, q_dn, q_dm10, q_dm11, q_dm12, q_dm13, q_dm14, q_d0m1, q_d01, q_d02, q_d03, q_d04, q_d1m1, q_d10, q_d12, q_d13, q_d14, q_d2m1, q_d20, q_d21, q_d23, q_d24, q_d3m1, q_d30, q_d31, q_d32, q_d34, q_d4m1, q_d40, q_d41, q_d42, q_d43, if_true, if_false, eq_self, e_lA]
theorem t1_opr {σ : fx_S} {n j : Nat} (h : σ.1 534 = nI n) (hn : n ≤ 200) (hj : j < n) : F_Tree1_operatorAt (nI j) σ = some (σ.2.1 35 j, σ) := by
  simp (disch := omega) only [F_Tree1_operatorAt, fx_bnd, fx_bndx, e_gI, e_pI, e_rz0, e_rz1, e_ret, e_pur, e_thr, e_if, e_el, t1_has h hn hj, q_lt, q_le, q_eq, q_lt0, q_0lt, q_le0, q_0le, q_eq0, q_lt1, q_1lt, q_le1, q_1le, q_eq1, q_lt2, q_2lt, q_le2, q_2le, q_eq2, q_lt3, q_3lt, q_le3, q_3le, q_eq3, q_lt4, q_4lt, q_le4, q_4le, q_eq4, q_lt6, q_6lt, q_le6, q_6le, q_eq6, q_lt10, q_10lt, q_le10, q_10le, q_eq10, q_lt30, q_30lt, q_le30, q_30le, q_eq30, q_lt40, q_40lt, q_le40, q_40le, q_eq40, q_lt41, q_41lt, q_le41, q_41le, q_eq41, q_lt200, q_200lt, q_le200, q_200le, q_eq200, q_lt400, q_400lt, q_le400, q_400le, q_eq400, q_lt600, q_600lt, q_le600, q_600le, q_eq600, q_lt800, q_800lt, q_le800, q_800le, q_eq800, q_lt900, q_900lt, q_le900, q_900le, q_eq900, q_0eq, q_1eq, q_2eq, q_3eq, q_4eq, q_neg, q_m1, q_m1l, q_s1, nI_1, q_1a, nI_add, q_mul, q_m41, q_41m, q_dn, q_dm10, q_dm11, q_dm12, q_dm13, q_dm14, q_d0m1, q_d01, q_d02, q_d03, q_d04, q_d1m1, q_d10, q_d12, q_d13, q_d14, q_d2m1, q_d20, q_d21, q_d23, q_d24, q_d3m1, q_d30, q_d31, q_d32, q_d34, q_d4m1, q_d40, q_d41, q_d42, q_d43, if_true, if_false, eq_self, e_lA]
theorem t1_num {σ : fx_S} {n j : Nat} (h : σ.1 534 = nI n) (hn : n ≤ 200) (hj : j < n) : F_Tree1_numberAt (nI j) σ = some (σ.2.2 39 j, σ) := by
  simp (disch := omega) only [F_Tree1_numberAt, fx_bnd, fx_bndx, e_gI, e_pI, e_rz0, e_rz1, e_ret, e_pur, e_thr, e_if, e_el, t1_has h hn hj, q_lt, q_le, q_eq, q_lt0, q_0lt, q_le0, q_0le, q_eq0, q_lt1, q_1lt, q_le1, q_1le, q_eq1, q_lt2, q_2lt, q_le2, q_2le, q_eq2, q_lt3, q_3lt, q_le3, q_3le, q_eq3, q_lt4, q_4lt, q_le4, q_4le, q_eq4, q_lt6, q_6lt, q_le6, q_6le, q_eq6, q_lt10, q_10lt, q_le10, q_10le, q_eq10, q_lt30, q_30lt, q_le30, q_30le, q_eq30, q_lt40, q_40lt, q_le40, q_40le, q_eq40, q_lt41, q_41lt, q_le41, q_41le, q_eq41, q_lt200, q_200lt, q_le200, q_200le, q_eq200, q_lt400, q_400lt, q_le400, q_400le, q_eq400, q_lt600, q_600lt, q_le600, q_600le, q_eq600, q_lt800, q_800lt, q_le800, q_800le, q_eq800, q_lt900, q_900lt, q_le900, q_900le, q_eq900, q_0eq, q_1eq, q_2eq, q_3eq, q_4eq, q_neg, q_m1, q_m1l, q_s1, nI_1, q_1a, nI_add, q_mul, q_m41, q_41m, q_dn, q_dm10, q_dm11, q_dm12, q_dm13, q_dm14, q_d0m1, q_d01, q_d02, q_d03, q_d04, q_d1m1, q_d10, q_d12, q_d13, q_d14, q_d2m1, q_d20, q_d21, q_d23, q_d24, q_d3m1, q_d30, q_d31, q_d32, q_d34, q_d4m1, q_d40, q_d41, q_d42, q_d43, if_true, if_false, eq_self, e_lL]
/-- the class's comparison -/
theorem k_like {σ : fx_S} {N : Nat} (h1 : σ.1 534 = nI N) (h0 : σ.1 422 = nI N) (hN : N ≤ 200) : ∀ (m i f : Nat), m + i = N → ∃ r, fx_loop1 F_Tree1_isLike_Tree0_B15 (f + m + 1) (nI i) σ = some (r, σ) ∧ (r = 0 ∨ r = 1) ∧ (r = 1 ↔ ∀ k, i ≤ k → k < N → σ.2.1 34 k = σ.2.1 27 k ∧ σ.2.1 35 k = σ.2.1 28 k ∧ σ.2.2 39 k = σ.2.2 32 k)
  | 0, i, f, h => by
    refine ⟨1, ?_, Or.inr rfl, fun _ k q1 q2 => by omega, fun _ => rfl⟩
    rw [e_loop1, F_Tree1_isLike_Tree0_B15, e_bnd (e_gI _ _), h1, e_if (by rw [q_le (by omega) (by omega)]; omega)]; rfl
  | m + 1, i, f, h => by
    obtain ⟨r, a1, a2, a3⟩ := k_like h1 h0 hN m (i + 1) f (by omega)
    have hi : i < N := by omega
    rw [show f + (m + 1) + 1 = (f + m + 1) + 1 by omega, e_loop1, F_Tree1_isLike_Tree0_B15, e_bnd (e_gI _ _), h1, e_el (by rw [q_le (by omega) (by omega)]; omega), e_bnd (t1_kind h1 hN hi), e_bnd (t_kind h0 hN hi)]
    have no : ¬ (σ.2.1 34 i = σ.2.1 27 i ∧ σ.2.1 35 i = σ.2.1 28 i ∧ σ.2.2 39 i = σ.2.2 32 i) → ((0 : Int32) = 1 ↔ ∀ k, i ≤ k → k < N → σ.2.1 34 k = σ.2.1 27 k ∧ σ.2.1 35 k = σ.2.1 28 k ∧ σ.2.2 39 k = σ.2.2 32 k) := fun q => ⟨fun z => absurd z (by decide), fun z => absurd (z i (Nat.le_refl _) hi) q⟩
    by_cases q1 : σ.2.1 34 i = σ.2.1 27 i
    · rw [e_if q1, e_bnd (t1_opr h1 hN hi), e_bnd (t_opr h0 hN hi)]
      by_cases q2 : σ.2.1 35 i = σ.2.1 28 i
      · rw [e_if q2, e_bnd (t1_num h1 hN hi), e_bnd (t_num h0 hN hi)]
        by_cases q3 : σ.2.2 39 i = σ.2.2 32 i
        · rw [e_if ((lg0 _ _).mpr q3), e_bnd (e_pur _ _), nI_1]
          refine ⟨r, a1, a2, a3.trans ⟨fun z k k1 k2 => ?_, fun z k k1 k2 => z k (by omega) k2⟩⟩
          by_cases e : k = i
          · subst e; exact ⟨q1, q2, q3⟩
          · exact z k (by omega) k2
        · rw [e_el (fun z => q3 ((lg0 _ _).mp z))]
          exact ⟨0, rfl, Or.inl rfl, no (fun z => q3 z.2.2)⟩
      · rw [e_el q2]
        exact ⟨0, rfl, Or.inl rfl, no (fun z => q2 z.2.1)⟩
    · rw [e_el q1]
      exact ⟨0, rfl, Or.inl rfl, no (fun z => q1 z.1)⟩
def alR (τ : fx_S) (k : Nat) : Prop := τ.2.1 8 k = τ.2.1 8 (200 + k) ∧ τ.2.1 9 k = τ.2.1 9 (200 + k) ∧ τ.2.1 10 k = τ.2.1 10 (200 + k) ∧ τ.2.1 11 k = τ.2.1 11 (200 + k) ∧ (τ.2.1 8 k = 0 → τ.2.2 14 k = τ.2.2 14 (200 + k))
theorem m_like0 {τ : fx_S} {N i f : Nat} (h0 : τ.1 12 = nI N) : fx_loop2 F_Md_same_B77 (f + 1) 0 (nI i) τ = some (0, τ) := by
  rw [e_loop2, F_Md_same_B77, e_bnd (e_gI _ _)]
  by_cases q : τ.1 12 ≤ nI i
  · rw [e_if q]; rfl
  · rw [e_el q, e_if rfl]; rfl
theorem m_like {τ : fx_S} {N : Nat} (h0 : τ.1 12 = nI N) (hN : N ≤ 200) : ∀ (m i f : Nat), m + i = N → ∃ r, fx_loop2 F_Md_same_B77 (f + m + 1) 1 (nI i) τ = some (r, τ) ∧ (r = 0 ∨ r = 1) ∧ (r = 1 ↔ ∀ k, i ≤ k → k < N → alR τ k)
  | 0, i, f, h => by
    refine ⟨1, ?_, Or.inr rfl, fun _ k q1 q2 => by omega, fun _ => rfl⟩
    rw [e_loop2, F_Md_same_B77, e_bnd (e_gI _ _), h0, e_if (by rw [q_le (by omega) (by omega)]; omega)]; rfl
  | m + 1, i, f, h => by
    obtain ⟨r, a1, a2, a3⟩ := m_like h0 hN m (i + 1) f (by omega)
    have hi : i < N := by omega
    have e2 : (200 : Int32) + nI i = nI (200 + i) := nI_add 200 i
    rw [show f + (m + 1) + 1 = (f + m + 1) + 1 by omega, e_loop2, F_Md_same_B77, e_bnd (e_gI _ _), h0, e_el (by rw [q_le (by omega) (by omega)]; omega), e_el (by decide), e2, e_bnd (e_pur _ _), e_bnd (e_lA (by omega) (by omega)), e_bnd (e_lA (by omega) (by omega))]
    have bad : F_Md_same_J208 (fx_loop2 F_Md_same_B77 (f + m + 1)) (nI i) τ = some (0, τ) := by
      rw [F_Md_same_J208, F_Md_same_J209, e_bnd (e_pur _ _), nI_1]
      exact m_like0 (N := N) h0
    have bad1 : F_Md_same_J170 (fx_loop2 F_Md_same_B77 (f + m + 1)) (nI i) (nI (200 + i)) τ = some (0, τ) := by
      rw [F_Md_same_J170, F_Md_same_J171, e_if rfl]; exact bad
    have no : ¬ alR τ i → ((0 : Int32) = 1 ↔ ∀ k, i ≤ k → k < N → alR τ k) := fun q => ⟨fun z => absurd z (by decide), fun z => absurd (z i (Nat.le_refl _) hi) q⟩
    have good : alR τ i → F_Md_same_J204 (fx_loop2 F_Md_same_B77 (f + m + 1)) (nI i) τ = some (r, τ) ∧ (r = 0 ∨ r = 1) ∧ (r = 1 ↔ ∀ k, i ≤ k → k < N → alR τ k) := by
      intro q
      refine ⟨?_, a2, a3.trans ⟨fun z k k1 k2 => ?_, fun z k k1 k2 => z k (by omega) k2⟩⟩
      · rw [F_Md_same_J204, F_Md_same_J209, e_bnd (e_pur _ _), nI_1]; exact a1
      · by_cases e : k = i
        · subst e; exact q
        · exact z k (by omega) k2
    by_cases q1 : τ.2.1 8 i = τ.2.1 8 (200 + i)
    · rw [e_if q1, e_bnd (e_lA (by omega) (by omega)), e_bnd (e_lA (by omega) (by omega))]
      by_cases q2 : τ.2.1 9 i = τ.2.1 9 (200 + i)
      · rw [e_if q2, e_bnd (e_lA (by omega) (by omega)), e_bnd (e_lA (by omega) (by omega))]
        by_cases q3 : τ.2.1 10 i = τ.2.1 10 (200 + i)
        · rw [e_if q3, e_bnd (e_lA (by omega) (by omega)), e_bnd (e_lA (by omega) (by omega))]
          by_cases q4 : τ.2.1 11 i = τ.2.1 11 (200 + i)
          · rw [e_if q4, F_Md_same_J171, e_el (by decide), e_bnd (e_lA (by omega) (by omega))]
            by_cases q5 : τ.2.1 8 i = 0
            · rw [e_if q5, e_bnd (e_lL (by omega) (by omega)), e_bnd (e_lL (by omega) (by omega))]
              by_cases q6 : τ.2.2 14 i = τ.2.2 14 (200 + i)
              · rw [e_if ((lg0 _ _).mpr q6)]
                exact ⟨r, good ⟨q1, q2, q3, q4, fun _ => q6⟩⟩
              · rw [e_el (fun z => q6 ((lg0 _ _).mp z))]
                exact ⟨0, bad, Or.inl rfl, no (fun z => q6 (z.2.2.2.2 q5))⟩
            · rw [e_el q5]
              exact ⟨r, good ⟨q1, q2, q3, q4, fun z => absurd z q5⟩⟩
          · rw [e_el q4]
            exact ⟨0, bad1, Or.inl rfl, no (fun z => q4 z.2.2.2.1)⟩
        · rw [e_el q3]
          exact ⟨0, bad1, Or.inl rfl, no (fun z => q3 z.2.2.1)⟩
      · rw [e_el q2]
        exact ⟨0, bad1, Or.inl rfl, no (fun z => q2 z.2.1)⟩
    · rw [e_el q1]
      exact ⟨0, bad1, Or.inl rfl, no (fun z => q1 z.1)⟩
theorem o_same {σ τ : fx_S} (h : Rel σ τ) (a : Int32) : lw_op Rel [(0, 1), (1, 2)] (F_FixityTrees_same a) (F_Md_same a) (fun r b => (r = 0 ↔ b = 0)) σ τ := by
  obtain ⟨N0, t1, t2, t3, t4, t5, t6⟩ := id h.2.2.2.1
  rcases w_why h a with ⟨c1, m1⟩ | ⟨c1, ⟨c2, m1⟩ | ⟨c2, m1, n, s, nr, rfl, hs, HS, hC, hR, hp, hdu, hst⟩⟩
  · refine op_thr0 h (b := 0) 0 1 (by simp) ?_ ?_
    · rw [F_FixityTrees_same, e_bndt c1]
    · rw [F_Md_same, e_bnd m1, e_el (by decide), F_Md_same_J27, e_bnd (m_good (by decide) τ), e_if rfl]; rfl
  · refine op_thr0 h (b := 0) 1 2 (by simp) ?_ ?_
    · rw [F_FixityTrees_same, e_bndx c1, e_bndt c2]
    · rw [F_Md_same, e_bnd m1, e_el (by decide), F_Md_same_J27, e_bnd (m_good (by decide) τ), e_if rfl]; rfl
  · have esz : F_Tree0_size σ = some (nI N0, σ) := by rw [F_Tree0_size, e_bnd (e_gI _ _), t2]; rfl
    by_cases hN0 : N0 = 0
    · subst hN0
      refine op_thr0 h (b := 0) 1 2 (by simp) ?_ ?_
      · have e9 : F_FixityTrees_requireTree σ = some (.inr 1, σ) := by
          rw [F_FixityTrees_requireTree, e_bnd esz, e_if (by decide)]; rfl
        rw [F_FixityTrees_same, e_bndx c1, e_bndx c2, e_bndt e9]
      · rw [F_Md_same, e_bnd m1, e_if (by decide), e_bnd (e_gI _ _), t3, e_if (by decide), F_Md_same_J27, e_bnd (m_good (by decide) τ), e_if rfl]; rfl
    · have e9 : F_FixityTrees_requireTree σ = some (.inl (), σ) := by
        rw [F_FixityTrees_requireTree, e_bnd esz, e_el (nI_ne0 (by omega) (by omega))]; rfl
      obtain ⟨rk, sd, A, B, l1, X, Y⟩ := r_ready hs HS hC hR hp
      obtain ⟨h2, hz, hzo, hdep, hgr, hnk, hrs⟩ := id hC
      let τ0 : fx_S := (va_up τ.1 0 0, τ.2.1, τ.2.2)
      let σ1 : fx_S := (σ.1, va_up (va_up σ.2.1 5 A) 6 B, σ.2.2)
      have b1 : ∀ a, a ≠ 5 → a ≠ 6 → σ1.2.1 a = σ.2.1 a := fun a h5 h6 => by
        show va_up (va_up σ.2.1 5 A) 6 B a = _
        rw [va_up_ne _ _ h6, va_up_ne _ _ h5]
      have hF1 : CF σ σ1 := ⟨fun _ _ => rfl, fun a ha => b1 a (by omega) (by omega), fun _ _ => rfl⟩
      have hM1 : MF τ τ0 := ⟨fun r hr => va_up_ne _ _ (by omega), fun _ _ => rfl, fun _ _ => rfl⟩
      obtain ⟨σ2, τ1, b, r1, r2, r3, r4, r5, r6⟩ := r_runs hgr hdep hdu hst X Y
      have hn0 : 0 < nr := by
        by_cases e : nr = 0
        · exact absurd (Or.inl e) hdu
        · omega
      have hc3 : F_FixityTrees_same (nI s) σ = (if σ2.1 219 = (-1) then (fx_bnd (F_Resolver_numberInto_Tree1) fun _ => fx_bnd (F_Tree1_isLike_Tree0) fun x2 => fx_retzx x2) else fx_retzx 0) σ2 := by
        rw [F_FixityTrees_same, e_bndx c1, e_bndx c2, e_bndx e9, e_bnd l1, e_bnd r1]
        rfl
      have hm3 : F_Md_same (nI s) τ = (if b = 0 then fx_retz 0 else (fx_bnd (F_Md_grow (nI s) 200) fun x5 => fx_bnd (p_Md_otherSize x5) fun _ => fx_bnd g_Md_otherSize fun x6 => fx_bnd g_Md_treeSize fun x7 => if x6 = x7 then F_Md_same_J73 1 else F_Md_same_J73 0)) τ1 := by
        rw [F_Md_same, e_bnd m1, e_if (by decide), e_bnd (e_gI _ _), t3, e_el (nI_ne0 (by omega) (by omega)), F_Md_same_J27, e_bnd (m_good0 τ), e_el (by decide), e_bnd r2]
      -- what is kept
      have keep : ∀ σ' τ' : fx_S, CF σ σ' → MF τ τ' → (∀ r, r = 7 ∨ r = 8 ∨ r = 9 ∨ r = 10 ∨ r = 422 ∨ r = 423 → σ'.1 r = σ.1 r) → (∀ r, r = 12 ∨ r = 21 ∨ r = 22 ∨ r = 23 ∨ r = 24 ∨ r = 25 → τ'.1 r = τ.1 r) → (∀ a, 27 ≤ a → a ≤ 31 → σ'.2.1 a = σ.2.1 a) → σ'.2.2 32 = σ.2.2 32 → (∀ a i, i < 200 → 8 ≤ a → a ≤ 12 → τ'.2.1 a i = τ.2.1 a i) → (∀ i, i < 200 → τ'.2.2 14 i = τ.2.2 14 i) → Rel σ' τ' := by
        intro σ' τ' f1 f2 f3 f4 f5 f6 f7 f8
        obtain ⟨g1, g2, g3⟩ := Rel_CF h f1 f2
        refine ⟨g1, g2, ?_, ⟨N0, t1, ?_, ?_, ?_, ?_, ?_⟩, g3⟩
        · unfold RC
          rw [f3 7 (by omega), f3 8 (by omega), f3 9 (by omega), f3 10 (by omega), f4 22 (by omega), f4 23 (by omega), f4 24 (by omega), f4 25 (by omega)]
          exact h.2.2.1
        · rw [f3 422 (by omega)]; exact t2
        · rw [f4 12 (by omega)]; exact t3
        · rw [f3 423 (by omega), f4 21 (by omega)]; exact t4
        · intro k hk
          rw [f7 8 k (by omega) (by omega) (by omega), f7 9 k (by omega) (by omega) (by omega), f7 10 k (by omega) (by omega) (by omega), f7 11 k (by omega) (by omega) (by omega), f7 12 k (by omega) (by omega) (by omega), f8 k (by omega), f5 27 (by omega) (by omega), f5 28 (by omega) (by omega), f5 29 (by omega) (by omega), f5 30 (by omega) (by omega), f5 31 (by omega) (by omega), f6]
          exact t5 k hk
        · rw [f5 27 (by omega) (by omega), f5 28 (by omega) (by omega), f5 29 (by omega) (by omega), f5 30 (by omega) (by omega), f6]; exact t6
      have hF2 : CF σ σ2 := CF_tr hF1 (CF_frC r3)
      have hM2 : MF τ τ1 := MF_tr hM1 (MF_frL r4)
      have y0 : τ1.1 0 = 0 := by rw [r4.1 0 (by omega)]; rfl
      have y1 : ∀ r, r = 12 ∨ r = 21 ∨ r = 22 ∨ r = 23 ∨ r = 24 ∨ r = 25 → τ1.1 r = τ.1 r := fun r hr => by
        rw [r4.1 r (by omega)]; exact va_up_ne _ _ (by omega)
      have y2 : ∀ a, a < 15 → τ1.2.1 a = τ.2.1 a := fun a ha => r4.2.1 a (by omega)
      have y3 : τ1.2.2 = τ.2.2 := r4.2.2
      have x1 : ∀ r, r = 7 ∨ r = 8 ∨ r = 9 ∨ r = 10 ∨ r = 422 ∨ r = 423 → σ2.1 r = σ.1 r := fun r hr => r3.1 r (by omega)
      have x2 : ∀ a, 25 < a → σ2.2.1 a = σ.2.1 a := fun a ha => (r3.2.1 a (by omega)).trans (b1 a (by omega) (by omega))
      have x3 : σ2.2.2 = σ.2.2 := r3.2.2
      rcases r6 with ⟨rfl, k1, k2, k3, k4⟩ | ⟨rfl, k1, k2, k3, k4, k5, k6, k7, p, z, hh, ts, k8, k9⟩
      · refine op_ret (r := 0) (b := 0) (σ' := σ2) (τ' := τ1) ?_ ?_ y0 Iff.rfl (keep σ2 τ1 hF2 hM2 x1 y1 (fun a g1 g2 => x2 a (by omega)) (by rw [x3]) (fun a i _ _ g => by rw [y2 a (by omega)]) (fun i _ => by rw [y3]))
        · rw [hc3, e_el k1]; rfl
        · rw [hm3, e_if rfl]; rfl
      · have X3 : cxC (σ.2.1 8) (σ.2.1 10) nr (τ.1 6) rk sd σ2 := cxC_fr X r3
        have Y3 : cxR (σ.2.1 8) (σ.2.1 10) nr (τ.1 6) rk sd s τ1 := cxR_fr Y (fun r hr => r4.1 r (by omega)) (fun a ha => r4.2.1 a (by omega))
        have V3 : σ2.2.2 11 = σ.2.2 11 := by rw [x3]
        have V3' : ∀ j, j < nr → τ1.2.2 6 j = σ.2.2 11 j := fun j hj => by
          rw [y3]; exact (hR.2.2.1 j hj).2.2
        obtain ⟨σ4, τ4, dp, d1, d2, d3, d4, d5, d6, d7, d8, d9, d10, ⟨d11, d12, d13⟩, d14⟩ := n_into1 (B := 200) (by omega) X3 Y3 r5 hgr V3 V3' hn0 k8 k9
        let τ5 : fx_S := (va_up τ4.1 13 (nI z), τ4.2.1, τ4.2.2)
        have hK : Rel σ4 τ5 := by
          refine keep σ4 τ5 (CF_tr hF2 ⟨fun r hr => d11 r (by omega) (by omega) (by omega), fun a ha => d12 a (by omega) (by omega), fun a ha => d13 a (by omega)⟩) (MF_tr hM2 (MF_tr (MF_gF d14) (σ'' := τ5) ⟨fun r hr => va_up_ne _ _ (by omega), fun _ _ => rfl, fun _ _ => rfl⟩)) (fun r hr => (d11 r (by omega) (by omega) (by omega)).trans (x1 r hr)) (fun r hr => ?_) (fun a g1 g2 => (d12 a (by omega) (by omega)).trans (x2 a (by omega))) ?_ (fun a i g1 g2 g3 => ?_) (fun i g1 => ?_)
          · show va_up τ4.1 13 _ r = _
            rw [va_up_ne _ _ (by omega), d14.1 r (by omega)]; exact y1 r hr
          · rw [d13 32 (by omega), x3]
          · show τ4.2.1 a i = _
            rw [d14.2.2.1 a i g1 g2 (by omega), y2 a (by omega)]
          · show τ4.2.2 14 i = _
            rw [d14.2.2.2.2 i g1, y3]
        have z0 : τ5.1 0 = 0 := by
          show τ4.1 0 = 0
          rw [d14.1 0 (by omega)]; exact y0
        have c4 : F_FixityTrees_same (nI s) σ = (fx_bnd (F_Tree1_isLike_Tree0) fun x2 => fx_retzx x2) σ4 := by
          rw [hc3, e_if k1, e_bnd d1]
        have p12 : τ5.1 12 = nI N0 := by
          show τ4.1 12 = _
          rw [d14.1 12 (by omega), y1 12 (by omega)]; exact t3
        have m4 : F_Md_same (nI s) τ = (if nI z = nI N0 then F_Md_same_J73 1 else F_Md_same_J73 0) τ5 := by
          rw [hm3, e_el (by decide), e_bnd (show F_Md_grow (nI s) 200 τ1 = some (nI z, τ4) from d2), e_bnd (e_pI _ _ _), e_bnd (e_gI _ _)]
          refine (?_ : fx_bnd g_Md_treeSize _ τ5 = _)
          rw [e_bnd (e_gI _ _), p12]
          rfl
        have p422 : σ4.1 422 = nI N0 := by rw [d11 422 (by omega) (by omega) (by omega), x1 422 (by omega)]; exact t2
        have es1 : F_Tree0_size σ4 = some (nI N0, σ4) := by rw [F_Tree0_size, e_bnd (e_gI _ _), p422]; rfl
        by_cases hzN : z = N0
        · subst hzN
          obtain ⟨r, u1, u2, u3⟩ := k_like d7 p422 t1 z 0 (fx_fuel - z - 1) (by omega)
          obtain ⟨r', v1, v2, v3⟩ := m_like p12 t1 z 0 (fx_fuel - z - 1) (by omega)
          rw [show fx_fuel - z - 1 + z + 1 = fx_fuel by unfold fx_fuel; omega] at u1 v1
          have e8 : F_Tree1_isLike_Tree0 σ4 = some (r, σ4) := by
            rw [F_Tree1_isLike_Tree0, e_bnd (e_gI _ _), d7, e_bnd es1, e_if rfl]; exact u1
          refine op_ret (r := r) (b := r') (σ' := σ4) (τ' := τ5) ?_ ?_ z0 ?_ hK
          · rw [c4, e_bnd e8]
            unfold fx_retzx
            rw [if_pos u2]
          · rw [m4, e_if rfl]; exact v1
          · -- alike on both sides
            have key : (∀ k, 0 ≤ k → k < z → σ4.2.1 34 k = σ4.2.1 27 k ∧ σ4.2.1 35 k = σ4.2.1 28 k ∧ σ4.2.2 39 k = σ4.2.2 32 k) ↔ (∀ k, 0 ≤ k → k < z → alR τ5 k) := by
              have c27 : ∀ a, 27 ≤ a → a ≤ 31 → σ4.2.1 a = σ.2.1 a := fun a g1 g2 => (d12 a (by omega) (by omega)).trans (x2 a (by omega))
              have c32 : σ4.2.2 32 = σ.2.2 32 := by rw [d13 32 (by omega), x3]
              have lo : ∀ k, k < z → τ5.2.1 8 k = σ4.2.1 27 k ∧ τ5.2.1 9 k = σ4.2.1 28 k ∧ τ5.2.1 10 k = σ4.2.1 29 k ∧ τ5.2.1 11 k = σ4.2.1 30 k ∧ τ5.2.2 14 k = σ4.2.2 32 k := by
                intro k hk
                obtain ⟨w1, w2, w3, w4, w5, w6⟩ := t5 k hk
                have g : ∀ a, 8 ≤ a → a ≤ 12 → τ4.2.1 a k = τ.2.1 a k := fun a g1 g2 => by rw [d14.2.2.1 a k (by omega) g1 (by omega), y2 a (by omega)]
                refine ⟨?_, ?_, ?_, ?_, ?_⟩
                · show τ4.2.1 8 k = _
                  rw [g 8 (by omega) (by omega), c27 27 (by omega) (by omega)]; exact w1
                · show τ4.2.1 9 k = _
                  rw [g 9 (by omega) (by omega), c27 28 (by omega) (by omega)]; exact w2
                · show τ4.2.1 10 k = _
                  rw [g 10 (by omega) (by omega), c27 29 (by omega) (by omega)]; exact w3
                · show τ4.2.1 11 k = _
                  rw [g 11 (by omega) (by omega), c27 30 (by omega) (by omega)]; exact w4
                · show τ4.2.2 14 k = _
                  rw [d14.2.2.2.2 k (by omega), y3, c32]; exact w6
              have hi : ∀ k, k < z → τ5.2.1 8 (200 + k) = σ4.2.1 34 k ∧ τ5.2.1 9 (200 + k) = σ4.2.1 35 k ∧ τ5.2.1 10 (200 + k) = σ4.2.1 36 k ∧ τ5.2.1 11 (200 + k) = σ4.2.1 37 k ∧ τ5.2.2 14 (200 + k) = σ4.2.2 39 k := fun k hk => by
                obtain ⟨w1, w2, w3, w4, w5, w6⟩ := d6.1 k hk
                exact ⟨w1, w2, w3, w4, w6⟩
              have P0 : ptA (σ4.2.1 27) (σ4.2.1 28) (σ4.2.1 29) (σ4.2.1 30) (σ4.2.2 32) z := by
                rw [c27 27 (by omega) (by omega), c27 28 (by omega) (by omega), c27 29 (by omega) (by omega), c27 30 (by omega) (by omega), c32]; exact t6
              have P1 : ptA (σ4.2.1 34) (σ4.2.1 35) (σ4.2.1 36) (σ4.2.1 37) (σ4.2.2 39) z := d6.2
              constructor
              · intro q k _ hk
                obtain ⟨q1, q2, q3⟩ := q k (by omega) hk
                obtain ⟨w1, w2, w3, w4, w5⟩ := lo k hk
                obtain ⟨w6, w7, w8, w9, w10⟩ := hi k hk
                obtain ⟨f1, f2⟩ := pt_fg (by omega) P0 P1 (fun k hk => (q k (by omega) hk).1.symm) k hk
                exact ⟨by rw [w1, w6, q1], by rw [w2, w7, q2], by rw [w3, w8, f1], by rw [w4, w9, f2], fun _ => by rw [w5, w10, q3]⟩
              · intro q k _ hk
                obtain ⟨q1, q2, q3, q4, q5⟩ := q k (by omega) hk
                obtain ⟨w1, w2, w3, w4, w5⟩ := lo k hk
                obtain ⟨w6, w7, w8, w9, w10⟩ := hi k hk
                rw [w1, w6] at q1
                rw [w2, w7] at q2
                refine ⟨q1.symm, q2.symm, ?_⟩
                rcases P0 with P0 | ⟨sz, -, P0⟩
                · omega
                rcases P1 with P1 | ⟨sz', -, P1⟩
                · omega
                rcases (P0 k hk).2 with ⟨a1, -⟩ | ⟨-, a2, -, -, a5⟩
                · have := q5 (by rw [w1]; exact a1)
                  rw [w5, w10] at this; exact this.symm
                · rcases (P1 k hk).2 with ⟨b1, -⟩ | ⟨-, b2, -⟩
                  · rw [← q1] at b1
                    rcases a5 with ⟨a5, -⟩ | ⟨a5, -⟩
                    · rcases a5 with a | a | a <;> rw [a] at b1 <;> exact absurd b1 (by decide)
                    · rw [a5] at b1; exact absurd b1 (by decide)
                  · rw [a2, b2]
            have k1' : r = 1 ↔ r' = 1 := u3.trans (key.trans v3.symm)
            rcases u2 with rfl | rfl <;> rcases v2 with rfl | rfl
            · exact Iff.rfl
            · exact absurd (k1'.mpr rfl) (by decide)
            · exact absurd (k1'.mp rfl) (by decide)
            · exact Iff.rfl
        · have hne : ¬ nI z = nI N0 := fun q => hzN ((q_eq (by omega) (by omega)).mp q)
          refine op_ret (r := 0) (b := 0) (σ' := σ4) (τ' := τ5) ?_ ?_ z0 Iff.rfl hK
          · have e8 : F_Tree1_isLike_Tree0 σ4 = some (0, σ4) := by
              rw [F_Tree1_isLike_Tree0, e_bnd (e_gI _ _), d7, e_bnd es1, e_el hne]; rfl
            rw [c4, e_bnd e8]; rfl
          · rw [m4, e_el hne, F_Md_same_J73, show fx_fuel = (fx_fuel - 1) + 1 by unfold fx_fuel; omega]
            exact m_like0 (N := N0) (i := 0) p12
/-! LAYOUT OF A TREE THAT IS WRITTEN -/
/-- c is the first (h = 0) or the second (h = 1) child of k -/
def chA (K : Nat → Int32) (sz : Nat → Nat) (k h c : Nat) : Prop := (h = 0 ∧ c = k + 1 ∧ (K k = 1 ∨ K k = 2 ∨ K k = 3 ∨ K k = 4)) ∨ (h = 1 ∧ c = k + 1 + sz (k + 1) ∧ K k = 1)
section LAYOUT
variable {K O F G : Nat → Int32} {V : Nat → Int64} {sz : Nat → Nat} {n : Nat}
theorem pt_cases (h : ∀ k, k < n → ptk K O F G V sz n k) {k : Nat} (hk : k < n) : (K k = 0 ∧ sz k = 1) ∨ ((K k = 2 ∨ K k = 3 ∨ K k = 4) ∧ k + 1 < n ∧ sz k = 1 + sz (k + 1)) ∨ (K k = 1 ∧ k + 1 < n ∧ k + 1 + sz (k + 1) < n ∧ sz k = 1 + sz (k + 1) + sz (k + 1 + sz (k + 1))) := by
  rcases (h k hk).2 with ⟨a1, a2, a3, a4, a5⟩ | ⟨a1, a2, a3, a4, ⟨a5, a6, a7⟩ | ⟨a5, a6, a7, a8⟩⟩
  · exact Or.inl ⟨a1, a5⟩
  · exact Or.inr (Or.inl ⟨a5, a4, a7⟩)
  · exact Or.inr (Or.inr ⟨a5, a4, a7, a8⟩)
theorem pt_pos (h : ∀ k, k < n → ptk K O F G V sz n k) {k : Nat} (hk : k < n) : 1 ≤ sz k := by
  rcases pt_cases h hk with h | h | h <;> omega
theorem pt_nest (h : ∀ k, k < n → ptk K O F G V sz n k) : ∀ (m k j : Nat), sz k ≤ m → k < n → k ≤ j → j < k + sz k → j + sz j ≤ k + sz k := by
  intro m
  induction m with
  | zero => intro k j h1 h2; have := pt_pos h h2; omega
  | succ m ih =>
    intro k j h1 h2 h3 h4
    by_cases e : j = k
    · subst e; exact Nat.le_refl _
    · rcases pt_cases h h2 with ⟨a1, a2⟩ | ⟨a1, a2, a3⟩ | ⟨a1, a2, a3, a4⟩
      · omega
      · have := ih (k + 1) j (by omega) a2 (by omega) (by omega); omega
      · by_cases q : j < k + 1 + sz (k + 1)
        · have := ih (k + 1) j (by omega) a2 (by omega) q; omega
        · have := ih (k + 1 + sz (k + 1)) j (by omega) a3 (by omega) (by omega); omega
/-- a node's parent -/
theorem pt_par (h : ∀ k, k < n → ptk K O F G V sz n k) : ∀ (m k j : Nat), sz k ≤ m → k < n → k < j → j < k + sz k → ∃ i g, k ≤ i ∧ i < j ∧ chA K sz i g j := by
  intro m
  induction m with
  | zero => intro k j h1 h2; have := pt_pos h h2; omega
  | succ m ih =>
    intro k j h1 h2 h3 h4
    rcases pt_cases h h2 with ⟨a1, a2⟩ | ⟨a1, a2, a3⟩ | ⟨a1, a2, a3, a4⟩
    · omega
    · by_cases e : j = k + 1
      · exact ⟨k, 0, Nat.le_refl _, h3, Or.inl ⟨rfl, e, Or.inr a1⟩⟩
      · obtain ⟨i, g, i1, i2, i3⟩ := ih (k + 1) j (by omega) a2 (by omega) (by omega)
        exact ⟨i, g, by omega, i2, i3⟩
    · by_cases e : j = k + 1
      · exact ⟨k, 0, Nat.le_refl _, h3, Or.inl ⟨rfl, e, Or.inl a1⟩⟩
      · by_cases q : j < k + 1 + sz (k + 1)
        · obtain ⟨i, g, i1, i2, i3⟩ := ih (k + 1) j (by omega) a2 (by omega) q
          exact ⟨i, g, by omega, i2, i3⟩
        · by_cases e2 : j = k + 1 + sz (k + 1)
          · exact ⟨k, 1, Nat.le_refl _, h3, Or.inr ⟨rfl, e2, a1⟩⟩
          · obtain ⟨i, g, i1, i2, i3⟩ := ih (k + 1 + sz (k + 1)) j (by omega) a3 (by omega) (by omega)
            exact ⟨i, g, by omega, i2, i3⟩
theorem ch_lt (h : ∀ k, k < n → ptk K O F G V sz n k) {k g c : Nat} (hk : k < n) (hc : chA K sz k g c) : k < c ∧ c < k + sz k ∧ c < n := by
  rcases pt_cases h hk with ⟨a1, a2⟩ | ⟨a1, a2, a3⟩ | ⟨a1, a2, a3, a4⟩
  · rcases hc with ⟨-, -, h | h | h | h⟩ | ⟨-, -, h⟩ <;> rw [a1] at h <;> exact absurd h (by decide)
  · rcases hc with ⟨-, rfl, -⟩ | ⟨-, -, h⟩
    · have := pt_pos h a2; omega
    · rcases a1 with a | a | a <;> rw [a] at h <;> exact absurd h (by decide)
  · have p1 := pt_pos h a2
    have p2 := pt_pos h a3
    rcases hc with ⟨-, rfl, -⟩ | ⟨-, rfl, -⟩ <;> omega
theorem ch_uniq (h : ∀ k, k < n → ptk K O F G V sz n k) {k k' g g' c : Nat} (hk : k < n) (hk' : k' < n) (hc : chA K sz k g c) (hc' : chA K sz k' g' c) : k = k' ∧ g = g' := by
  have l := ch_lt h hk hc
  have l' := ch_lt h hk' hc'
  have key : ∀ {a b ga gb : Nat}, a < b → a < n → b < n → chA K sz a ga c → chA K sz b gb c → False := by
    intro a b ga gb hab ha hb ca cb
    have lb := ch_lt h hb cb
    rcases ca with ⟨-, e, -⟩ | ⟨-, e, a1⟩
    · omega
    · rcases pt_cases h ha with ⟨b1, -⟩ | ⟨b1, -⟩ | ⟨-, b2, b3, b4⟩
      · rw [a1] at b1; exact absurd b1 (by decide)
      · rcases b1 with b1 | b1 | b1 <;> rw [a1] at b1 <;> exact absurd b1 (by decide)
      · have := pt_nest h (sz (a + 1)) (a + 1) b (Nat.le_refl _) b2 (by omega) (by omega)
        omega
  have ek : k = k' := by
    rcases Nat.lt_trichotomy k k' with q | q | q
    · exact (key q hk hk' hc hc').elim
    · exact q
    · exact (key q hk' hk hc' hc).elim
  subst ek
  refine ⟨rfl, ?_⟩
  rcases hc with ⟨rfl, e, -⟩ | ⟨rfl, e, a1⟩ <;> rcases hc' with ⟨rfl, e', -⟩ | ⟨rfl, e', a1'⟩
  · rfl
  · rcases pt_cases h hk with ⟨b1, -⟩ | ⟨b1, -⟩ | ⟨-, b2, b3, b4⟩
    · rw [a1'] at b1; exact absurd b1 (by decide)
    · rcases b1 with b1 | b1 | b1 <;> rw [a1'] at b1 <;> exact absurd b1 (by decide)
    · have := pt_pos h b2; omega
  · rcases pt_cases h hk with ⟨b1, -⟩ | ⟨b1, -⟩ | ⟨-, b2, b3, b4⟩
    · rw [a1] at b1; exact absurd b1 (by decide)
    · rcases b1 with b1 | b1 | b1 <;> rw [a1] at b1 <;> exact absurd b1 (by decide)
    · have := pt_pos h b2; omega
  · rfl
def secA (K : Nat → Int32) (k : Nat) : Nat := if K k = 3 ∨ K k = 4 then 1 else 0
/-- which nodes are written with brackets: ft k g c, whether c fits as k's child g -/
theorem br_ex (h : ∀ k, k < n → ptk K O F G V sz n k) (ft : Nat → Nat → Nat → Prop) : ∃ br : Nat → Nat, (∀ c, br c ≤ 1) ∧ br 0 = secA K 0 ∧ (∀ k g c, k < n → chA K sz k g c → K c = 1 ∨ K c = 2 → (br c = 0 ↔ ft k g c)) ∧ (∀ c, c < n → ¬ (K c = 1 ∨ K c = 2) → br c = secA K c) := by
  refine ⟨fun c => @ite Nat ((K c = 1 ∨ K c = 2) ∧ ∃ k g, k < n ∧ chA K sz k g c) (Classical.propDecidable _) (@ite Nat (∃ k g, k < n ∧ chA K sz k g c ∧ ft k g c) (Classical.propDecidable _) 0 1) (secA K c), fun c => ?_, ?_, fun k g c hk hc hkc => ?_, fun c hc hkc => ?_⟩
  · show @ite Nat _ (Classical.propDecidable _) _ _ ≤ 1
    split
    · split <;> omega
    · unfold secA; split <;> omega
  · show @ite Nat _ (Classical.propDecidable _) _ _ = _
    rw [if_neg]
    rintro ⟨-, k, g, hk, hc⟩
    have := ch_lt h hk hc
    omega
  · show @ite Nat _ (Classical.propDecidable _) _ _ = 0 ↔ _
    rw [if_pos ⟨hkc, k, g, hk, hc⟩]
    by_cases q : ∃ k g, k < n ∧ chA K sz k g c ∧ ft k g c
    · rw [if_pos q]
      obtain ⟨k', g', hk', hc', hf⟩ := q
      obtain ⟨rfl, rfl⟩ := ch_uniq h hk hk' hc hc'
      exact ⟨fun _ => hf, fun _ => rfl⟩
    · rw [if_neg q]
      exact ⟨fun z => absurd z (by omega), fun z => absurd ⟨k, g, hk, hc, z⟩ q⟩
  · show @ite Nat _ (Classical.propDecidable _) _ _ = _
    rw [if_neg (fun z => hkc z.1)]
/-- widths -/
def wdE (K : Nat → Int32) (sz br w : Nat → Nat) (k : Nat) : Prop := w k = 1 + 2 * br k + (if K k = 0 then 0 else w (k + 1)) + (if K k = 1 then w (k + 1 + sz (k + 1)) else 0)
theorem wd_ex (h : ∀ k, k < n → ptk K O F G V sz n k) (br : Nat → Nat) : ∀ m, m ≤ n → ∃ w : Nat → Nat, ∀ k, n - m ≤ k → k < n → wdE K sz br w k
  | 0, _ => ⟨fun _ => 0, fun k h1 h2 => by omega⟩
  | m + 1, hm => by
    obtain ⟨w, hw⟩ := wd_ex h br m (by omega)
    refine ⟨updN w (n - (m + 1)) (1 + 2 * br (n - (m + 1)) + (if K (n - (m + 1)) = 0 then 0 else w (n - (m + 1) + 1)) + (if K (n - (m + 1)) = 1 then w (n - (m + 1) + 1 + sz (n - (m + 1) + 1)) else 0)), fun k h1 h2 => ?_⟩
    unfold wdE
    by_cases e : k = n - (m + 1)
    · rw [← e, updN_s, updN_n _ _ (show k + 1 ≠ k by omega), updN_n _ _ (show k + 1 + sz (k + 1) ≠ k by omega)]
    · rw [updN_n _ _ e, updN_n _ _ (show k + 1 ≠ n - (m + 1) by omega), updN_n _ _ (show k + 1 + sz (k + 1) ≠ n - (m + 1) by omega)]
      exact hw k (by omega) h2
/-- where the children of k begin -/
def stE (K : Nat → Int32) (sz br w st : Nat → Nat) (k : Nat) : Prop := (K k = 1 ∨ K k = 3 → st (k + 1) = st k + br k) ∧ (K k = 2 ∨ K k = 4 → st (k + 1) = st k + br k + 1) ∧ (K k = 1 → st (k + 1 + sz (k + 1)) = st k + br k + w (k + 1) + 1)
theorem st_ex (h : ∀ k, k < n → ptk K O F G V sz n k) (br w : Nat → Nat) : ∀ i, i ≤ n → ∃ st : Nat → Nat, st 0 = 0 ∧ ∀ k, k < i → stE K sz br w st k
  | 0, _ => ⟨fun _ => 0, rfl, fun k hk => by omega⟩
  | i + 1, hi => by
    obtain ⟨st, h0, hs⟩ := st_ex h br w i (by omega)
    have ne : ∀ k, k < i → ∀ g c g' c', chA K sz k g c → chA K sz i g' c' → c ≠ c' := fun k hk g c g' c' hc hc' e => by
      subst e
      have := (ch_uniq h (show k < n by omega) (show i < n by omega) hc hc').1
      omega
    rcases pt_cases h (show i < n by omega) with ⟨a1, a2⟩ | ⟨a1, a2, a3⟩ | ⟨a1, a2, a3, a4⟩
    · refine ⟨st, h0, fun k hk => ?_⟩
      by_cases e : k = i
      · subst e
        refine ⟨fun z => ?_, fun z => ?_, fun z => ?_⟩
        · rcases z with z | z <;> rw [a1] at z <;> exact absurd z (by decide)
        · rcases z with z | z <;> rw [a1] at z <;> exact absurd z (by decide)
        · rw [a1] at z; exact absurd z (by decide)
      · exact hs k (by omega)
    · refine ⟨updN st (i + 1) (if K i = 3 then st i + br i else st i + br i + 1), by rw [updN_n _ _ (by omega)]; exact h0, fun k hk => ?_⟩
      by_cases e : k = i
      · subst e
        refine ⟨fun z => ?_, fun z => ?_, fun z => ?_⟩
        · rw [updN_s, updN_n _ _ (by omega), if_pos]
          rcases z with z | z
          · rcases a1 with a | a | a <;> rw [z] at a <;> exact absurd a (by decide)
          · exact z
        · rw [updN_s, updN_n _ _ (by omega), if_neg]
          rcases z with z | z <;> rw [z] <;> decide
        · rcases a1 with a | a | a <;> rw [z] at a <;> exact absurd a (by decide)
      · obtain ⟨s1, s2, s3⟩ := hs k (by omega)
        have hci : chA K sz i 0 (i + 1) := Or.inl ⟨rfl, rfl, Or.inr a1⟩
        refine ⟨fun z => ?_, fun z => ?_, fun z => ?_⟩
        · rw [updN_n _ _ (by omega), updN_n _ _ (by omega)]; exact s1 z
        · rw [updN_n _ _ (by omega), updN_n _ _ (by omega)]; exact s2 z
        · rw [updN_n _ _ (ne k (by omega) 1 _ 0 _ (Or.inr ⟨rfl, rfl, z⟩) hci), updN_n _ _ (by omega)]; exact s3 z
    · have p1 := pt_pos h a2
      refine ⟨updN (updN st (i + 1) (st i + br i)) (i + 1 + sz (i + 1)) (st i + br i + w (i + 1) + 1), by rw [updN_n _ _ (by omega), updN_n _ _ (by omega)]; exact h0, fun k hk => ?_⟩
      by_cases e : k = i
      · subst e
        refine ⟨fun z => ?_, fun z => ?_, fun z => ?_⟩
        · rw [updN_n _ _ (by omega), updN_s, updN_n _ _ (by omega), updN_n _ _ (by omega)]
        · rcases z with z | z <;> rw [a1] at z <;> exact absurd z (by decide)
        · rw [updN_s, updN_n _ _ (by omega), updN_n _ _ (by omega)]
      · obtain ⟨s1, s2, s3⟩ := hs k (by omega)
        have hc0 : chA K sz i 0 (i + 1) := Or.inl ⟨rfl, rfl, Or.inl a1⟩
        have hc1 : chA K sz i 1 (i + 1 + sz (i + 1)) := Or.inr ⟨rfl, rfl, a1⟩
        refine ⟨fun z => ?_, fun z => ?_, fun z => ?_⟩
        · have hck : chA K sz k 0 (k + 1) := Or.inl ⟨rfl, rfl, by rcases z with z | z; exact Or.inl z; exact Or.inr (Or.inr (Or.inl z))⟩
          rw [updN_n _ _ (ne k (by omega) 0 _ 1 _ hck hc1), updN_n _ _ (by omega), updN_n _ _ (by omega), updN_n _ _ (by omega)]; exact s1 z
        · have hck : chA K sz k 0 (k + 1) := Or.inl ⟨rfl, rfl, by rcases z with z | z; exact Or.inr (Or.inl z); exact Or.inr (Or.inr (Or.inr z))⟩
          rw [updN_n _ _ (ne k (by omega) 0 _ 1 _ hck hc1), updN_n _ _ (by omega), updN_n _ _ (by omega), updN_n _ _ (by omega)]; exact s2 z
        · have hck : chA K sz k 1 (k + 1 + sz (k + 1)) := Or.inr ⟨rfl, rfl, z⟩
          rw [updN_n _ _ (ne k (by omega) 1 _ 1 _ hck hc1), updN_n _ _ (ne k (by omega) 1 _ 0 _ hck hc0), updN_n _ _ (by omega), updN_n _ _ (by omega)]; exact s3 z
/-- the layout -/
def LO (K : Nat → Int32) (sz : Nat → Nat) (n : Nat) (br w st : Nat → Nat) : Prop := (∀ c, br c ≤ 1) ∧ (∀ c, c < n → ¬ (K c = 1 ∨ K c = 2) → br c = secA K c) ∧ (∀ k, k < n → wdE K sz br w k) ∧ (∀ k, k < n → stE K sz br w st k) ∧ st 0 = 0
/-- where the node's own item is -/
def owA (K : Nat → Int32) (br w st : Nat → Nat) (k : Nat) : Nat := if K k = 1 ∨ K k = 3 then st k + br k + w (k + 1) else st k + br k
/-- the four ways of a node -/
theorem LO_cases {br w st : Nat → Nat} (h : ∀ k, k < n → ptk K O F G V sz n k) (L : LO K sz n br w st) {k : Nat} (hk : k < n) :
    (K k = 0 ∧ sz k = 1 ∧ br k = 0 ∧ w k = 1 ∧ owA K br w st k = st k) ∨
    (K k = 1 ∧ br k ≤ 1 ∧ k + 1 < n ∧ k + 1 + sz (k + 1) < n ∧ sz k = 1 + sz (k + 1) + sz (k + 1 + sz (k + 1)) ∧ w k = 1 + 2 * br k + w (k + 1) + w (k + 1 + sz (k + 1)) ∧ st (k + 1) = st k + br k ∧ st (k + 1 + sz (k + 1)) = st k + br k + w (k + 1) + 1 ∧ owA K br w st k = st k + br k + w (k + 1)) ∨
    (K k = 2 ∧ br k ≤ 1 ∧ k + 1 < n ∧ sz k = 1 + sz (k + 1) ∧ w k = 1 + 2 * br k + w (k + 1) ∧ st (k + 1) = st k + br k + 1 ∧ owA K br w st k = st k + br k) ∨
    (K k = 3 ∧ br k = 1 ∧ k + 1 < n ∧ sz k = 1 + sz (k + 1) ∧ w k = 3 + w (k + 1) ∧ st (k + 1) = st k + 1 ∧ owA K br w st k = st k + 1 + w (k + 1)) ∨
    (K k = 4 ∧ br k = 1 ∧ k + 1 < n ∧ sz k = 1 + sz (k + 1) ∧ w k = 3 + w (k + 1) ∧ st (k + 1) = st k + 2 ∧ owA K br w st k = st k + 1) := by
  obtain ⟨l1, l2, l3, l4, l5⟩ := L
  have e1 := l3 k hk
  obtain ⟨s1, s2, s3⟩ := l4 k hk
  unfold wdE at e1
  rcases pt_cases h hk with ⟨a1, a2⟩ | ⟨a1, a2, a3⟩ | ⟨a1, a2, a3, a4⟩
  · have b := l2 k hk (by rw [a1]; decide)
    have b0 : br k = 0 := by rw [b, secA, a1, if_neg (by decide)]
    rw [a1, if_pos rfl, if_neg (by decide)] at e1
    exact Or.inl ⟨a1, a2, b0, by omega, by rw [owA, a1, if_neg (by decide), b0]; rfl⟩
  · rcases a1 with a1 | a1 | a1
    · rw [a1, if_neg (by decide), if_neg (by decide)] at e1
      exact Or.inr (Or.inr (Or.inl ⟨a1, l1 k, a2, a3, e1, s2 (Or.inl a1), by rw [owA, a1, if_neg (by decide)]⟩))
    · have b := l2 k hk (by rw [a1]; decide)
      have b0 : br k = 1 := by rw [b, secA, if_pos (Or.inl a1)]
      rw [a1, if_neg (by decide), if_neg (by decide)] at e1
      have t := s1 (Or.inr a1)
      exact Or.inr (Or.inr (Or.inr (Or.inl ⟨a1, b0, a2, a3, by omega, by omega, by rw [owA, if_pos (Or.inr a1), b0]⟩)))
    · have b := l2 k hk (by rw [a1]; decide)
      have b0 : br k = 1 := by rw [b, secA, if_pos (Or.inr a1)]
      rw [a1, if_neg (by decide), if_neg (by decide)] at e1
      have t := s2 (Or.inr a1)
      exact Or.inr (Or.inr (Or.inr (Or.inr ⟨a1, b0, a2, a3, by omega, by omega, by rw [owA, a1, if_neg (by decide), b0]⟩)))
  · rw [a1, if_neg (by decide), if_pos rfl] at e1
    exact Or.inr (Or.inl ⟨a1, l1 k, a2, a3, a4, e1, s1 (Or.inl a1), s3 a1, by rw [owA, if_pos (Or.inl a1)]⟩)
theorem LO_w {br w st : Nat → Nat} (h : ∀ k, k < n → ptk K O F G V sz n k) (L : LO K sz n br w st) : ∀ (m k : Nat), sz k ≤ m → k < n → 1 ≤ w k ∧ w k ≤ 3 * sz k := by
  intro m
  induction m with
  | zero => intro k h1 h2; have := pt_pos h h2; omega
  | succ m ih =>
    intro k h1 h2
    rcases LO_cases h L h2 with ⟨-, a2, a3, a4, -⟩ | ⟨-, b0, a2, a3, a4, a5, -⟩ | ⟨-, b0, a2, a3, a4, -⟩ | ⟨-, b0, a2, a3, a4, -⟩ | ⟨-, b0, a2, a3, a4, -⟩
    · omega
    · have i1 := ih (k + 1) (by omega) a2
      have i2 := ih (k + 1 + sz (k + 1)) (by omega) a3
      omega
    · have i1 := ih (k + 1) (by omega) a2; omega
    · have i1 := ih (k + 1) (by omega) a2; omega
    · have i1 := ih (k + 1) (by omega) a2; omega
/-- every item belongs to one node: its own item (role 0), its brackets (3, 4) -/
theorem LO_own {br w st : Nat → Nat} (h : ∀ k, k < n → ptk K O F G V sz n k) (L : LO K sz n br w st) : ∀ (m k : Nat), sz k ≤ m → k < n → ∃ ow : Nat → Nat × Nat, (∀ j, k ≤ j → j < k + sz k → st k ≤ st j ∧ st j + w j ≤ st k + w k ∧ ow (owA K br w st j) = (j, 0) ∧ (br j = 1 → ow (st j) = (j, 3) ∧ ow (st j + w j - 1) = (j, 4))) ∧
    (∀ i, st k ≤ i → i < st k + w k → ∃ j, k ≤ j ∧ j < k + sz k ∧ ((ow i = (j, 0) ∧ i = owA K br w st j) ∨ (ow i = (j, 3) ∧ i = st j ∧ br j = 1) ∨ (ow i = (j, 4) ∧ i = st j + w j - 1 ∧ br j = 1))) := by
  intro m
  induction m with
  | zero => intro k h1 h2; have := pt_pos h h2; omega
  | succ m ih =>
    intro k h1 h2
    have inr : ∀ j, j < n → st j ≤ owA K br w st j ∧ owA K br w st j < st j + w j := by
      intro j hj
      rcases LO_cases h L hj with ⟨-, -, a3, a4, a5⟩ | ⟨-, b0, a2, a3, a4, a5, a6, a7, a8⟩ | ⟨-, b0, a2, a3, a4, a5, a6⟩ | ⟨-, b0, a2, a3, a4, a5, a6⟩ | ⟨-, b0, a2, a3, a4, a5, a6⟩ <;> omega
    rcases LO_cases h L h2 with ⟨-, a2, a3, a4, a5⟩ | ⟨-, b0, a2, a3, a4, a5, a6, a7, a8⟩ | H
    · refine ⟨fun _ => (k, 0), fun j j1 j2 => ?_, fun i i1 i2 => ⟨k, Nat.le_refl _, by omega, Or.inl ⟨rfl, by omega⟩⟩⟩
      have : j = k := by omega
      subst this
      exact ⟨Nat.le_refl _, Nat.le_refl _, rfl, fun z => by omega⟩
    · obtain ⟨o1, p1, p2⟩ := ih (k + 1) (by omega) a2
      obtain ⟨o2, q1, q2⟩ := ih (k + 1 + sz (k + 1)) (by omega) a3
      have hw1 := (LO_w h L _ _ (Nat.le_refl _) a2).1
      have hw2 := (LO_w h L _ _ (Nat.le_refl _) a3).1
      obtain ⟨ow, how⟩ : ∃ ow : Nat → Nat × Nat, ∀ i, ow i = if i < st k + br k then (k, 3) else if i < st k + br k + w (k + 1) then o1 i else if i = st k + br k + w (k + 1) then (k, 0) else if i < st k + br k + w (k + 1) + 1 + w (k + 1 + sz (k + 1)) then o2 i else (k, 4) := ⟨_, fun _ => rfl⟩
      refine ⟨ow, fun j j1 j2 => ?_, fun i i1 i2 => ?_⟩
      · by_cases e : j = k
        · subst e
          refine ⟨Nat.le_refl _, Nat.le_refl _, ?_, fun z => ⟨?_, ?_⟩⟩
          · rw [a8, how, if_neg (by omega), if_neg (by omega), if_pos rfl]
          · rw [how, if_pos (by omega)]
          · rw [how, if_neg (by omega), if_neg (by omega), if_neg (by omega), if_neg (by omega)]
        · by_cases e2 : j < k + 1 + sz (k + 1)
          · obtain ⟨t1, t2, t3, t4⟩ := p1 j (by omega) (by omega)
            have jn : j < n := by omega
            have hin := inr j jn
            have hwj := (LO_w h L _ _ (Nat.le_refl _) jn).1
            refine ⟨by omega, by omega, ?_, fun z => ⟨?_, ?_⟩⟩
            · rw [how, if_neg (by omega), if_pos (by omega)]; exact t3
            · rw [how, if_neg (by omega), if_pos (by omega)]; exact (t4 z).1
            · rw [how, if_neg (by omega), if_pos (by omega)]; exact (t4 z).2
          · have jn : j < n := by have := (h _ a3).1; omega
            obtain ⟨t1, t2, t3, t4⟩ := q1 j (by omega) (by omega)
            have hin := inr j jn
            have hwj := (LO_w h L _ _ (Nat.le_refl _) jn).1
            refine ⟨by omega, by omega, ?_, fun z => ⟨?_, ?_⟩⟩
            · rw [how, if_neg (by omega), if_neg (by omega), if_neg (by omega), if_pos (by omega)]; exact t3
            · rw [how, if_neg (by omega), if_neg (by omega), if_neg (by omega), if_pos (by omega)]; exact (t4 z).1
            · rw [how, if_neg (by omega), if_neg (by omega), if_neg (by omega), if_pos (by omega)]; exact (t4 z).2
      · by_cases c1 : i < st k + br k
        · exact ⟨k, Nat.le_refl _, by omega, Or.inr (Or.inl ⟨by rw [how, if_pos c1], by omega, by omega⟩)⟩
        · by_cases c2 : i < st k + br k + w (k + 1)
          · obtain ⟨j, j1, j2, j3⟩ := p2 i (by omega) (by omega)
            exact ⟨j, by omega, by omega, by rw [how, if_neg c1, if_pos c2]; exact j3⟩
          · by_cases c3 : i = st k + br k + w (k + 1)
            · exact ⟨k, Nat.le_refl _, by omega, Or.inl ⟨by rw [how, if_neg c1, if_neg c2, if_pos c3], by omega⟩⟩
            · by_cases c4 : i < st k + br k + w (k + 1) + 1 + w (k + 1 + sz (k + 1))
              · obtain ⟨j, j1, j2, j3⟩ := q2 i (by omega) (by omega)
                exact ⟨j, by omega, by omega, by rw [how, if_neg c1, if_neg c2, if_neg c3, if_pos c4]; exact j3⟩
              · exact ⟨k, Nat.le_refl _, by omega, Or.inr (Or.inr ⟨by rw [how, if_neg c1, if_neg c2, if_neg c3, if_neg c4], by omega, by omega⟩)⟩
    · -- of one child: where it begins, and where the own item is
      obtain ⟨ob, oc, b0, a2, a3, a4, a5, a6, a7⟩ : ∃ ob oc, br k ≤ 1 ∧ k + 1 < n ∧ sz k = 1 + sz (k + 1) ∧ w k = 1 + 2 * br k + w (k + 1) ∧ st (k + 1) = st k + br k + oc ∧ owA K br w st k = st k + br k + ob ∧ ((oc = 1 ∧ ob = 0) ∨ (oc = 0 ∧ ob = w (k + 1))) := by
        rcases H with ⟨-, b0, a2, a3, a4, a5, a6⟩ | ⟨-, b0, a2, a3, a4, a5, a6⟩ | ⟨-, b0, a2, a3, a4, a5, a6⟩
        · exact ⟨0, 1, b0, a2, a3, a4, a5, a6, Or.inl ⟨rfl, rfl⟩⟩
        · exact ⟨w (k + 1), 0, by omega, a2, a3, by omega, by omega, by omega, Or.inr ⟨rfl, rfl⟩⟩
        · exact ⟨0, 1, by omega, a2, a3, by omega, by omega, by omega, Or.inl ⟨rfl, rfl⟩⟩
      obtain ⟨o1, p1, p2⟩ := ih (k + 1) (by omega) a2
      have hw1 := (LO_w h L _ _ (Nat.le_refl _) a2).1
      obtain ⟨ow, how⟩ : ∃ ow : Nat → Nat × Nat, ∀ i, ow i = if i < st k + br k then (k, 3) else if i = st k + br k + ob then (k, 0) else if i < st k + br k + 1 + w (k + 1) then o1 i else (k, 4) := ⟨_, fun _ => rfl⟩
      refine ⟨ow, fun j j1 j2 => ?_, fun i i1 i2 => ?_⟩
      · by_cases e : j = k
        · subst e
          refine ⟨Nat.le_refl _, Nat.le_refl _, ?_, fun z => ⟨?_, ?_⟩⟩
          · rw [a6, how, if_neg (by omega), if_pos rfl]
          · rw [how, if_pos (by omega)]
          · rw [how, if_neg (by omega), if_neg (by omega), if_neg (by omega)]
        · obtain ⟨t1, t2, t3, t4⟩ := p1 j (by omega) (by omega)
          have jn : j < n := by have := (h _ a2).1; omega
          have hin := inr j jn
          have hwj := (LO_w h L _ _ (Nat.le_refl _) jn).1
          refine ⟨by omega, by omega, ?_, fun z => ⟨?_, ?_⟩⟩
          · rw [how, if_neg (by omega), if_neg (by omega), if_pos (by omega)]; exact t3
          · rw [how, if_neg (by omega), if_neg (by omega), if_pos (by omega)]; exact (t4 z).1
          · rw [how, if_neg (by omega), if_neg (by omega), if_pos (by omega)]; exact (t4 z).2
      · by_cases c1 : i < st k + br k
        · exact ⟨k, Nat.le_refl _, by omega, Or.inr (Or.inl ⟨by rw [how, if_pos c1], by omega, by omega⟩)⟩
        · by_cases c3 : i = st k + br k + ob
          · exact ⟨k, Nat.le_refl _, by omega, Or.inl ⟨by rw [how, if_neg c1, if_pos c3], by omega⟩⟩
          · by_cases c4 : i < st k + br k + 1 + w (k + 1)
            · obtain ⟨j, j1, j2, j3⟩ := p2 i (by omega) (by omega)
              exact ⟨j, by omega, by omega, by rw [how, if_neg c1, if_neg c3, if_pos c4]; exact j3⟩
            · exact ⟨k, Nat.le_refl _, by omega, Or.inr (Or.inr ⟨by rw [how, if_neg c1, if_neg c3, if_neg c4], by omega, by omega⟩)⟩
end LAYOUT
/-! WHAT IS WRITTEN IS A ROW -/
theorem wrapB {A : Nat → Int32} {s0 w b : Nat} (hb : b ≤ 1) (hw : 1 + 2 * b ≤ w) (h34 : b = 1 → A s0 = 3 ∧ A (s0 + w - 1) = 4) (hd : dueA A s0)
    (inner : dueA A (s0 + b) → (∀ i, s0 + b ≤ i → i < s0 + w - b → gj A i) ∧ stk A (s0 + w - b) = stk A (s0 + b) ∧ (¬ dueA A (s0 + w - b) ∨ (b = 1 ∧ A (s0 + w - b - 1) = 1 ∧ ¬ A (s0 + 1) = 1)) ∧ (b = 0 → ¬ A s0 = 1)) :
    (∀ i, s0 ≤ i → i < s0 + w → gj A i) ∧ stk A (s0 + w) = stk A s0 ∧ ¬ dueA A (s0 + w) ∧ ¬ A s0 = 1 := by
  rcases (show b = 0 ∨ b = 1 by omega) with rfl | rfl
  · obtain ⟨i1, i2, i3, i4⟩ := inner hd
    refine ⟨i1, i2, ?_, i4 rfl⟩
    rcases i3 with i3 | ⟨z, -⟩
    · exact i3
    · omega
  · obtain ⟨a3, a4⟩ := h34 rfl
    have hd1 : dueA A (s0 + 1) := (due_s s0).mpr (Or.inr (Or.inr a3))
    have hs1 : stk A (s0 + 1) = s0 :: stk A s0 := by
      simp only [stk]; rw [if_pos a3]
    obtain ⟨i1, i2, i3, i4⟩ := inner hd1
    have ee : s0 + w - 1 + 1 = s0 + w := by omega
    have hse : stk A (s0 + w - 1) = s0 :: stk A s0 := by rw [i2, hs1]
    refine ⟨fun i q1 q2 => ?_, ?_, ?_, by rw [a3]; decide⟩
    · by_cases e : i = s0
      · subst e; exact Or.inl ⟨Or.inr (Or.inr a3), hd⟩
      · by_cases e2 : i = s0 + w - 1
        · subst e2
          refine Or.inr (Or.inr ⟨a4, s0, stk A s0, hse, ?_⟩)
          rcases i3 with i3 | ⟨-, z1, z2⟩
          · exact Or.inl i3
          · exact Or.inr ⟨by omega, z1, z2⟩
        · exact i1 i (by omega) (by omega)
    · rw [← ee]
      simp only [stk]
      rw [if_neg (by rw [a4]; decide), if_pos a4, hse]; rfl
    · rw [← ee, due_s, a4]
      rintro (h | h | h) <;> exact absurd h (by decide)
section TEXT
variable {K O F G : Nat → Int32} {V : Nat → Int64} {sz : Nat → Nat} {n : Nat} {br w st : Nat → Nat} {A : Nat → Int32}
def okA (K : Nat → Int32) (k : Nat) : Int32 := if K k = 3 ∨ K k = 4 then 1 else K k
theorem gr_txt (h : ∀ k, k < n → ptk K O F G V sz n k) (L : LO K sz n br w st) (hA : ∀ j, j < n → A (owA K br w st j) = okA K j ∧ (br j = 1 → A (st j) = 3 ∧ A (st j + w j - 1) = 4)) : ∀ (m k : Nat), sz k ≤ m → k < n → dueA A (st k) → (∀ i, st k ≤ i → i < st k + w k → gj A i) ∧ stk A (st k + w k) = stk A (st k) ∧ ¬ dueA A (st k + w k) ∧ ¬ A (st k) = 1 := by
  intro m
  induction m with
  | zero => intro k h1 h2; have := pt_pos h h2; omega
  | succ m ih =>
    intro k h1 h2 hd
    obtain ⟨hown, hbr⟩ := hA k h2
    have nd0 : ∀ i, A i = 0 → ¬ dueA A (i + 1) := fun i hi => by
      rw [due_s, hi]; rintro (h | h | h) <;> exact absurd h (by decide)
    rcases LO_cases h L h2 with ⟨k0, a2, a3, a4, a5⟩ | ⟨k0, b0, a2, a3, a4, a5, a6, a7, a8⟩ | ⟨k0, b0, a2, a3, a4, a5, a6⟩ | ⟨k0, b0, a2, a3, a4, a5, a6⟩ | ⟨k0, b0, a2, a3, a4, a5, a6⟩
    · rw [a5, okA, k0, if_neg (by decide)] at hown
      rw [a4]
      refine ⟨fun i q1 q2 => ?_, stk_s0 (by rw [hown]; decide) (by rw [hown]; decide), nd0 _ hown, by rw [hown]; decide⟩
      have : i = st k := by omega
      subst this
      exact Or.inl ⟨Or.inl hown, hd⟩
    · have w1 := (LO_w h L _ _ (Nat.le_refl _) a2).1
      have w2 := (LO_w h L _ _ (Nat.le_refl _) a3).1
      rw [a8, okA, k0, if_neg (by decide)] at hown
      refine wrapB b0 (by omega) hbr hd (fun hd1 => ?_)
      rw [← a6] at hd1
      obtain ⟨i1, i2, i3, i4⟩ := ih (k + 1) (by omega) a2 hd1
      have hdo : dueA A (st k + br k + w (k + 1) + 1) := (due_s _).mpr (Or.inl hown)
      rw [← a7] at hdo
      obtain ⟨j1, j2, j3, j4⟩ := ih (k + 1 + sz (k + 1)) (by omega) a3 hdo
      have eo : st (k + 1) + w (k + 1) = st k + br k + w (k + 1) := by omega
      have ee : st (k + 1 + sz (k + 1)) + w (k + 1 + sz (k + 1)) = st k + w k - br k := by omega
      have hso : stk A (st (k + 1 + sz (k + 1))) = stk A (st k + br k + w (k + 1)) := by
        rw [a7]; exact stk_s0 (by rw [hown]; decide) (by rw [hown]; decide)
      refine ⟨fun i q1 q2 => ?_, ?_, Or.inl (by rw [← ee]; exact j3), fun z => ?_⟩
      · by_cases c1 : i < st k + br k + w (k + 1)
        · exact i1 i (by omega) (by omega)
        · by_cases c2 : i = st k + br k + w (k + 1)
          · subst c2
            exact Or.inr (Or.inl ⟨hown, Or.inl (by rw [← eo]; exact i3)⟩)
          · exact j1 i (by omega) (by omega)
      · rw [← ee, j2, hso, ← eo, i2, a6]
      · rw [show st k = st (k + 1) by omega]; exact i4
    · have w1 := (LO_w h L _ _ (Nat.le_refl _) a2).1
      rw [a6, okA, k0, if_neg (by decide)] at hown
      refine wrapB b0 (by omega) hbr hd (fun hd1 => ?_)
      have hdo : dueA A (st k + br k + 1) := (due_s _).mpr (Or.inr (Or.inl hown))
      rw [← a5] at hdo
      obtain ⟨j1, j2, j3, j4⟩ := ih (k + 1) (by omega) a2 hdo
      have ee : st (k + 1) + w (k + 1) = st k + w k - br k := by omega
      have hso : stk A (st (k + 1)) = stk A (st k + br k) := by
        rw [a5]; exact stk_s0 (by rw [hown]; decide) (by rw [hown]; decide)
      refine ⟨fun i q1 q2 => ?_, by rw [← ee, j2, hso], Or.inl (by rw [← ee]; exact j3), fun z => ?_⟩
      · by_cases c2 : i = st k + br k
        · subst c2
          exact Or.inl ⟨Or.inr (Or.inl hown), hd1⟩
        · exact j1 i (by omega) (by omega)
      · rw [z, Nat.add_zero] at hown
        rw [hown]; decide
    · have w1 := (LO_w h L _ _ (Nat.le_refl _) a2).1
      rw [a6, okA, if_pos (Or.inl k0)] at hown
      refine wrapB (b := 1) (by omega) (by omega) (fun _ => hbr b0) hd (fun hd1 => ?_)
      rw [← a5] at hd1
      obtain ⟨i1, i2, i3, i4⟩ := ih (k + 1) (by omega) a2 hd1
      have eo : st (k + 1) + w (k + 1) = st k + 1 + w (k + 1) := by omega
      have ee : st k + w k - 1 = st k + 1 + w (k + 1) + 1 := by omega
      refine ⟨fun i q1 q2 => ?_, ?_, Or.inr ⟨rfl, ?_, ?_⟩, fun z => by omega⟩
      · by_cases c1 : i < st k + 1 + w (k + 1)
        · exact i1 i (by omega) (by omega)
        · have c2 : i = st k + 1 + w (k + 1) := by omega
          subst c2
          exact Or.inr (Or.inl ⟨hown, Or.inl (by rw [← eo]; exact i3)⟩)
      · rw [ee, stk_s0 (by rw [hown]; decide) (by rw [hown]; decide), ← eo, i2, a5]
      · rw [ee, Nat.add_sub_cancel]; exact hown
      · rw [← a5]; exact i4
    · have w1 := (LO_w h L _ _ (Nat.le_refl _) a2).1
      rw [a6, okA, if_pos (Or.inr k0)] at hown
      refine wrapB (b := 1) (by omega) (by omega) (fun _ => hbr b0) hd (fun hd1 => ?_)
      have hdo : dueA A (st k + 1 + 1) := (due_s _).mpr (Or.inl hown)
      have e2 : st (k + 1) = st k + 1 + 1 := by omega
      rw [← e2] at hdo
      obtain ⟨j1, j2, j3, j4⟩ := ih (k + 1) (by omega) a2 hdo
      have ee : st (k + 1) + w (k + 1) = st k + w k - 1 := by omega
      have hso : stk A (st (k + 1)) = stk A (st k + 1) := by
        rw [e2]; exact stk_s0 (by rw [hown]; decide) (by rw [hown]; decide)
      refine ⟨fun i q1 q2 => ?_, by rw [← ee, j2, hso], Or.inl (by rw [← ee]; exact j3), fun z => by omega⟩
      by_cases c2 : i = st k + 1
      · subst c2
        exact Or.inr (Or.inl ⟨hown, Or.inr ⟨by omega, by rw [Nat.add_sub_cancel]; exact (hbr b0).1⟩⟩)
      · exact j1 i (by omega) (by omega)
/-- the items -/
def iK (K : Nat → Int32) (ow : Nat → Nat × Nat) (i : Nat) : Int32 := if (ow i).2 = 3 then 3 else if (ow i).2 = 4 then 4 else okA K (ow i).1
def iO (O : Nat → Int32) (ow : Nat → Nat × Nat) (i : Nat) : Int32 := if (ow i).2 = 3 ∨ (ow i).2 = 4 then -1 else O (ow i).1
def iV (V : Nat → Int64) (ow : Nat → Nat × Nat) (i : Nat) : Int64 := if (ow i).2 = 3 ∨ (ow i).2 = 4 then 0 else V (ow i).1
/-- the whole text is a row -/
theorem txt_gr (h : ∀ k, k < n → ptk K O F G V sz n k) (h0 : 0 < n) (hz : sz 0 = n) (L : LO K sz n br w st) {ow : Nat → Nat × Nat} (how : ∀ j, j < n → ow (owA K br w st j) = (j, 0) ∧ (br j = 1 → ow (st j) = (j, 3) ∧ ow (st j + w j - 1) = (j, 4))) (hcov : ∀ i, i < w 0 → ∃ j, j < n ∧ (ow i = (j, 0) ∨ ow i = (j, 3) ∨ ow i = (j, 4))) {B : Nat → Int32} {C : Nat → Int32} {D : Nat → Int64} (hB : ∀ i, i < w 0 → B i = iK K ow i ∧ C i = iO O ow i ∧ D i = iV V ow i) : gr B C D (w 0) ∧ stk B (w 0) = [] := by
  have st0 : st 0 = 0 := L.2.2.2.2
  obtain ⟨ow', hr1, hr2⟩ := LO_own h L n 0 (by omega) h0
  rw [st0, Nat.zero_add, hz, Nat.zero_add] at hr1 hr2
  have inr : ∀ j, j < n → owA K br w st j < w 0 ∧ st j < w 0 ∧ st j + w j - 1 < w 0 := fun j hj => by
    obtain ⟨t1, t2, -⟩ := hr1 j (by omega) hj
    have hwj := (LO_w h L _ _ (Nat.le_refl _) hj).1
    refine ⟨?_, by omega, by omega⟩
    rcases LO_cases h L hj with ⟨-, -, a3, a4, a5⟩ | ⟨-, b0, a2, a3, a4, a5, a6, a7, a8⟩ | ⟨-, b0, a2, a3, a4, a5, a6⟩ | ⟨-, b0, a2, a3, a4, a5, a6⟩ | ⟨-, b0, a2, a3, a4, a5, a6⟩ <;> omega
  have hA : ∀ j, j < n → B (owA K br w st j) = okA K j ∧ (br j = 1 → B (st j) = 3 ∧ B (st j + w j - 1) = 4) := fun j hj => by
    obtain ⟨u1, u2⟩ := how j hj
    obtain ⟨v1, v2, v3⟩ := inr j hj
    refine ⟨by rw [(hB _ v1).1, iK, u1, if_neg (by simp), if_neg (by simp)], fun z => ⟨by rw [(hB _ v2).1, iK, (u2 z).1, if_pos rfl], by rw [(hB _ v3).1, iK, (u2 z).2, if_neg (by simp), if_pos rfl]⟩⟩
  obtain ⟨g1, g2, -⟩ := gr_txt h L hA n 0 (by omega) h0 (by rw [st0]; exact Or.inl rfl)
  rw [st0, Nat.zero_add] at g1 g2
  refine ⟨fun i hi => ⟨g1 i (by omega) hi, ?_⟩, g2⟩
  obtain ⟨j, hj, hc⟩ := hcov i hi
  obtain ⟨b1, b2, b3⟩ := hB i hi
  rw [b1, b2, b3]
  rcases hc with hc | hc | hc
  · rw [iK, iO, iV, hc, if_neg (by simp), if_neg (by simp), if_neg (by simp), if_neg (by simp)]
    show gi (okA K j) (O j) (V j)
    unfold okA
    rcases (h j hj).2 with ⟨a1, a2, -⟩ | ⟨⟨o, ho, ho2, ho3⟩, a2, a3, a4, ⟨a5, -⟩ | ⟨a5, -⟩⟩
    · rw [a1, if_neg (by decide)]; exact Or.inl ⟨rfl, a2⟩
    · rcases a5 with a5 | a5 | a5
      · rw [a5, if_neg (by decide)]
        have : o = 0 := ho3 a5
        subst this
        exact Or.inr (Or.inr (Or.inl ⟨rfl, ho2, a2⟩))
      · rw [if_pos (Or.inl a5)]; exact Or.inr (Or.inl ⟨rfl, ⟨o, ho, ho2⟩, a2⟩)
      · rw [if_pos (Or.inr a5)]; exact Or.inr (Or.inl ⟨rfl, ⟨o, ho, ho2⟩, a2⟩)
    · rw [a5, if_neg (by decide)]; exact Or.inr (Or.inl ⟨rfl, ⟨o, ho, ho2⟩, a2⟩)
  · rw [iK, iO, iV, hc, if_pos rfl, if_pos (Or.inl rfl), if_pos (Or.inl rfl)]
    exact Or.inr (Or.inr (Or.inr ⟨Or.inl rfl, rfl, rfl⟩))
  · rw [iK, iO, iV, hc, if_neg (by simp), if_pos rfl, if_pos (Or.inr rfl), if_pos (Or.inr rfl)]
    exact Or.inr (Or.inr (Or.inr ⟨Or.inr rfl, rfl, rfl⟩))
end TEXT
