/-! FIXITIES: ranks and sides as both look them up -/
/-- what both look up in scope s -/
def fxT (s : Nat) (df kf : Nat → Nat) (σ τ : fx_S) : Prop := ∀ o, o < 41 → df o < 3 ∧ kf o < 10 ∧ (o = 0 → kf o = 6) ∧ F_Scopes_sideOf (nI s) (nI o) σ = some (nI (df o), σ) ∧ F_Md_sideOf (nI s) (nI o) τ = some (nI (df o), τ) ∧ F_Scopes_rankOf (nI s) (nI o) σ = some (nI (kf o), σ) ∧ F_Md_rankOf (nI s) (nI o) τ = some (nI (kf o), τ)
theorem fxT_ex {σ τ : fx_S} {n s : Nat} (H : RSn σ τ n) (hs : s < n) : ∃ df kf, fxT s df kf σ τ := by
  have h : ∀ o, ∃ dk : Nat × Nat, o < 41 → dk.1 < 3 ∧ dk.2 < 10 ∧ (o = 0 → dk.2 = 6) ∧ F_Scopes_sideOf (nI s) (nI o) σ = some (nI dk.1, σ) ∧ F_Md_sideOf (nI s) (nI o) τ = some (nI dk.1, τ) ∧ F_Scopes_rankOf (nI s) (nI o) σ = some (nI dk.2, σ) ∧ F_Md_rankOf (nI s) (nI o) τ = some (nI dk.2, τ) := by
    intro o
    by_cases ho : o < 41
    · obtain ⟨t, d, k, h1, h2, h3, -, -, h4, h5, h6, h7⟩ := s_look H hs ho
      exact ⟨(d, k), fun _ => ⟨h1, h2, h3, h4, h5, h6, h7⟩⟩
    · exact ⟨(0, 0), fun h => absurd h ho⟩
  exact ⟨fun o => (Classical.choose (h o)).1, fun o => (Classical.choose (h o)).2, fun o ho => Classical.choose_spec (h o) ho⟩
theorem fxT_cg {σ τ σ' τ' : fx_S} {n s : Nat} {df kf : Nat → Nat} (H : RSn σ τ n) (hs : s < n) (h : fxT s df kf σ τ) (e : kS σ' = kS σ) (e' : kS' τ' = kS' τ) : fxT s df kf σ' τ' := by
  have H1 : RSn σ' τ n := RSn_cg H e rfl
  have H2 : RSn σ' τ' n := RSn_cg H e e'
  intro o ho
  obtain ⟨a1, a2, a3, a4, a5, a6, a7⟩ := h o ho
  obtain ⟨t, d, k, h1, h2, h3, -, -, h4, h5, h6, h7⟩ := s_look H1 hs ho
  obtain ⟨t', d', k', g1, g2, g3, -, -, g4, g5, g6, g7⟩ := s_look H2 hs ho
  have e1 := Option.some.inj (a5.symm.trans h5)
  have e2 := Option.some.inj (a7.symm.trans h7)
  have e3 := Option.some.inj (h4.symm.trans g4)
  have e4 := Option.some.inj (h6.symm.trans g6)
  simp only [Prod.mk.injEq, and_true] at e1 e2 e3 e4
  exact ⟨a1, a2, a3, by rw [e1]; exact h4, by rw [e1, e3]; exact g5, by rw [e2]; exact h6, by rw [e2, e4]; exact g7⟩
/-- the class has looked them up -/
theorem l_look {σ τ : fx_S} {n s : Nat} {df kf : Nat → Nat} (H : RSn σ τ n) (hs : s < n) (h : fxT s df kf σ τ) : ∀ (m o f : Nat) (σ1 : fx_S), m + o = 41 → kS σ1 = kS σ → (∀ i, i < o → σ1.2.1 5 i = nI (df i) ∧ σ1.2.1 6 i = nI (kf i)) → ∃ A B, fx_loop2 F_Fixities_look_Scopes_B2 (f + m + 1) (nI s) (nI o) σ1 = some ((), (σ1.1, va_up (va_up σ1.2.1 5 A) 6 B, σ1.2.2)) ∧ ∀ i, i < 41 → A i = nI (df i) ∧ B i = nI (kf i) := by
  intro m
  induction m with
  | zero =>
    intro o f σ1 ho hk hi
    have : o = 41 := by omega
    subst this
    refine ⟨σ1.2.1 5, σ1.2.1 6, ?_, hi⟩
    have e9 : va_up (va_up σ1.2.1 5 (σ1.2.1 5)) 6 (σ1.2.1 6) = σ1.2.1 := by
      funext a
      by_cases h6 : a = 6
      · subst h6; rw [va_up_self]
      · rw [va_up_ne _ _ h6]
        by_cases h5 : a = 5
        · subst h5; rw [va_up_self]
        · rw [va_up_ne _ _ h5]
    rw [e9]
    simp (disch := omega) only [e_loop2, F_Fixities_look_Scopes_B2, fx_bnd, fx_bndx, e_gI, e_pI, e_rz0, e_rz1, e_ret, e_pur, e_thr, e_if, e_el, q_lt, q_le, q_eq, q_lt0, q_0lt, q_le0, q_0le, q_eq0, q_lt1, q_1lt, q_le1, q_1le, q_eq1, q_lt2, q_2lt, q_le2, q_2le, q_eq2, q_lt3, q_3lt, q_le3, q_3le, q_eq3, q_lt4, q_4lt, q_le4, q_4le, q_eq4, q_lt6, q_6lt, q_le6, q_6le, q_eq6, q_lt10, q_10lt, q_le10, q_10le, q_eq10, q_lt30, q_30lt, q_le30, q_30le, q_eq30, q_lt40, q_40lt, q_le40, q_40le, q_eq40, q_lt41, q_41lt, q_le41, q_41le, q_eq41, q_lt200, q_200lt, q_le200, q_200le, q_eq200, q_lt400, q_400lt, q_le400, q_400le, q_eq400, q_lt600, q_600lt, q_le600, q_600le, q_eq600, q_lt800, q_800lt, q_le800, q_800le, q_eq800, q_lt900, q_900lt, q_le900, q_900le, q_eq900, q_0eq, q_1eq, q_2eq, q_3eq, q_4eq, q_neg, q_m1, q_m1l, q_s1, nI_1, q_1a, nI_add, q_mul, q_m41, q_41m, q_dn, q_dm10, q_dm11, q_dm12, q_dm13, q_dm14, q_d0m1, q_d01, q_d02, q_d03, q_d04, q_d1m1, q_d10, q_d12, q_d13, q_d14, q_d2m1, q_d20, q_d21, q_d23, q_d24, q_d3m1, q_d30, q_d31, q_d32, q_d34, q_d4m1, q_d40, q_d41, q_d42, q_d43, if_true, if_false, eq_self]
  | succ m ih =>
    intro o f σ1 ho hk hi
    have hT := fxT_cg H hs h hk rfl
    obtain ⟨a1, a2, a3, a4, a5, a6, a7⟩ := hT o (by omega)
    have hk2 : kS (σ1.1, va_up σ1.2.1 5 (upd (σ1.2.1 5) o (nI (df o))), σ1.2.2) = kS σ := by rw [← hk]; rfl
    obtain ⟨b1, b2, b3, b4, b5, b6, b7⟩ := fxT_cg H hs h hk2 rfl o (by omega)
    obtain ⟨A, B, c1, c2⟩ := ih (o + 1) f (σ1.1, va_up (va_up σ1.2.1 5 (upd (σ1.2.1 5) o (nI (df o)))) 6 (upd (σ1.2.1 6) o (nI (kf o))), σ1.2.2) (by omega) (by rw [← hk]; rfl) (by
      intro i hio
      show upd (σ1.2.1 5) o (nI (df o)) i = _ ∧ upd (σ1.2.1 6) o (nI (kf o)) i = _
      by_cases e : i = o
      · subst e; rw [q_us, q_us]; exact ⟨rfl, rfl⟩
      · rw [q_un _ _ e, q_un _ _ e]; exact hi i (by omega))
    refine ⟨A, B, ?_, c2⟩
    rw [show f + (m + 1) + 1 = (f + m + 1) + 1 by omega, e_loop2, F_Fixities_look_Scopes_B2, e_el (by rw [q_41le (by omega)]; omega), e_bnd a4, e_bnd (e_sA (by omega) (by omega)), e_bnd b6, e_bnd (e_sA (by omega) (by omega)), e_bnd (e_pur _ _), nI_1]
    refine c1.trans ?_
    congr 3
    congr 1
    funext a
    by_cases h6 : a = 6
    · subst h6; rw [va_up_self, va_up_self]
    · rw [va_up_ne _ _ h6, va_up_ne _ _ h6]
      by_cases h5 : a = 5
      · subst h5; rw [va_up_self, va_up_self]
      · rw [va_up_ne _ _ h5, va_up_ne _ _ h5]
        show va_up (va_up σ1.2.1 5 _) 6 _ a = _
        rw [va_up_ne _ _ h6, va_up_ne _ _ h5]
theorem l_look0 {σ τ : fx_S} {n s : Nat} {df kf : Nat → Nat} (H : RSn σ τ n) (hs : s < n) (h : fxT s df kf σ τ) : ∃ A B, F_Fixities_look_Scopes (nI s) σ = some ((), (σ.1, va_up (va_up σ.2.1 5 A) 6 B, σ.2.2)) ∧ ∀ i, i < 41 → A i = nI (df i) ∧ B i = nI (kf i) := by
  obtain ⟨A, B, h1, h2⟩ := l_look H hs h 41 0 (fx_fuel - 42) σ rfl rfl (fun i hi => by omega)
  rw [show fx_fuel - 42 + 41 + 1 = fx_fuel by unfold fx_fuel; omega] at h1
  exact ⟨A, B, h1, h2⟩
/-- whether both go on: scope and whole row -/
theorem r_req {σ : fx_S} {n s : Nat} (h : σ.1 18 = nI n) (hn : n ≤ 30) (hs : s < n) : F_FixityTrees_requireScope (nI s) σ = some (.inl (), σ) := by
  simp (disch := omega) only [F_FixityTrees_requireScope, fx_bnd, fx_bndx, e_gI, e_pI, e_rz0, e_rz1, e_ret, e_pur, e_thr, e_if, e_el, s_has h hn hs, q_lt, q_le, q_eq, q_lt0, q_0lt, q_le0, q_0le, q_eq0, q_lt1, q_1lt, q_le1, q_1le, q_eq1, q_lt2, q_2lt, q_le2, q_2le, q_eq2, q_lt3, q_3lt, q_le3, q_3le, q_eq3, q_lt4, q_4lt, q_le4, q_4le, q_eq4, q_lt6, q_6lt, q_le6, q_6le, q_eq6, q_lt10, q_10lt, q_le10, q_10le, q_eq10, q_lt30, q_30lt, q_le30, q_30le, q_eq30, q_lt40, q_40lt, q_le40, q_40le, q_eq40, q_lt41, q_41lt, q_le41, q_41le, q_eq41, q_lt200, q_200lt, q_le200, q_200le, q_eq200, q_lt400, q_400lt, q_le400, q_400le, q_eq400, q_lt600, q_600lt, q_le600, q_600le, q_eq600, q_lt800, q_800lt, q_le800, q_800le, q_eq800, q_lt900, q_900lt, q_le900, q_900le, q_eq900, q_0eq, q_1eq, q_2eq, q_3eq, q_4eq, q_neg, q_m1, q_m1l, q_s1, nI_1, q_1a, nI_add, q_mul, q_m41, q_41m, q_dn, q_dm10, q_dm11, q_dm12, q_dm13, q_dm14, q_d0m1, q_d01, q_d02, q_d03, q_d04, q_d1m1, q_d10, q_d12, q_d13, q_d14, q_d2m1, q_d20, q_d21, q_d23, q_d24, q_d3m1, q_d30, q_d31, q_d32, q_d34, q_d4m1, q_d40, q_d41, q_d42, q_d43, if_true, if_false, eq_self]
theorem r_reqn {σ : fx_S} {n : Nat} {v : Int32} (h : σ.1 18 = nI n) (hn : n ≤ 30) (hv : v < 0 ∨ ∃ j, n ≤ j ∧ j < 2 ^ 31 ∧ v = nI j) : F_FixityTrees_requireScope v σ = some (.inr 0, σ) := by
  simp (disch := omega) only [F_FixityTrees_requireScope, fx_bnd, fx_bndx, e_gI, e_pI, e_rz0, e_rz1, e_ret, e_pur, e_thr, e_if, e_el, s_hasn h hn hv, q_lt, q_le, q_eq, q_lt0, q_0lt, q_le0, q_0le, q_eq0, q_lt1, q_1lt, q_le1, q_1le, q_eq1, q_lt2, q_2lt, q_le2, q_2le, q_eq2, q_lt3, q_3lt, q_le3, q_3le, q_eq3, q_lt4, q_4lt, q_le4, q_4le, q_eq4, q_lt6, q_6lt, q_le6, q_6le, q_eq6, q_lt10, q_10lt, q_le10, q_10le, q_eq10, q_lt30, q_30lt, q_le30, q_30le, q_eq30, q_lt40, q_40lt, q_le40, q_40le, q_eq40, q_lt41, q_41lt, q_le41, q_41le, q_eq41, q_lt200, q_200lt, q_le200, q_200le, q_eq200, q_lt400, q_400lt, q_le400, q_400le, q_eq400, q_lt600, q_600lt, q_le600, q_600le, q_eq600, q_lt800, q_800lt, q_le800, q_800le, q_eq800, q_lt900, q_900lt, q_le900, q_900le, q_eq900, q_0eq, q_1eq, q_2eq, q_3eq, q_4eq, q_neg, q_m1, q_m1l, q_s1, nI_1, q_1a, nI_add, q_mul, q_m41, q_41m, q_dn, q_dm10, q_dm11, q_dm12, q_dm13, q_dm14, q_d0m1, q_d01, q_d02, q_d03, q_d04, q_d1m1, q_d10, q_d12, q_d13, q_d14, q_d2m1, q_d20, q_d21, q_d23, q_d24, q_d3m1, q_d30, q_d31, q_d32, q_d34, q_d4m1, q_d40, q_d41, q_d42, q_d43, if_true, if_false, eq_self]
theorem w_why {σ τ : fx_S} (h : Rel σ τ) (a : Int32) : (F_FixityTrees_requireScope a σ = some (.inr 0, σ) ∧ F_Md_whyNot a τ = some (1, τ)) ∨ (F_FixityTrees_requireScope a σ = some (.inl (), σ) ∧ ((F_FixityTrees_requireWholeRow σ = some (.inr 1, σ) ∧ F_Md_whyNot a τ = some (2, τ)) ∨
    (F_FixityTrees_requireWholeRow σ = some (.inl (), σ) ∧ F_Md_whyNot a τ = some (0, τ) ∧ ∃ n s nr, a = nI s ∧ s < n ∧ RSn σ τ n ∧ rowC (σ.1 117) (σ.1 118) (σ.2.1 8) (σ.2.1 9) (σ.2.1 10) (σ.2.2 11) (σ.2.1 12) nr ∧ rowR (τ.1 5) (τ.1 10) (τ.2.1 4) (τ.2.1 5) (τ.2.2 6) (τ.2.1 7) (σ.2.1 8) (σ.2.1 10) (σ.2.2 11) nr ∧ (σ.1 119 = τ.1 6 ∧ (τ.1 6 = 0 ∨ τ.1 6 = 1)) ∧ ¬ dueA (σ.2.1 8) nr ∧ stk (σ.2.1 8) nr = []))) := by
  obtain ⟨⟨n, HS⟩, ⟨nr, hC, hR, hp⟩, HC, HT, HW⟩ := id h
  obtain ⟨h1, h30, hz, hz', -⟩ := id HS
  rcases q_idx a n with ⟨s, hs, -, rfl⟩ | hbad
  · refine Or.inr ⟨r_req hz h30 hs, ?_⟩
    have hd40 := hC.2.2.2.1 nr (Nat.le_refl _)
    have hzo := hC.2.2.1
    have hzo' := hR.2.1
    rcases m_due hR.1 hC.1 (fun j hj => (hR.2.2.1 j hj).1) hC.2.2.2.2.1 with ⟨d1, d2⟩ | ⟨d1, d2⟩
    · rcases r_due hC.2.1 hC.1 hC.2.2.2.2.1 with ⟨c1, -⟩ | ⟨-, c2⟩
      · refine Or.inl ⟨?_, ?_⟩
        · rw [F_FixityTrees_requireWholeRow, e_bnd c1, e_el (by decide)]; rfl
        · rw [F_Md_whyNot, e_bnd (s_isc hz' h30 hs), e_el (by decide), e_bnd d1, e_el (by decide)]; rfl
      · exact absurd d2 c2
    · rcases r_due hC.2.1 hC.1 hC.2.2.2.2.1 with ⟨-, c2⟩ | ⟨c1, -⟩
      · exact absurd c2 d2
      · by_cases q : (stk (σ.2.1 8) nr).length = 0
        · refine Or.inr ⟨?_, ?_, n, s, nr, rfl, hs, HS, hC, hR, hp, d2, List.eq_nil_of_length_eq_zero q⟩
          · rw [F_FixityTrees_requireWholeRow, e_bnd c1, e_if rfl, F_Row_openSize]
            simp (disch := omega) only [fx_bnd, fx_bndx, e_gI, e_pI, e_rz0, e_rz1, e_ret, e_pur, e_thr, e_if, e_el, hzo, q_lt, q_le, q_eq, q_lt0, q_0lt, q_le0, q_0le, q_eq0, q_lt1, q_1lt, q_le1, q_1le, q_eq1, q_lt2, q_2lt, q_le2, q_2le, q_eq2, q_lt3, q_3lt, q_le3, q_3le, q_eq3, q_lt4, q_4lt, q_le4, q_4le, q_eq4, q_lt6, q_6lt, q_le6, q_6le, q_eq6, q_lt10, q_10lt, q_le10, q_10le, q_eq10, q_lt30, q_30lt, q_le30, q_30le, q_eq30, q_lt40, q_40lt, q_le40, q_40le, q_eq40, q_lt41, q_41lt, q_le41, q_41le, q_eq41, q_lt200, q_200lt, q_le200, q_200le, q_eq200, q_lt400, q_400lt, q_le400, q_400le, q_eq400, q_lt600, q_600lt, q_le600, q_600le, q_eq600, q_lt800, q_800lt, q_le800, q_800le, q_eq800, q_lt900, q_900lt, q_le900, q_900le, q_eq900, q_0eq, q_1eq, q_2eq, q_3eq, q_4eq, q_neg, q_m1, q_m1l, q_s1, nI_1, q_1a, nI_add, q_mul, q_m41, q_41m, q_dn, q_dm10, q_dm11, q_dm12, q_dm13, q_dm14, q_d0m1, q_d01, q_d02, q_d03, q_d04, q_d1m1, q_d10, q_d12, q_d13, q_d14, q_d2m1, q_d20, q_d21, q_d23, q_d24, q_d3m1, q_d30, q_d31, q_d32, q_d34, q_d4m1, q_d40, q_d41, q_d42, q_d43, if_true, if_false, eq_self, q]
          · rw [F_Md_whyNot, e_bnd (s_isc hz' h30 hs), e_el (by decide), e_bnd d1, e_if rfl, e_bnd (e_gI _ _), hzo', q]; rfl
        · refine Or.inl ⟨?_, ?_⟩
          · rw [F_FixityTrees_requireWholeRow, e_bnd c1, e_if rfl, F_Row_openSize]
            simp (disch := omega) only [fx_bnd, fx_bndx, e_gI, e_pI, e_rz0, e_rz1, e_ret, e_pur, e_thr, e_if, e_el, hzo, q_lt, q_le, q_eq, q_lt0, q_0lt, q_le0, q_0le, q_eq0, q_lt1, q_1lt, q_le1, q_1le, q_eq1, q_lt2, q_2lt, q_le2, q_2le, q_eq2, q_lt3, q_3lt, q_le3, q_3le, q_eq3, q_lt4, q_4lt, q_le4, q_4le, q_eq4, q_lt6, q_6lt, q_le6, q_6le, q_eq6, q_lt10, q_10lt, q_le10, q_10le, q_eq10, q_lt30, q_30lt, q_le30, q_30le, q_eq30, q_lt40, q_40lt, q_le40, q_40le, q_eq40, q_lt41, q_41lt, q_le41, q_41le, q_eq41, q_lt200, q_200lt, q_le200, q_200le, q_eq200, q_lt400, q_400lt, q_le400, q_400le, q_eq400, q_lt600, q_600lt, q_le600, q_600le, q_eq600, q_lt800, q_800lt, q_le800, q_800le, q_eq800, q_lt900, q_900lt, q_le900, q_900le, q_eq900, q_0eq, q_1eq, q_2eq, q_3eq, q_4eq, q_neg, q_m1, q_m1l, q_s1, nI_1, q_1a, nI_add, q_mul, q_m41, q_41m, q_dn, q_dm10, q_dm11, q_dm12, q_dm13, q_dm14, q_d0m1, q_d01, q_d02, q_d03, q_d04, q_d1m1, q_d10, q_d12, q_d13, q_d14, q_d2m1, q_d20, q_d21, q_d23, q_d24, q_d3m1, q_d30, q_d31, q_d32, q_d34, q_d4m1, q_d40, q_d41, q_d42, q_d43, if_true, if_false, eq_self]
          · rw [F_Md_whyNot, e_bnd (s_isc hz' h30 hs), e_el (by decide), e_bnd d1, e_if rfl, e_bnd (e_gI _ _), hzo', e_el (by rw [q_le0 (by omega)]; omega)]; rfl
  · refine Or.inl ⟨r_reqn hz h30 hbad, ?_⟩
    rw [F_Md_whyNot, e_bnd (s_iscn hz' h1 h30 hbad), e_if rfl]; rfl
/-! STACKS -/
def SK (z : Int32) (A : Nat → Int32) (l : List Nat) : Prop := z = nI l.length ∧ ∀ e x, l.reverse[e]? = some x → A e = nI x
theorem SK_push {z : Int32} {A : Nat → Int32} {l : List Nat} (h : SK z A l) (x : Nat) : SK (nI (l.length + 1)) (upd A l.length (nI x)) (x :: l) := by
  refine ⟨by rw [List.length_cons], fun e y hy => ?_⟩
  rcases rev_hd hy with ⟨rfl, rfl⟩ | ⟨h5, h6⟩
  · rw [q_us]
  · rw [q_un _ _ (by omega)]; exact h.2 e y h6
theorem SK_pop {z : Int32} {A : Nat → Int32} {l : List Nat} {x : Nat} (h : SK z A (x :: l)) : SK (nI l.length) A l ∧ A l.length = nI x := by
  refine ⟨⟨rfl, fun e y hy => h.2 e y ?_⟩, h.2 _ _ rev_hd'⟩
  have h5 : e < l.length := by
    have := (List.getElem?_eq_some_iff.mp hy).1
    rwa [List.length_reverse] at this
  rw [List.reverse_cons, List.getElem?_append_left (by rw [List.length_reverse]; exact h5)]; exact hy
theorem SK_nil {A : Nat → Int32} : SK 0 A [] := ⟨rfl, fun e x h => by simp at h⟩
theorem k_pop0 {σ : fx_S} {l : List Nat} {x : Nat} (h : SK (σ.1 225) (σ.2.1 15) (x :: l)) (hl : l.length < 200) : F_IntStack0_pop σ = some (nI x, (va_up σ.1 225 (nI l.length), σ.2.1, σ.2.2)) := by
  have hz := h.1
  rw [List.length_cons] at hz
  rw [F_IntStack0_pop, e_bnd (e_gI _ _), hz, e_if (by rw [q_0lt (by omega)]; omega), e_bnd (e_gI _ _), hz, q_s1 (by omega), Nat.add_sub_cancel, e_bnd (e_pI _ _ _), e_bnd (e_gI _ _)]
  show fx_bnd (fx_lA 15 200 (va_up σ.1 225 (nI l.length) 225)) _ _ = _
  rw [va_up_self, e_bnd (e_lA hl (by omega))]
  show some (σ.2.1 15 l.length, _) = _
  rw [(SK_pop h).2]
theorem k_pop1 {σ : fx_S} {l : List Nat} {x : Nat} (h : SK (σ.1 257) (σ.2.1 17) (x :: l)) (hl : l.length < 200) : F_IntStack1_pop σ = some (nI x, (va_up σ.1 257 (nI l.length), σ.2.1, σ.2.2)) := by
  have hz := h.1
  rw [List.length_cons] at hz
  rw [F_IntStack1_pop, e_bnd (e_gI _ _), hz, e_if (by rw [q_0lt (by omega)]; omega), e_bnd (e_gI _ _), hz, q_s1 (by omega), Nat.add_sub_cancel, e_bnd (e_pI _ _ _), e_bnd (e_gI _ _)]
  show fx_bnd (fx_lA 17 200 (va_up σ.1 257 (nI l.length) 257)) _ _ = _
  rw [va_up_self, e_bnd (e_lA hl (by omega))]
  show some (σ.2.1 17 l.length, _) = _
  rw [(SK_pop h).2]
theorem k_pop2 {σ : fx_S} {l : List Nat} {x : Nat} (h : SK (σ.1 289) (σ.2.1 19) (x :: l)) (hl : l.length < 200) : F_IntStack2_pop σ = some (nI x, (va_up σ.1 289 (nI l.length), σ.2.1, σ.2.2)) := by
  have hz := h.1
  rw [List.length_cons] at hz
  rw [F_IntStack2_pop, e_bnd (e_gI _ _), hz, e_if (by rw [q_0lt (by omega)]; omega), e_bnd (e_gI _ _), hz, q_s1 (by omega), Nat.add_sub_cancel, e_bnd (e_pI _ _ _), e_bnd (e_gI _ _)]
  show fx_bnd (fx_lA 19 200 (va_up σ.1 289 (nI l.length) 289)) _ _ = _
  rw [va_up_self, e_bnd (e_lA hl (by omega))]
  show some (σ.2.1 19 l.length, _) = _
  rw [(SK_pop h).2]
theorem k_pop3 {σ : fx_S} {l : List Nat} {x : Nat} (h : SK (σ.1 321) (σ.2.1 21) (x :: l)) (hl : l.length < 200) : F_IntStack3_pop σ = some (nI x, (va_up σ.1 321 (nI l.length), σ.2.1, σ.2.2)) := by
  have hz := h.1
  rw [List.length_cons] at hz
  rw [F_IntStack3_pop, e_bnd (e_gI _ _), hz, e_if (by rw [q_0lt (by omega)]; omega), e_bnd (e_gI _ _), hz, q_s1 (by omega), Nat.add_sub_cancel, e_bnd (e_pI _ _ _), e_bnd (e_gI _ _)]
  show fx_bnd (fx_lA 21 200 (va_up σ.1 321 (nI l.length) 321)) _ _ = _
  rw [va_up_self, e_bnd (e_lA hl (by omega))]
  show some (σ.2.1 21 l.length, _) = _
  rw [(SK_pop h).2]
theorem k_push0 {σ : fx_S} {l : List Nat} (h : SK (σ.1 225) (σ.2.1 15) l) (hl : l.length < 200) (x : Nat) : F_IntStack0_push (nI x) σ = some ((), (va_up σ.1 225 (nI (l.length + 1)), va_up σ.2.1 15 (upd (σ.2.1 15) l.length (nI x)), σ.2.2)) := by
  have hz := h.1
  rw [F_IntStack0_push, e_bnd (e_gI _ _), hz, e_el (by rw [q_200le (by omega)]; omega), e_bnd (e_gI _ _), hz, e_bnd (e_sA hl (by omega)), e_bnd (e_gI _ _)]
  show fx_bnd (fx_pI 225 (σ.1 225 + 1)) _ _ = _
  rw [hz, nI_1]; rfl
theorem k_push1 {σ : fx_S} {l : List Nat} (h : SK (σ.1 257) (σ.2.1 17) l) (hl : l.length < 200) (x : Nat) : F_IntStack1_push (nI x) σ = some ((), (va_up σ.1 257 (nI (l.length + 1)), va_up σ.2.1 17 (upd (σ.2.1 17) l.length (nI x)), σ.2.2)) := by
  have hz := h.1
  rw [F_IntStack1_push, e_bnd (e_gI _ _), hz, e_el (by rw [q_200le (by omega)]; omega), e_bnd (e_gI _ _), hz, e_bnd (e_sA hl (by omega)), e_bnd (e_gI _ _)]
  show fx_bnd (fx_pI 257 (σ.1 257 + 1)) _ _ = _
  rw [hz, nI_1]; rfl
theorem k_push2 {σ : fx_S} {l : List Nat} (h : SK (σ.1 289) (σ.2.1 19) l) (hl : l.length < 200) (x : Nat) : F_IntStack2_push (nI x) σ = some ((), (va_up σ.1 289 (nI (l.length + 1)), va_up σ.2.1 19 (upd (σ.2.1 19) l.length (nI x)), σ.2.2)) := by
  have hz := h.1
  rw [F_IntStack2_push, e_bnd (e_gI _ _), hz, e_el (by rw [q_200le (by omega)]; omega), e_bnd (e_gI _ _), hz, e_bnd (e_sA hl (by omega)), e_bnd (e_gI _ _)]
  show fx_bnd (fx_pI 289 (σ.1 289 + 1)) _ _ = _
  rw [hz, nI_1]; rfl
theorem k_push3 {σ : fx_S} {l : List Nat} (h : SK (σ.1 321) (σ.2.1 21) l) (hl : l.length < 200) (x : Nat) : F_IntStack3_push (nI x) σ = some ((), (va_up σ.1 321 (nI (l.length + 1)), va_up σ.2.1 21 (upd (σ.2.1 21) l.length (nI x)), σ.2.2)) := by
  have hz := h.1
  rw [F_IntStack3_push, e_bnd (e_gI _ _), hz, e_el (by rw [q_200le (by omega)]; omega), e_bnd (e_gI _ _), hz, e_bnd (e_sA hl (by omega)), e_bnd (e_gI _ _)]
  show fx_bnd (fx_pI 321 (σ.1 321 + 1)) _ _ = _
  rw [hz, nI_1]; rfl
theorem k_top0 {σ : fx_S} {l : List Nat} {x : Nat} (h : SK (σ.1 225) (σ.2.1 15) (x :: l)) (hl : l.length < 200) : F_IntStack0_top σ = some (nI x, σ) := by
  have hz := h.1
  rw [List.length_cons] at hz
  rw [F_IntStack0_top, e_bnd (e_gI _ _), hz, e_el (by rw [q_le0 (by omega)]; omega), e_bnd (e_gI _ _), hz, q_s1 (by omega), Nat.add_sub_cancel, e_bnd (e_lA hl (by omega)), (SK_pop h).2]; rfl
theorem k_top1 {σ : fx_S} {l : List Nat} {x : Nat} (h : SK (σ.1 257) (σ.2.1 17) (x :: l)) (hl : l.length < 200) : F_IntStack1_top σ = some (nI x, σ) := by
  have hz := h.1
  rw [List.length_cons] at hz
  rw [F_IntStack1_top, e_bnd (e_gI _ _), hz, e_el (by rw [q_le0 (by omega)]; omega), e_bnd (e_gI _ _), hz, q_s1 (by omega), Nat.add_sub_cancel, e_bnd (e_lA hl (by omega)), (SK_pop h).2]; rfl
theorem k_top2 {σ : fx_S} {l : List Nat} {x : Nat} (h : SK (σ.1 289) (σ.2.1 19) (x :: l)) (hl : l.length < 200) : F_IntStack2_top σ = some (nI x, σ) := by
  have hz := h.1
  rw [List.length_cons] at hz
  rw [F_IntStack2_top, e_bnd (e_gI _ _), hz, e_el (by rw [q_le0 (by omega)]; omega), e_bnd (e_gI _ _), hz, q_s1 (by omega), Nat.add_sub_cancel, e_bnd (e_lA hl (by omega)), (SK_pop h).2]; rfl
/-- whether one of the group waits -/
theorem k_one {σ : fx_S} {l : List Nat} {b : List Nat} {x : Nat} (h : σ.1 225 = nI l.length) (hl : l.length < 2 ^ 31) (h1 : SK (σ.1 257) (σ.2.1 17) (x :: b)) (hb : b.length < 200) (hx : x < 2 ^ 31) : F_Resolver_oneWaits σ = some (if l.length ≤ x then 0 else 1, σ) := by
  have e1 : F_IntStack0_size σ = some (nI l.length, σ) := by rw [F_IntStack0_size, e_bnd (e_gI _ _), h]; rfl
  rw [F_Resolver_oneWaits, e_bnd e1, e_bnd (k_top1 h1 hb)]
  by_cases q : l.length ≤ x
  · rw [e_if ((q_le hl hx).mpr q), if_pos q]; rfl
  · rw [e_el (fun z => q ((q_le hl hx).mp z)), if_neg q]; rfl
/-! SPANS AND THEIR TREES -/
/-- the bracket at a closes at b -/
def mtc (K : Nat → Int32) (a b : Nat) : Prop := K b = 4 ∧ ∃ s, stk K b = a :: s
/-- p may wait while x comes -/
def lowA (rk sd : Nat → Nat) (p x : Nat) : Prop := rk p < rk x ∨ (rk p = rk x ∧ sd x ≠ 0)
/-- x is done as p comes -/
def hiA (rk sd : Nat → Nat) (x p : Nat) : Prop := rk p < rk x ∨ (rk x = rk p ∧ sd p = 0)
/-- what the class keeps of the node at place p -/
def ndA (T : Nat → Nat → Int32) (p : Nat) (x y : Int32) (z h : Nat) : Prop := T 22 p = x ∧ T 23 p = y ∧ T 24 p = nI z ∧ T 25 p = nI h
/-- the span from a to b has the tree of root p, of z nodes, of height h; ts: its items that are in no bracket of it -/
def SP (K : Nat → Int32) (rk sd : Nat → Nat) (T : Nat → Nat → Int32) : Nat → Nat → Nat → Nat → Nat → Nat → List Nat → Prop
  | 0, _, _, _, _, _, _ => False
  | f + 1, a, b, p, z, h, ts =>
    (a = b ∧ K a = 0 ∧ p = a ∧ z = 1 ∧ h = 1 ∧ ts = [] ∧ ndA T p (-1) (-1) z h) ∨
    (K a = 3 ∧ a < b ∧ mtc K a b ∧ ts = [] ∧
      ((¬ K (a + 1) = 1 ∧ ¬ K (b - 1) = 1 ∧ ∃ t, SP K rk sd T f (a + 1) (b - 1) p z h t) ∨
       (K (a + 1) = 1 ∧ p = a + 1 ∧ ∃ q z1 h1 t, SP K rk sd T f (a + 2) (b - 1) q z1 h1 t ∧ z = 1 + z1 ∧ h = 1 + h1 ∧ ndA T p (nI q) (-1) z h) ∨
       (¬ K (a + 1) = 1 ∧ K (b - 1) = 1 ∧ p = b - 1 ∧ ∃ q z1 h1 t, SP K rk sd T f (a + 1) (b - 2) q z1 h1 t ∧ z = 1 + z1 ∧ h = 1 + h1 ∧ ndA T p (nI q) (-1) z h))) ∨
    (p = a ∧ K p = 2 ∧ a < b ∧ ∃ q z1 h1 t, SP K rk sd T f (a + 1) b q z1 h1 t ∧ (∀ x ∈ t, lowA rk sd p x) ∧ ts = p :: t ∧ z = 1 + z1 ∧ h = 1 + h1 ∧ ndA T p (nI q) (-1) z h) ∨
    (a < p ∧ p < b ∧ K p = 1 ∧ ∃ q1 z1 h1 t1 q2 z2 h2 t2, SP K rk sd T f a (p - 1) q1 z1 h1 t1 ∧ SP K rk sd T f (p + 1) b q2 z2 h2 t2 ∧ (∀ x ∈ t1, hiA rk sd x p) ∧ (∀ x ∈ t2, lowA rk sd p x) ∧ ts = t1 ++ p :: t2 ∧ z = 1 + z1 + z2 ∧ h = 1 + max h1 h2 ∧ ndA T p (nI q1) (nI q2) z h)
section SPA
variable {K : Nat → Int32} {rk sd : Nat → Nat} {T T' : Nat → Nat → Int32}
theorem SP_mono : ∀ {f a b p z h : Nat} {ts : List Nat}, SP K rk sd T f a b p z h ts → SP K rk sd T (f + 1) a b p z h ts
  | 0, _, _, _, _, _, _, H => H.elim
  | f + 1, a, b, p, z, h, ts, H => by
    unfold SP at H ⊢
    rcases H with H | ⟨h1, h2, h3, h4, H⟩ | ⟨h1, h2, h3, q, z1, h1', t, H, h4⟩ | ⟨h1, h2, h3, q1, z1, h1', t1, q2, z2, h2', t2, H1, H2, h4⟩
    · exact Or.inl H
    · refine Or.inr (Or.inl ⟨h1, h2, h3, h4, ?_⟩)
      rcases H with ⟨g1, g2, t, H⟩ | ⟨g1, g2, q, z1, h1', t, H, h4⟩ | ⟨g1, g2, g3, q, z1, h1', t, H, h4⟩
      · exact Or.inl ⟨g1, g2, t, SP_mono H⟩
      · exact Or.inr (Or.inl ⟨g1, g2, q, z1, h1', t, SP_mono H, h4⟩)
      · exact Or.inr (Or.inr ⟨g1, g2, g3, q, z1, h1', t, SP_mono H, h4⟩)
    · exact Or.inr (Or.inr (Or.inl ⟨h1, h2, h3, q, z1, h1', t, SP_mono H, h4⟩))
    · exact Or.inr (Or.inr (Or.inr ⟨h1, h2, h3, q1, z1, h1', t1, q2, z2, h2', t2, SP_mono H1, SP_mono H2, h4⟩))
theorem SP_le {f f' a b p z h : Nat} {ts : List Nat} (hf : f ≤ f') (H : SP K rk sd T f a b p z h ts) : SP K rk sd T f' a b p z h ts := by
  induction hf with
  | refl => exact H
  | step _ ih => exact SP_mono ih
theorem ndA_cg {p : Nat} {x y : Int32} {z h : Nat} (e : T' 22 p = T 22 p ∧ T' 23 p = T 23 p ∧ T' 24 p = T 24 p ∧ T' 25 p = T 25 p) (H : ndA T p x y z h) : ndA T' p x y z h := by
  unfold ndA at *
  rw [e.1, e.2.1, e.2.2.1, e.2.2.2]; exact H
/-- ends, sizes -/
theorem SP_io : ∀ {f a b p z h : Nat} {ts : List Nat}, SP K rk sd T f a b p z h ts → (K a = 0 ∨ K a = 2 ∨ K a = 3) ∧ (K b = 0 ∨ K b = 4) ∧ a ≤ b ∧ a ≤ p ∧ p ≤ b ∧ 1 ≤ z ∧ z ≤ b + 1 - a ∧ 1 ≤ h ∧ h ≤ z
  | 0, _, _, _, _, _, _, H => H.elim
  | f + 1, a, b, p, z, h, ts, H => by
    unfold SP at H
    rcases H with ⟨rfl, h2, rfl, rfl, rfl, -⟩ | ⟨h1, h2, h3, h4, H⟩ | ⟨rfl, h2, h3, q, z1, h1', t, H, h4, h5, rfl, rfl, -⟩ | ⟨h1, h2, h3, q1, z1, h1', t1, q2, z2, h2', t2, H1, H2, h4, h5, h6, rfl, rfl, -⟩
    · exact ⟨Or.inl h2, Or.inl h2, by omega, by omega, by omega, by omega, by omega, by omega, by omega⟩
    · refine ⟨Or.inr (Or.inr h1), Or.inr h3.1, ?_⟩
      rcases H with ⟨g1, g2, t, H⟩ | ⟨g1, g2, q, z1, h1', t, H, rfl, rfl, -⟩ | ⟨g1, g2, g3, q, z1, h1', t, H, rfl, rfl, -⟩
      · have := SP_io H; omega
      · have := SP_io H; omega
      · have := SP_io H; omega
    · have ih := SP_io H
      exact ⟨Or.inr (Or.inl h2), ih.2.1, by omega, by omega, by omega, by omega, by omega, by omega, by omega⟩
    · have i1 := SP_io H1
      have i2 := SP_io H2
      refine ⟨i1.1, i2.2.1, by omega, by omega, by omega, by omega, by omega, by omega, ?_⟩
      have : max h1' h2' ≤ z1 + z2 := by
        rcases Nat.le_total h1' h2' with q | q
        · rw [Nat.max_eq_right q]; omega
        · rw [Nat.max_eq_left q]; omega
      omega
theorem SP_cg : ∀ {f a b p z h : Nat} {ts : List Nat}, (∀ i, a ≤ i → i ≤ b → T' 22 i = T 22 i ∧ T' 23 i = T 23 i ∧ T' 24 i = T 24 i ∧ T' 25 i = T 25 i) → SP K rk sd T f a b p z h ts → SP K rk sd T' f a b p z h ts
  | 0, _, _, _, _, _, _, _, H => H.elim
  | f + 1, a, b, p, z, h, ts, e, H => by
    have io := SP_io H
    unfold SP at H ⊢
    rcases H with ⟨h1, h2, h3, h4, h5, h6, H⟩ | ⟨h1, h2, h3, h4, H⟩ | ⟨h1, h2, h3, q, z1, h1', t, H, h4, h5, h6, h7, h8⟩ | ⟨h1, h2, h3, q1, z1, h1', t1, q2, z2, h2', t2, H1, H2, h4, h5, h6, h7, h8, h9⟩
    · exact Or.inl ⟨h1, h2, h3, h4, h5, h6, ndA_cg (e p (by omega) (by omega)) H⟩
    · refine Or.inr (Or.inl ⟨h1, h2, h3, h4, ?_⟩)
      rcases H with ⟨g1, g2, t, H⟩ | ⟨g1, g2, q, z1, h1', t, H, h4, h5, h6⟩ | ⟨g1, g2, g3, q, z1, h1', t, H, h4, h5, h6⟩
      · exact Or.inl ⟨g1, g2, t, SP_cg (fun i q1 q2 => e i (by omega) (by omega)) H⟩
      · exact Or.inr (Or.inl ⟨g1, g2, q, z1, h1', t, SP_cg (fun i q1 q2 => e i (by omega) (by omega)) H, h4, h5, ndA_cg (e p (by omega) (by omega)) h6⟩)
      · exact Or.inr (Or.inr ⟨g1, g2, g3, q, z1, h1', t, SP_cg (fun i q1 q2 => e i (by omega) (by omega)) H, h4, h5, ndA_cg (e p (by omega) (by omega)) h6⟩)
    · exact Or.inr (Or.inr (Or.inl ⟨h1, h2, h3, q, z1, h1', t, SP_cg (fun i q1 q2 => e i (by omega) (by omega)) H, h4, h5, h6, h7, ndA_cg (e p (by omega) (by omega)) h8⟩))
    · exact Or.inr (Or.inr (Or.inr ⟨h1, h2, h3, q1, z1, h1', t1, q2, z2, h2', t2, SP_cg (fun i q1 q2 => e i (by omega) (by omega)) H1, SP_cg (fun i q1 q2 => e i (by omega) (by omega)) H2, h4, h5, h6, h7, h8, ndA_cg (e p (by omega) (by omega)) h9⟩))
theorem SP_open : ∀ {f a b p z h : Nat} {ts : List Nat}, SP K rk sd T f a b p z h ts → K a = 3 → ∃ b', b' ≤ b ∧ a < b' ∧ mtc K a b'
  | 0, _, _, _, _, _, _, H, _ => H.elim
  | f + 1, a, b, p, z, h, ts, H, h0 => by
    unfold SP at H
    rcases H with ⟨h1, h2, -⟩ | ⟨h1, h2, h3, -⟩ | ⟨h1, h2, -⟩ | ⟨h1, h2, h3, q1, z1, h1', t1, q2, z2, h2', t2, H1, H2, -⟩
    · rw [h2] at h0; exact absurd h0 (by decide)
    · exact ⟨b, Nat.le_refl _, h2, h3⟩
    · rw [← h1, h2] at h0; exact absurd h0 (by decide)
    · obtain ⟨b', g1, g2, g3⟩ := SP_open H1 h0
      exact ⟨b', by omega, g2, g3⟩
/-- the node at the root is in the tables -/
theorem SP_nd : ∀ {f a b p z h : Nat} {ts : List Nat}, SP K rk sd T f a b p z h ts → T 24 p = nI z ∧ T 25 p = nI h
  | 0, _, _, _, _, _, _, H => H.elim
  | f + 1, a, b, p, z, h, ts, H => by
    unfold SP at H
    rcases H with ⟨-, -, -, -, -, -, H⟩ | ⟨-, -, -, -, H⟩ | ⟨-, -, -, q, z1, h1', t, -, -, -, -, -, H⟩ | ⟨-, -, -, q1, z1, h1', t1, q2, z2, h2', t2, -, -, -, -, -, -, -, H⟩
    · exact H.2.2
    · rcases H with ⟨-, -, t, H⟩ | ⟨-, -, q, z1, h1', t, -, -, -, H⟩ | ⟨-, -, -, q, z1, h1', t, -, -, -, H⟩
      · exact SP_nd H
      · exact H.2.2
      · exact H.2.2
    · exact H.2.2
    · exact H.2.2
end SPA
/-! FINISH, and the class's context -/
/-- what of the class's state a run of the resolver may change -/
def frC (σ σ' : fx_S) : Prop := (∀ r, r < 200 ∨ 400 < r → σ'.1 r = σ.1 r) ∧ (∀ a, a < 13 ∨ 25 < a → σ'.2.1 a = σ.2.1 a) ∧ σ'.2.2 = σ.2.2
theorem frC_rfl {σ : fx_S} : frC σ σ := ⟨fun _ _ => rfl, fun _ _ => rfl, rfl⟩
theorem frC_tr {σ σ' σ'' : fx_S} (h : frC σ σ') (g : frC σ' σ'') : frC σ σ'' := ⟨fun r q => (g.1 r q).trans (h.1 r q), fun a q => (g.2.1 a q).trans (h.2.1 a q), g.2.2.trans h.2.2⟩
/-- what the class reads all the time -/
def cxC (K O : Nat → Int32) (n : Nat) (pt : Int32) (rk sd : Nat → Nat) (σ : fx_S) : Prop :=
  n ≤ 200 ∧ σ.1 117 = nI n ∧ σ.1 119 = pt ∧ (pt = 0 ∨ pt = 1) ∧ σ.2.1 8 = K ∧ σ.2.1 10 = O ∧ (∀ j, j < n → σ.2.1 9 j = nkA K n j) ∧ (∀ j, j < n → K j = 1 ∨ K j = 2 → ∃ o, o < 41 ∧ O j = nI o ∧ σ.2.1 6 o = nI (rk j) ∧ σ.2.1 5 o = nI (sd j) ∧ rk j < 10 ∧ sd j < 3 ∧ (K j = 2 → rk j = 6))
theorem cxC_fr {K O : Nat → Int32} {n : Nat} {pt : Int32} {rk sd : Nat → Nat} {σ σ' : fx_S} (h : cxC K O n pt rk sd σ) (g : frC σ σ') : cxC K O n pt rk sd σ' := by
  unfold cxC at *
  rw [g.1 117 (by omega), g.1 119 (by omega), g.2.1 8 (by omega), g.2.1 10 (by omega), g.2.1 9 (by omega), g.2.1 6 (by omega), g.2.1 5 (by omega)]
  exact h
section CXC
variable {K O : Nat → Int32} {n : Nat} {pt : Int32} {rk sd : Nat → Nat} {σ : fx_S}
theorem c_has (X : cxC K O n pt rk sd σ) {j : Nat} (hj : j < n) : F_Row_has (nI j) σ = some (1, σ) := by
  obtain ⟨h1, h2, -⟩ := X
  simp (disch := omega) only [F_Row_has, fx_bnd, fx_bndx, e_gI, e_pI, e_rz0, e_rz1, e_ret, e_pur, e_thr, e_if, e_el, h2, q_lt, q_le, q_eq, q_lt0, q_0lt, q_le0, q_0le, q_eq0, q_lt1, q_1lt, q_le1, q_1le, q_eq1, q_lt2, q_2lt, q_le2, q_2le, q_eq2, q_lt3, q_3lt, q_le3, q_3le, q_eq3, q_lt4, q_4lt, q_le4, q_4le, q_eq4, q_lt6, q_6lt, q_le6, q_6le, q_eq6, q_lt10, q_10lt, q_le10, q_10le, q_eq10, q_lt30, q_30lt, q_le30, q_30le, q_eq30, q_lt40, q_40lt, q_le40, q_40le, q_eq40, q_lt41, q_41lt, q_le41, q_41le, q_eq41, q_lt200, q_200lt, q_le200, q_200le, q_eq200, q_lt400, q_400lt, q_le400, q_400le, q_eq400, q_lt600, q_600lt, q_le600, q_600le, q_eq600, q_lt800, q_800lt, q_le800, q_800le, q_eq800, q_lt900, q_900lt, q_le900, q_900le, q_eq900, q_0eq, q_1eq, q_2eq, q_3eq, q_4eq, q_neg, q_m1, q_m1l, q_s1, nI_1, q_1a, nI_add, q_mul, q_m41, q_41m, q_dn, q_dm10, q_dm11, q_dm12, q_dm13, q_dm14, q_d0m1, q_d01, q_d02, q_d03, q_d04, q_d1m1, q_d10, q_d12, q_d13, q_d14, q_d2m1, q_d20, q_d21, q_d23, q_d24, q_d3m1, q_d30, q_d31, q_d32, q_d34, q_d4m1, q_d40, q_d41, q_d42, q_d43, if_true, if_false, eq_self]
theorem c_nk (X : cxC K O n pt rk sd σ) {j : Nat} (hj : j < n) : F_Row_nodeKindAt (nI j) σ = some (nkA K n j, σ) := by
  have hn := X.1
  rw [F_Row_nodeKindAt, e_bnd (c_has X hj), e_el (by decide), e_bnd (e_lA (by omega) (by omega)), X.2.2.2.2.2.2.1 j hj]; rfl
theorem c_op (X : cxC K O n pt rk sd σ) {j : Nat} (hj : j < n) : F_Row_operatorAt (nI j) σ = some (O j, σ) := by
  have hn := X.1
  rw [F_Row_operatorAt, e_bnd (c_has X hj), e_el (by decide), e_bnd (e_lA (by omega) (by omega)), X.2.2.2.2.2.1]; rfl
theorem c_rank (X : cxC K O n pt rk sd σ) {j : Nat} (hj : j < n) (hk : K j = 1 ∨ K j = 2) : F_Resolver_rankAt (nI j) σ = some (nI (rk j), σ) := by
  obtain ⟨o, ho, h1, h2, h3, -⟩ := X.2.2.2.2.2.2.2 j hj hk
  rw [F_Resolver_rankAt, e_bnd (c_op X hj), h1, F_Fixities_rankOf]
  simp (disch := omega) only [fx_bnd, fx_bndx, e_gI, e_pI, e_rz0, e_rz1, e_ret, e_pur, e_thr, e_if, e_el, s_op ho, q_lt, q_le, q_eq, q_lt0, q_0lt, q_le0, q_0le, q_eq0, q_lt1, q_1lt, q_le1, q_1le, q_eq1, q_lt2, q_2lt, q_le2, q_2le, q_eq2, q_lt3, q_3lt, q_le3, q_3le, q_eq3, q_lt4, q_4lt, q_le4, q_4le, q_eq4, q_lt6, q_6lt, q_le6, q_6le, q_eq6, q_lt10, q_10lt, q_le10, q_10le, q_eq10, q_lt30, q_30lt, q_le30, q_30le, q_eq30, q_lt40, q_40lt, q_le40, q_40le, q_eq40, q_lt41, q_41lt, q_le41, q_41le, q_eq41, q_lt200, q_200lt, q_le200, q_200le, q_eq200, q_lt400, q_400lt, q_le400, q_400le, q_eq400, q_lt600, q_600lt, q_le600, q_600le, q_eq600, q_lt800, q_800lt, q_le800, q_800le, q_eq800, q_lt900, q_900lt, q_le900, q_900le, q_eq900, q_0eq, q_1eq, q_2eq, q_3eq, q_4eq, q_neg, q_m1, q_m1l, q_s1, nI_1, q_1a, nI_add, q_mul, q_m41, q_41m, q_dn, q_dm10, q_dm11, q_dm12, q_dm13, q_dm14, q_d0m1, q_d01, q_d02, q_d03, q_d04, q_d1m1, q_d10, q_d12, q_d13, q_d14, q_d2m1, q_d20, q_d21, q_d23, q_d24, q_d3m1, q_d30, q_d31, q_d32, q_d34, q_d4m1, q_d40, q_d41, q_d42, q_d43, if_true, if_false, eq_self, e_lA, h2]
theorem c_side (X : cxC K O n pt rk sd σ) {j : Nat} (hj : j < n) (hk : K j = 1 ∨ K j = 2) : F_Resolver_sideAt (nI j) σ = some (nI (sd j), σ) := by
  obtain ⟨o, ho, h1, h2, h3, -⟩ := X.2.2.2.2.2.2.2 j hj hk
  rw [F_Resolver_sideAt, e_bnd (c_op X hj), h1, F_Fixities_sideOf]
  simp (disch := omega) only [fx_bnd, fx_bndx, e_gI, e_pI, e_rz0, e_rz1, e_ret, e_pur, e_thr, e_if, e_el, s_op ho, q_lt, q_le, q_eq, q_lt0, q_0lt, q_le0, q_0le, q_eq0, q_lt1, q_1lt, q_le1, q_1le, q_eq1, q_lt2, q_2lt, q_le2, q_2le, q_eq2, q_lt3, q_3lt, q_le3, q_3le, q_eq3, q_lt4, q_4lt, q_le4, q_4le, q_eq4, q_lt6, q_6lt, q_le6, q_6le, q_eq6, q_lt10, q_10lt, q_le10, q_10le, q_eq10, q_lt30, q_30lt, q_le30, q_30le, q_eq30, q_lt40, q_40lt, q_le40, q_40le, q_eq40, q_lt41, q_41lt, q_le41, q_41le, q_eq41, q_lt200, q_200lt, q_le200, q_200le, q_eq200, q_lt400, q_400lt, q_le400, q_400le, q_eq400, q_lt600, q_600lt, q_le600, q_600le, q_eq600, q_lt800, q_800lt, q_le800, q_800le, q_eq800, q_lt900, q_900lt, q_le900, q_900le, q_eq900, q_0eq, q_1eq, q_2eq, q_3eq, q_4eq, q_neg, q_m1, q_m1l, q_s1, nI_1, q_1a, nI_add, q_mul, q_m41, q_41m, q_dn, q_dm10, q_dm11, q_dm12, q_dm13, q_dm14, q_d0m1, q_d01, q_d02, q_d03, q_d04, q_d1m1, q_d10, q_d12, q_d13, q_d14, q_d2m1, q_d20, q_d21, q_d23, q_d24, q_d3m1, q_d30, q_d31, q_d32, q_d34, q_d4m1, q_d40, q_d41, q_d42, q_d43, if_true, if_false, eq_self, e_lA, h3]
theorem c_place {j : Nat} (hj : j < 200) (σ : fx_S) : F_Resolver_isPlace (nI j) σ = some (1, σ) := by
  simp (disch := omega) only [F_Resolver_isPlace, fx_bnd, fx_bndx, e_gI, e_pI, e_rz0, e_rz1, e_ret, e_pur, e_thr, e_if, e_el, q_lt, q_le, q_eq, q_lt0, q_0lt, q_le0, q_0le, q_eq0, q_lt1, q_1lt, q_le1, q_1le, q_eq1, q_lt2, q_2lt, q_le2, q_2le, q_eq2, q_lt3, q_3lt, q_le3, q_3le, q_eq3, q_lt4, q_4lt, q_le4, q_4le, q_eq4, q_lt6, q_6lt, q_le6, q_6le, q_eq6, q_lt10, q_10lt, q_le10, q_10le, q_eq10, q_lt30, q_30lt, q_le30, q_30le, q_eq30, q_lt40, q_40lt, q_le40, q_40le, q_eq40, q_lt41, q_41lt, q_le41, q_41le, q_eq41, q_lt200, q_200lt, q_le200, q_200le, q_eq200, q_lt400, q_400lt, q_le400, q_400le, q_eq400, q_lt600, q_600lt, q_le600, q_600le, q_eq600, q_lt800, q_800lt, q_le800, q_800le, q_eq800, q_lt900, q_900lt, q_le900, q_900le, q_eq900, q_0eq, q_1eq, q_2eq, q_3eq, q_4eq, q_neg, q_m1, q_m1l, q_s1, nI_1, q_1a, nI_add, q_mul, q_m41, q_41m, q_dn, q_dm10, q_dm11, q_dm12, q_dm13, q_dm14, q_d0m1, q_d01, q_d02, q_d03, q_d04, q_d1m1, q_d10, q_d12, q_d13, q_d14, q_d2m1, q_d20, q_d21, q_d23, q_d24, q_d3m1, q_d30, q_d31, q_d32, q_d34, q_d4m1, q_d40, q_d41, q_d42, q_d43, if_true, if_false, eq_self]
theorem c_placen (σ : fx_S) : F_Resolver_isPlace (-1) σ = some (0, σ) := by
  rw [F_Resolver_isPlace, e_if (by decide)]; rfl
theorem c_size {j : Nat} (hj : j < 200) (σ : fx_S) : F_Resolver_sizeOf (nI j) σ = some (σ.2.1 24 j, σ) := by
  rw [F_Resolver_sizeOf, e_bnd (c_place hj σ), e_el (by decide), e_bnd (e_lA hj (by omega))]; rfl
theorem c_sizen (σ : fx_S) : F_Resolver_sizeOf (-1) σ = some (0, σ) := by
  rw [F_Resolver_sizeOf, e_bnd (c_placen σ), e_if rfl]; rfl
theorem c_height {j : Nat} (hj : j < 200) (σ : fx_S) : F_Resolver_heightOf (nI j) σ = some (σ.2.1 25 j, σ) := by
  rw [F_Resolver_heightOf, e_bnd (c_place hj σ), e_el (by decide), e_bnd (e_lA hj (by omega))]; rfl
theorem c_heightn (σ : fx_S) : F_Resolver_heightOf (-1) σ = some (0, σ) := by
  rw [F_Resolver_heightOf, e_bnd (c_placen σ), e_if rfl]; rfl
end CXC
/-- finish changes the ready stack and the node at w -/
def fnF (w : Nat) (σ σ' : fx_S) : Prop := (∀ r, r ≠ 289 → σ'.1 r = σ.1 r) ∧ (∀ a, a ≠ 19 → a ≠ 22 → a ≠ 23 → a ≠ 24 → a ≠ 25 → σ'.2.1 a = σ.2.1 a) ∧ σ'.2.2 = σ.2.2 ∧ (∀ a i, i ≠ w → 22 ≤ a → a ≤ 25 → σ'.2.1 a i = σ.2.1 a i)
theorem fnF_fr {w : Nat} {σ σ' : fx_S} (h : fnF w σ σ') : frC σ σ' := ⟨fun r q => h.1 r (by omega), fun a q => h.2.1 a (by omega) (by omega) (by omega) (by omega) (by omega), h.2.2.1⟩
theorem f_J49 {σ : fx_S} {w z1 z2 h1 h2 : Nat} {x y : Int32} {Q : List Nat} (hw : w < 200) (hQ : SK (σ.1 289) (σ.2.1 19) Q) (hl : Q.length < 200) (hh1 : h1 < 2 ^ 31) (hh2 : h2 < 2 ^ 31)
    (hx : (x = -1 ∧ z1 = 0 ∧ h1 = 0) ∨ ∃ q, q < 200 ∧ q ≠ w ∧ x = nI q ∧ σ.2.1 24 q = nI z1 ∧ σ.2.1 25 q = nI h1) (hy : (y = -1 ∧ z2 = 0 ∧ h2 = 0) ∨ ∃ q, q < 200 ∧ q ≠ w ∧ y = nI q ∧ σ.2.1 24 q = nI z2 ∧ σ.2.1 25 q = nI h2) :
    ∃ σ', F_Resolver_finish_J49 (nI w) y x σ = some ((), σ') ∧ SK (σ'.1 289) (σ'.2.1 19) (w :: Q) ∧ ndA σ'.2.1 w x y (1 + z1 + z2) (1 + max h1 h2) ∧ fnF w σ σ' := by
  let σ1 : fx_S := (σ.1, va_up (va_up σ.2.1 22 (upd (σ.2.1 22) w x)) 23 (upd (σ.2.1 23) w y), σ.2.2)
  have sz : ∀ (v : Int32) (z : Nat), (v = -1 ∧ z = 0) ∨ (∃ q, q < 200 ∧ v = nI q ∧ σ.2.1 24 q = nI z) → F_Resolver_sizeOf v σ1 = some (nI z, σ1) := by
    rintro v z (⟨rfl, rfl⟩ | ⟨q, hq, rfl, hz⟩)
    · exact c_sizen σ1
    · rw [c_size hq σ1]
      show some (σ.2.1 24 q, σ1) = _
      rw [hz]
  let σ2 : fx_S := (σ1.1, va_up σ1.2.1 24 (upd (σ1.2.1 24) w (nI (1 + z1 + z2))), σ1.2.2)
  have he : ∀ (v : Int32) (h : Nat), (v = -1 ∧ h = 0) ∨ (∃ q, q < 200 ∧ v = nI q ∧ σ.2.1 25 q = nI h) → F_Resolver_heightOf v σ2 = some (nI h, σ2) := by
    rintro v h (⟨rfl, rfl⟩ | ⟨q, hq, rfl, hz⟩)
    · exact c_heightn σ2
    · rw [c_height hq σ2]
      show some (σ.2.1 25 q, σ2) = _
      rw [hz]
  have sx : (x = -1 ∧ z1 = 0) ∨ (∃ q, q < 200 ∧ x = nI q ∧ σ.2.1 24 q = nI z1) := by
    rcases hx with ⟨a, b, -⟩ | ⟨q, a, -, b, c, -⟩
    · exact Or.inl ⟨a, b⟩
    · exact Or.inr ⟨q, a, b, c⟩
  have sy : (y = -1 ∧ z2 = 0) ∨ (∃ q, q < 200 ∧ y = nI q ∧ σ.2.1 24 q = nI z2) := by
    rcases hy with ⟨a, b, -⟩ | ⟨q, a, -, b, c, -⟩
    · exact Or.inl ⟨a, b⟩
    · exact Or.inr ⟨q, a, b, c⟩
  have tx : (x = -1 ∧ h1 = 0) ∨ (∃ q, q < 200 ∧ x = nI q ∧ σ.2.1 25 q = nI h1) := by
    rcases hx with ⟨a, -, b⟩ | ⟨q, a, -, b, -, c⟩
    · exact Or.inl ⟨a, b⟩
    · exact Or.inr ⟨q, a, b, c⟩
  have ty : (y = -1 ∧ h2 = 0) ∨ (∃ q, q < 200 ∧ y = nI q ∧ σ.2.1 25 q = nI h2) := by
    rcases hy with ⟨a, -, b⟩ | ⟨q, a, -, b, -, c⟩
    · exact Or.inl ⟨a, b⟩
    · exact Or.inr ⟨q, a, b, c⟩
  have em : (if nI h1 < nI h2 then nI h2 else nI h1) = nI (max h1 h2) := by
    by_cases q : h1 < h2
    · rw [if_pos ((q_lt hh1 hh2).mpr q), Nat.max_eq_right (by omega)]
    · rw [if_neg (fun z => q ((q_lt hh1 hh2).mp z)), Nat.max_eq_left (by omega)]
  let σ3 : fx_S := (σ2.1, va_up σ2.2.1 25 (upd (σ2.2.1 25) w (nI (1 + max h1 h2))), σ2.2.2)
  have hQ3 : SK (σ3.1 289) (σ3.2.1 19) Q := hQ
  refine ⟨(va_up σ3.1 289 (nI (Q.length + 1)), va_up σ3.2.1 19 (upd (σ3.2.1 19) Q.length (nI w)), σ3.2.2), ?_, SK_push hQ w, ⟨?_, ?_, ?_, ?_⟩, ⟨fun r hr => ?_, fun a g1 g2 g3 g4 g5 => ?_, rfl, fun a i hi g1 g2 => ?_⟩⟩
  · rw [F_Resolver_finish_J49, e_bnd (e_sA hw (by omega)), e_bnd (e_sA hw (by omega))]
    refine (e_bnd (sz x z1 sx)).trans ?_
    refine (e_bnd (sz y z2 sy)).trans ?_
    rw [q_1a, nI_add, e_bnd (e_sA hw (by omega))]
    refine (e_bnd (he x h1 tx)).trans ?_
    refine (e_bnd (he y h2 ty)).trans ?_
    rw [em, e_bnd (e_pur _ _), q_1a, e_bnd (e_sA hw (by omega))]
    exact (e_bnd (k_push2 hQ3 hl w)).trans rfl
  · show upd (σ.2.1 22) w x w = x
    rw [q_us]
  · show upd (σ.2.1 23) w y w = y
    rw [q_us]
  · show upd (σ.2.1 24) w _ w = _
    rw [q_us]
  · show upd (σ.2.1 25) w _ w = _
    rw [q_us]
  · exact va_up_ne _ _ hr
  · show va_up (va_up (va_up (va_up (va_up σ.2.1 22 _) 23 _) 24 _) 25 _) 19 _ a = _
    rw [va_up_ne _ _ g1, va_up_ne _ _ g5, va_up_ne _ _ g4, va_up_ne _ _ g3, va_up_ne _ _ g2]
  · rcases (show a = 22 ∨ a = 23 ∨ a = 24 ∨ a = 25 by omega) with rfl | rfl | rfl | rfl
    · exact q_un _ _ hi
    · exact q_un _ _ hi
    · exact q_un _ _ hi
    · exact q_un _ _ hi
section FIN
variable {K O : Nat → Int32} {n : Nat} {pt : Int32} {rk sd : Nat → Nat} {σ : fx_S}
/-- an operand -/
theorem f_fin0 (X : cxC K O n pt rk sd σ) {w : Nat} (hw : w < n) (hk : nkA K n w = 0) {Q : List Nat} (hQ : SK (σ.1 289) (σ.2.1 19) Q) (hl : Q.length < 200) : ∃ σ', F_Resolver_finish (nI w) σ = some ((), σ') ∧ SK (σ'.1 289) (σ'.2.1 19) (w :: Q) ∧ ndA σ'.2.1 w (-1) (-1) 1 1 ∧ fnF w σ σ' := by
  have hn := X.1
  obtain ⟨σ', a1, a2, a3, a4⟩ := f_J49 (z1 := 0) (z2 := 0) (h1 := 0) (h2 := 0) (x := -1) (y := -1) (show w < 200 by omega) hQ hl (by omega) (by omega) (Or.inl ⟨rfl, rfl, rfl⟩) (Or.inl ⟨rfl, rfl, rfl⟩)
  refine ⟨σ', ?_, a2, a3, a4⟩
  rw [F_Resolver_finish, e_bnd (c_place (by omega) σ), e_el (by decide), e_bnd (c_nk X hw), hk, e_el (by decide), F_Resolver_finish_J33, e_if rfl]
  exact a1
/-- of one child -/
theorem f_fin2 (X : cxC K O n pt rk sd σ) {w : Nat} (hw : w < n) (hk : nkA K n w = 2 ∨ nkA K n w = 3 ∨ nkA K n w = 4) {q z h : Nat} {Q : List Nat} (hQ : SK (σ.1 289) (σ.2.1 19) (q :: Q)) (hl : Q.length < 200) (hq : q < 200) (hqw : q ≠ w) (hz : σ.2.1 24 q = nI z) (hh : σ.2.1 25 q = nI h) (hb : h < 2 ^ 31) : ∃ σ', F_Resolver_finish (nI w) σ = some ((), σ') ∧ SK (σ'.1 289) (σ'.2.1 19) (w :: Q) ∧ ndA σ'.2.1 w (nI q) (-1) (1 + z) (1 + h) ∧ fnF w σ σ' := by
  have hn := X.1
  let σ1 : fx_S := (va_up σ.1 289 (nI Q.length), σ.2.1, σ.2.2)
  have hQ1 : SK (σ1.1 289) (σ1.2.1 19) Q := (SK_pop hQ).1
  obtain ⟨σ', a1, a2, a3, a4⟩ := f_J49 (σ := σ1) (z1 := z) (z2 := 0) (h1 := h) (h2 := 0) (x := nI q) (y := -1) (show w < 200 by omega) hQ1 hl hb (by omega) (Or.inr ⟨q, hq, hqw, rfl, hz, hh⟩) (Or.inl ⟨rfl, rfl, rfl⟩)
  rw [Nat.add_zero, Nat.max_zero] at a3
  refine ⟨σ', ?_, a2, a3, ⟨fun r hr => (a4.1 r hr).trans (va_up_ne _ _ hr), a4.2⟩⟩
  have k0 : ¬ nkA K n w = 1 ∧ ¬ nkA K n w = 0 := by
    rcases hk with hk | hk | hk <;> rw [hk] <;> decide
  rw [F_Resolver_finish, e_bnd (c_place (by omega) σ), e_el (by decide), e_bnd (c_nk X hw), e_el k0.1, F_Resolver_finish_J33, e_el k0.2, e_bnd (k_pop2 hQ hl)]
  exact a1
/-- of two children -/
theorem f_fin1 (X : cxC K O n pt rk sd σ) {w : Nat} (hw : w < n) (hk : nkA K n w = 1) {q1 z1 h1 q2 z2 h2 : Nat} {Q : List Nat} (hQ : SK (σ.1 289) (σ.2.1 19) (q2 :: q1 :: Q)) (hl : Q.length + 1 < 200) (hq1 : q1 < 200) (hqw1 : q1 ≠ w) (hz1 : σ.2.1 24 q1 = nI z1) (hh1 : σ.2.1 25 q1 = nI h1) (hb1 : h1 < 2 ^ 31) (hq2 : q2 < 200) (hqw2 : q2 ≠ w) (hz2 : σ.2.1 24 q2 = nI z2) (hh2 : σ.2.1 25 q2 = nI h2) (hb2 : h2 < 2 ^ 31) : ∃ σ', F_Resolver_finish (nI w) σ = some ((), σ') ∧ SK (σ'.1 289) (σ'.2.1 19) (w :: Q) ∧ ndA σ'.2.1 w (nI q1) (nI q2) (1 + z1 + z2) (1 + max h1 h2) ∧ fnF w σ σ' := by
  have hn := X.1
  let σ1 : fx_S := (va_up σ.1 289 (nI (q1 :: Q).length), σ.2.1, σ.2.2)
  have hQ1 : SK (σ1.1 289) (σ1.2.1 19) (q1 :: Q) := (SK_pop hQ).1
  let σ2 : fx_S := (va_up σ1.1 289 (nI Q.length), σ.2.1, σ.2.2)
  have hQ2 : SK (σ2.1 289) (σ2.2.1 19) Q := (SK_pop hQ1).1
  obtain ⟨σ', a1, a2, a3, a4⟩ := f_J49 (σ := σ2) (z1 := z1) (z2 := z2) (h1 := h1) (h2 := h2) (x := nI q1) (y := nI q2) (show w < 200 by omega) hQ2 (by omega) hb1 hb2 (Or.inr ⟨q1, hq1, hqw1, rfl, hz1, hh1⟩) (Or.inr ⟨q2, hq2, hqw2, rfl, hz2, hh2⟩)
  refine ⟨σ', ?_, a2, a3, ⟨fun r hr => (a4.1 r hr).trans ((va_up_ne _ _ hr).trans (va_up_ne _ _ hr)), a4.2⟩⟩
  rw [F_Resolver_finish, e_bnd (c_place (by omega) σ), e_el (by decide), e_bnd (c_nk X hw), hk, e_if rfl, e_bnd (k_pop2 hQ (by rw [List.length_cons]; omega)), F_Resolver_finish_J33, e_el (by decide)]
  exact (e_bnd (k_pop2 (σ := σ1) hQ1 (by omega))).trans a1
end FIN
/-! CHAINS OF WHAT WAITS -/
def TR (K : Nat → Int32) (rk sd : Nat → Nat) (T : Nat → Nat → Int32) (a b p z h : Nat) (ts : List Nat) : Prop := ∃ f, SP K rk sd T f a b p z h ts
def hdA (rk sd : Nat → Nat) (ws : List Nat) (x : Nat) : Prop := ∀ w, ws.head? = some w → lowA rk sd w x
/-- a group that begins at s, where an operand is due at j: ws waits (newest first), qs are the trees between -/
def CT (K : Nat → Int32) (rk sd : Nat → Nat) (T : Nat → Nat → Int32) : List Nat → List Nat → Nat → Nat → Prop
  | [], qs, s, j => qs = [] ∧ j = s
  | w :: ws, qs, s, j => j = w + 1 ∧ hdA rk sd ws w ∧ ((K w = 2 ∧ CT K rk sd T ws qs s w) ∨ (K w = 1 ∧ 0 < w ∧ K (w - 1) = 3 ∧ ws = [] ∧ qs = [] ∧ w = s) ∨
      (K w = 1 ∧ 0 < w ∧ ¬ K (w - 1) = 3 ∧ ∃ p qs' a z h ts, qs = p :: qs' ∧ CT K rk sd T ws qs' s a ∧ TR K rk sd T a (w - 1) p z h ts ∧ (∀ x ∈ ts, hiA rk sd x w) ∧ (∀ x ∈ ts, hdA rk sd ws x)))
/-- the same with a tree behind what waits -/
def CC (K : Nat → Int32) (rk sd : Nat → Nat) (T : Nat → Nat → Int32) (ws qs : List Nat) (s j : Nat) (ts : List Nat) : Prop :=
  ∃ p qs' a z h, qs = p :: qs' ∧ a < j ∧ CT K rk sd T ws qs' s a ∧ TR K rk sd T a (j - 1) p z h ts ∧ (∀ x ∈ ts, hdA rk sd ws x)
def sO : List Nat → Nat
  | [] => 0
  | b :: _ => b + 1
def gO : List Nat → Int32
  | [] => -1
  | b :: _ => nI b
/-- the groups around -/
def LR (K : Nat → Int32) (rk sd : Nat → Nat) (T : Nat → Nat → Int32) : List Nat → List (List Nat) → List (List Nat) → Prop
  | [], [], [] => True
  | b :: bs, ws :: wl, qs :: ql => CT K rk sd T ws qs (sO bs) b ∧ (∀ w ∈ ws, gO (stk K w) = gO bs) ∧ LR K rk sd T bs wl ql
  | _, _, _ => False
def agT (T T' : Nat → Nat → Int32) (i : Nat) : Prop := T' 22 i = T 22 i ∧ T' 23 i = T 23 i ∧ T' 24 i = T 24 i ∧ T' 25 i = T 25 i
section CHA
variable {K : Nat → Int32} {rk sd : Nat → Nat} {T T' : Nat → Nat → Int32}
theorem TR_io {a b p z h : Nat} {ts : List Nat} (H : TR K rk sd T a b p z h ts) : (K a = 0 ∨ K a = 2 ∨ K a = 3) ∧ (K b = 0 ∨ K b = 4) ∧ a ≤ b ∧ a ≤ p ∧ p ≤ b ∧ 1 ≤ z ∧ z ≤ b + 1 - a ∧ 1 ≤ h ∧ h ≤ z := let ⟨_, h⟩ := H; SP_io h
theorem TR_cg {a b p z h : Nat} {ts : List Nat} (e : ∀ i, a ≤ i → i ≤ b → agT T T' i) (H : TR K rk sd T a b p z h ts) : TR K rk sd T' a b p z h ts := let ⟨f, h⟩ := H; ⟨f, SP_cg e h⟩
theorem TR_nd {a b p z h : Nat} {ts : List Nat} (H : TR K rk sd T a b p z h ts) : T 24 p = nI z ∧ T 25 p = nI h := let ⟨_, h⟩ := H; SP_nd h
theorem CT_rng : ∀ {ws qs : List Nat} {s j : Nat}, CT K rk sd T ws qs s j → s + ws.length + qs.length ≤ j ∧ (∀ x ∈ ws, s ≤ x ∧ x < j ∧ (K x = 1 ∨ K x = 2)) ∧ ws.Pairwise (fun a b => b < a)
  | [], qs, s, j, H => by
    obtain ⟨rfl, rfl⟩ := H
    exact ⟨by simp, fun x hx => by simp at hx, List.Pairwise.nil⟩
  | w :: ws, qs, s, j, H => by
    obtain ⟨rfl, -, H⟩ := H
    rcases H with ⟨hk, H⟩ | ⟨hk, -, -, rfl, rfl, rfl⟩ | ⟨hk, h0, -, p, qs', a, z, h, ts, rfl, H, H2, -⟩
    · obtain ⟨i1, i2, i3⟩ := CT_rng H
      refine ⟨by rw [List.length_cons]; omega, fun x hx => ?_, List.pairwise_cons.mpr ⟨fun x hx => (i2 x hx).2.1, i3⟩⟩
      rcases List.mem_cons.mp hx with rfl | hx
      · exact ⟨by omega, by omega, Or.inr hk⟩
      · have := i2 x hx; exact ⟨this.1, by omega, this.2.2⟩
    · refine ⟨by simp, fun x hx => ?_, List.pairwise_cons.mpr ⟨fun x hx => by simp at hx, List.Pairwise.nil⟩⟩
      rcases List.mem_cons.mp hx with rfl | hx
      · exact ⟨by omega, by omega, Or.inl hk⟩
      · simp at hx
    · obtain ⟨i1, i2, i3⟩ := CT_rng H
      have io := TR_io H2
      refine ⟨by rw [List.length_cons, List.length_cons]; omega, fun x hx => ?_, List.pairwise_cons.mpr ⟨fun x hx => by have := (i2 x hx).2.1; omega, i3⟩⟩
      rcases List.mem_cons.mp hx with rfl | hx
      · exact ⟨by omega, by omega, Or.inl hk⟩
      · have := i2 x hx; exact ⟨this.1, by omega, this.2.2⟩
theorem CT_cg : ∀ {ws qs : List Nat} {s j : Nat}, (∀ i, i < j → agT T T' i) → CT K rk sd T ws qs s j → CT K rk sd T' ws qs s j
  | [], qs, s, j, _, H => H
  | w :: ws, qs, s, j, e, H => by
    obtain ⟨rfl, h0, H⟩ := H
    refine ⟨rfl, h0, ?_⟩
    rcases H with ⟨hk, H⟩ | H | ⟨hk, h0, h1, p, qs', a, z, h, ts, h2, H, H2, h3⟩
    · exact Or.inl ⟨hk, CT_cg (fun i hi => e i (by omega)) H⟩
    · exact Or.inr (Or.inl H)
    · have io := TR_io H2
      exact Or.inr (Or.inr ⟨hk, h0, h1, p, qs', a, z, h, ts, h2, CT_cg (fun i hi => e i (by omega)) H, TR_cg (fun i _ q => e i (by omega)) H2, h3⟩)
theorem CC_rng {ws qs : List Nat} {s j : Nat} {ts : List Nat} (H : CC K rk sd T ws qs s j ts) : s + ws.length + qs.length ≤ j ∧ (∀ x ∈ ws, s ≤ x ∧ x < j ∧ (K x = 1 ∨ K x = 2)) ∧ ws.Pairwise (fun a b => b < a) := by
  obtain ⟨p, qs', a, z, h, rfl, h1, H, -⟩ := H
  obtain ⟨i1, i2, i3⟩ := CT_rng H
  refine ⟨by rw [List.length_cons]; omega, fun x hx => ?_, i3⟩
  have := i2 x hx; exact ⟨this.1, by omega, this.2.2⟩
theorem LR_cg : ∀ {bs : List Nat} {wl ql : List (List Nat)}, (∀ i, i < sO bs → agT T T' i) → (∀ b c s, bs = b :: c :: s → c < b) → bs.Pairwise (fun a b => b < a) → LR K rk sd T bs wl ql → LR K rk sd T' bs wl ql
  | [], [], [], _, _, _, H => H
  | b :: bs, ws :: wl, qs :: ql, e, e2, e3, H => by
    obtain ⟨h1, h2, h3⟩ := H
    obtain ⟨p1, p2⟩ := List.pairwise_cons.mp e3
    refine ⟨CT_cg (fun i hi => e i (by show i < b + 1; omega)) h1, h2, LR_cg (fun i hi => e i ?_) (fun b' c s hb => ?_) p2 h3⟩
    · show i < b + 1
      cases bs with
      | nil => exact absurd hi (by show ¬ i < 0; omega)
      | cons c s => have := p1 c (by simp); have : i < c + 1 := hi; omega
    · subst hb
      exact (List.pairwise_cons.mp p2).1 c (by simp)
  | [], _ :: _, _, _, _, _, H => H.elim
  | [], [], _ :: _, _, _, _, H => H.elim
  | _ :: _, [], _, _, _, _, H => H.elim
  | _ :: _, _ :: _, [], _, _, _, H => H.elim
theorem LR_rng : ∀ {bs : List Nat} {wl ql : List (List Nat)}, bs.Pairwise (fun a b => b < a) → LR K rk sd T bs wl ql → wl.flatten.length + ql.flatten.length ≤ sO bs ∧ (∀ x ∈ wl.flatten, x + 1 < sO bs ∧ (K x = 1 ∨ K x = 2)) ∧ wl.flatten.Pairwise (fun a b => b < a) ∧ wl.length = bs.length
  | [], [], [], _, H => ⟨by simp, fun x hx => by simp at hx, List.Pairwise.nil, rfl⟩
  | b :: bs, ws :: wl, qs :: ql, e3, H => by
    obtain ⟨h1, h2, h3⟩ := H
    obtain ⟨p1, p2⟩ := List.pairwise_cons.mp e3
    obtain ⟨i1, i2, i3, i4⟩ := LR_rng p2 h3
    obtain ⟨c1, c2, c3⟩ := CT_rng h1
    have hb : sO bs ≤ b := by omega
    refine ⟨?_, fun x hx => ?_, ?_, by rw [List.length_cons, List.length_cons, i4]⟩
    · rw [List.flatten_cons, List.flatten_cons, List.length_append, List.length_append]
      show _ ≤ b + 1
      omega
    · rw [List.flatten_cons] at hx
      show x + 1 < b + 1 ∧ _
      rcases List.mem_append.mp hx with hx | hx
      · have := c2 x hx; exact ⟨by omega, this.2.2⟩
      · have := i2 x hx; exact ⟨by omega, this.2⟩
    · rw [List.flatten_cons]
      refine List.pairwise_append.mpr ⟨c3, i3, fun x hx y hy => ?_⟩
      have := c2 x hx
      have := i2 y hy
      omega
  | [], _ :: _, _, _, H => H.elim
  | [], [], _ :: _, _, H => H.elim
  | _ :: _, [], _, _, H => H.elim
  | _ :: _, _ :: _, [], _, H => H.elim
theorem stk_pw : ∀ {j : Nat}, (stk K j).Pairwise (fun a b => b < a)
  | 0 => List.Pairwise.nil
  | j + 1 => by
    have ih := stk_pw (j := j)
    unfold stk
    split
    · exact List.pairwise_cons.mpr ⟨fun x hx => stk_lt hx, ih⟩
    · split
      · exact ih.sublist (List.tail_sublist _)
      · exact ih
/-- the newest that waits is done -/
theorem CC_red {w s j : Nat} {ws qs ts : List Nat} (H : CC K rk sd T (w :: ws) qs s j ts) : w + 1 < j ∧
    ((K w = 2 ∧ ∃ q qs' z1 h1, qs = q :: qs' ∧ w < q ∧ q < j ∧ T 24 q = nI z1 ∧ T 25 q = nI h1 ∧ h1 ≤ j ∧ ∀ T', (∀ i, i ≠ w → agT T T' i) → ndA T' w (nI q) (-1) (1 + z1) (1 + h1) → CC K rk sd T' ws (w :: qs') s j (w :: ts)) ∨
     (K w = 1 ∧ 0 < w ∧ K (w - 1) = 3 ∧ ws = [] ∧ w = s ∧ ∃ q z1 h1, qs = [q] ∧ w < q ∧ q < j ∧ TR K rk sd T (s + 1) (j - 1) q z1 h1 ts) ∨
     (K w = 1 ∧ 0 < w ∧ ¬ K (w - 1) = 3 ∧ ¬ K (w + 1) = 4 ∧ ∃ q2 q1 qs' z1 h1 z2 h2 t1, qs = q2 :: q1 :: qs' ∧ q1 < w ∧ w < q2 ∧ q2 < j ∧ T 24 q1 = nI z1 ∧ T 25 q1 = nI h1 ∧ h1 ≤ j ∧ T 24 q2 = nI z2 ∧ T 25 q2 = nI h2 ∧ h2 ≤ j ∧ (∀ x ∈ t1, hiA rk sd x w) ∧ ∀ T', (∀ i, i ≠ w → agT T T' i) → ndA T' w (nI q1) (nI q2) (1 + z1 + z2) (1 + max h1 h2) → CC K rk sd T' ws (w :: qs') s j (t1 ++ w :: ts))) := by
  obtain ⟨p, qs', a, z, h, rfl, h1, H, H2, h3⟩ := H
  obtain ⟨rfl, h4, H⟩ := H
  have io := TR_io H2
  have nd := TR_nd H2
  have low : ∀ x ∈ ts, lowA rk sd w x := fun x hx => h3 x hx w rfl
  have tr : ∀ x, lowA rk sd w x → hdA rk sd ws x := fun x hx w' hw' => by
    have h5 := h4 w' hw'
    unfold lowA at *
    omega
  refine ⟨h1, ?_⟩
  rcases H with ⟨hk, H⟩ | ⟨hk, h0, h6, rfl, rfl, rfl⟩ | ⟨hk, h0, h6, p1, qs1, a1, z1, h1', t1, rfl, H, H3, h7, h8⟩
  · refine Or.inl ⟨hk, p, qs', z, h, rfl, by omega, by omega, nd.1, nd.2, by omega, fun T' e hn => ?_⟩
    refine ⟨w, qs', w, 1 + z, 1 + h, rfl, by omega, CT_cg (fun i hi => e i (by omega)) H, ?_, fun x hx => ?_⟩
    · obtain ⟨f, H2⟩ := TR_cg (T' := T') (fun i g1 g2 => e i (by omega)) H2
      exact ⟨f + 1, by
        unfold SP
        exact Or.inr (Or.inr (Or.inl ⟨rfl, hk, by omega, p, z, h, ts, H2, low, rfl, rfl, rfl, hn⟩))⟩
    · rcases List.mem_cons.mp hx with rfl | hx
      · exact h4
      · exact tr x (low x hx)
  · exact Or.inr (Or.inl ⟨hk, h0, h6, rfl, rfl, p, z, h, rfl, by omega, by omega, H2⟩)
  · have io1 := TR_io H3
    have nd1 := TR_nd H3
    refine Or.inr (Or.inr ⟨hk, h0, h6, ?_, p, p1, qs1, z1, h1', z, h, t1, rfl, by omega, by omega, by omega, nd1.1, nd1.2, by omega, nd.1, nd.2, by omega, h7, fun T' e hn => ?_⟩)
    · rcases io.1 with q | q | q <;> rw [q] <;> decide
    · refine ⟨w, qs1, a1, 1 + z1 + z, 1 + max h1' h, rfl, by omega, CT_cg (fun i hi => e i (by omega)) H, ?_, fun x hx => ?_⟩
      · obtain ⟨f2, H2⟩ := TR_cg (T' := T') (fun i g1 g2 => e i (by omega)) H2
        obtain ⟨f1, H3⟩ := TR_cg (T' := T') (fun i g1 g2 => e i (by omega)) H3
        exact ⟨max f1 f2 + 1, by
          unfold SP
          exact Or.inr (Or.inr (Or.inr ⟨by omega, by omega, hk, p1, z1, h1', t1, p, z, h, ts, SP_le (Nat.le_max_left _ _) H3, SP_le (Nat.le_max_right _ _) H2, h7, low, rfl, rfl, rfl, hn⟩))⟩
      · rcases List.mem_append.mp hx with hx | hx
        · exact h8 x hx
        · rcases List.mem_cons.mp hx with rfl | hx
          · exact h4
          · exact tr x (low x hx)
end CHA
/-! THE REFERENCE: learn, newest, count -/
def frL (τ τ' : fx_S) : Prop := (∀ r, r < 30 ∨ 33 < r → τ'.1 r = τ.1 r) ∧ (∀ a, a < 15 ∨ 18 < a → τ'.2.1 a = τ.2.1 a) ∧ τ'.2.2 = τ.2.2
theorem frL_rfl {σ : fx_S} : frL σ σ := ⟨fun _ _ => rfl, fun _ _ => rfl, rfl⟩
theorem frL_tr {σ σ' σ'' : fx_S} (h : frL σ σ') (g : frL σ' σ'') : frL σ σ'' := ⟨fun r q => (g.1 r q).trans (h.1 r q), fun a q => (g.2.1 a q).trans (h.2.1 a q), g.2.2.trans h.2.2⟩
def frG (τ τ' : fx_S) : Prop := (∀ r, r < 30 ∨ 33 < r → τ'.1 r = τ.1 r) ∧ (∀ a, a ≠ 17 → τ'.2.1 a = τ.2.1 a) ∧ τ'.2.2 = τ.2.2
theorem frG_rfl {σ : fx_S} : frG σ σ := ⟨fun _ _ => rfl, fun _ _ => rfl, rfl⟩
theorem frG_tr {σ σ' σ'' : fx_S} (h : frG σ σ') (g : frG σ' σ'') : frG σ σ'' := ⟨fun r q => (g.1 r q).trans (h.1 r q), fun a q => (g.2.1 a q).trans (h.2.1 a q), g.2.2.trans h.2.2⟩
def cxR (K O : Nat → Int32) (n : Nat) (pt : Int32) (rk sd : Nat → Nat) (s : Nat) (τ : fx_S) : Prop :=
  n ≤ 200 ∧ τ.1 5 = nI n ∧ τ.1 6 = pt ∧ (∀ j, j < n → τ.2.1 4 j = K j ∧ τ.2.1 5 j = O j) ∧ ∃ (df kf : Nat → Nat) (σ0 : fx_S) (nn : Nat), RSn σ0 τ nn ∧ s < nn ∧ fxT s df kf σ0 τ ∧ ∀ j, j < n → K j = 1 ∨ K j = 2 → ∃ o, o < 41 ∧ O j = nI o ∧ rk j = kf o ∧ sd j = df o
theorem cxR_fr {K O : Nat → Int32} {n : Nat} {pt : Int32} {rk sd : Nat → Nat} {s : Nat} {τ τ' : fx_S} (h : cxR K O n pt rk sd s τ) (g1 : ∀ r, r < 8 → τ'.1 r = τ.1 r) (g2 : ∀ a, a < 8 → τ'.2.1 a = τ.2.1 a) : cxR K O n pt rk sd s τ' := by
  obtain ⟨h1, h2, h3, h4, df, kf, σ0, nn, h5, h6, h7, h8⟩ := h
  have e : kS' τ' = kS' τ := by
    simp only [kS']
    rw [g1 1 (by omega), g2 1 (by omega), g2 2 (by omega), g2 3 (by omega)]
  exact ⟨h1, by rw [g1 5 (by omega)]; exact h2, by rw [g1 6 (by omega)]; exact h3, by rw [g2 4 (by omega), g2 5 (by omega)]; exact h4, df, kf, σ0, nn, RSn_cg h5 rfl e, h6, fxT_cg h5 h6 h7 rfl e, h8⟩
theorem cxR_G {K O : Nat → Int32} {n : Nat} {pt : Int32} {rk sd : Nat → Nat} {s : Nat} {τ τ' : fx_S} (h : cxR K O n pt rk sd s τ) (g : frG τ τ') : cxR K O n pt rk sd s τ' := cxR_fr h (fun r hr => g.1 r (by omega)) (fun a ha => g.2.1 a (by omega))
section CXR
variable {K O : Nat → Int32} {n : Nat} {pt : Int32} {rk sd : Nat → Nat} {s : Nat} {τ : fx_S}
theorem m_kd (X : cxR K O n pt rk sd s τ) {j : Nat} (hj : j < n) : l_Md_kinds (nI j) τ = some (K j, τ) := by
  have := X.1
  rw [l_Md_kinds, e_lA (by omega) (by omega), (X.2.2.2.1 j hj).1]
theorem m_opr (X : cxR K O n pt rk sd s τ) {j : Nat} (hj : j < n) : l_Md_operators (nI j) τ = some (O j, τ) := by
  have := X.1
  rw [l_Md_operators, e_lA (by omega) (by omega), (X.2.2.2.1 j hj).2]
theorem m_rank (X : cxR K O n pt rk sd s τ) {j : Nat} (hj : j < n) (hk : K j = 1 ∨ K j = 2) : F_Md_rankOf (nI s) (O j) τ = some (nI (rk j), τ) := by
  obtain ⟨-, -, -, -, df, kf, σ0, nn, -, -, h7, h8⟩ := X
  obtain ⟨o, ho, e1, e2, e3⟩ := h8 j hj hk
  rw [e1, e2]; exact (h7 o ho).2.2.2.2.2.2
theorem m_side (X : cxR K O n pt rk sd s τ) {j : Nat} (hj : j < n) (hk : K j = 1 ∨ K j = 2) : F_Md_sideOf (nI s) (O j) τ = some (nI (sd j), τ) := by
  obtain ⟨-, -, -, -, df, kf, σ0, nn, -, -, h7, h8⟩ := X
  obtain ⟨o, ho, e1, e2, e3⟩ := h8 j hj hk
  rw [e1, e3]; exact (h7 o ho).2.2.2.2.1
/-- whether j begins a right section -/
theorem m_begins (X : cxR K O n pt rk sd s τ) {j : Nat} (hj : j < n) : F_Md_begins (nI j) τ = some (if K j = 1 ∧ 0 < j ∧ K (j - 1) = 3 then 1 else 0, τ) := by
  have hn := X.1
  rw [F_Md_begins, e_bnd (m_kd X hj)]
  by_cases h1 : K j = 1
  · rw [e_if h1]
    by_cases h2 : 0 < j
    · rw [e_el (by rw [q_le0 (by omega)]; omega), q_s1 h2, e_bnd (m_kd X (by omega))]
      by_cases h3 : K (j - 1) = 3
      · rw [e_if h3, if_pos ⟨h1, h2, h3⟩]; rfl
      · rw [e_el h3, if_neg (fun z => h3 z.2.2)]; rfl
    · rw [e_if (by rw [q_le0 (by omega)]; omega), if_neg (fun z => h2 z.2.1)]; rfl
  · rw [e_el h1, if_neg (fun z => h1 z.1)]; rfl
end CXR
theorem stk_old {K : Nat → Int32} {i x : Nat} : ∀ {j : Nat}, i ≤ j → x ∈ stk K j → x ∈ stk K i ∨ i ≤ x
  | 0, h, hx => by
    have : i = 0 := by omega
    subst this; exact Or.inl hx
  | j + 1, h, hx => by
    by_cases e : i = j + 1
    · subst e; exact Or.inl hx
    · unfold stk at hx
      split at hx
      · rcases List.mem_cons.mp hx with rfl | hx
        · exact Or.inr (by omega)
        · exact stk_old (by omega) hx
      · split at hx
        · exact stk_old (by omega) (List.mem_of_mem_tail hx)
        · exact stk_old (by omega) hx
/-- a bracket that is closed is open no more -/
theorem stk_shut {K : Nat → Int32} {a b j : Nat} {s : List Nat} (h4 : K b = 4) (hs : stk K b = a :: s) (hb : b < j) : a ∉ stk K j := by
  intro h
  have e : stk K (b + 1) = s := by
    simp only [stk]
    rw [if_neg (by rw [h4]; decide), if_pos h4, hs]; rfl
  rcases stk_old (i := b + 1) (by omega) h with h | h
  · rw [e] at h
    have := stk_pw (K := K) (j := b)
    rw [hs] at this
    have := (List.pairwise_cons.mp this).1 a h
    omega
  · have := stk_hd hs; omega
/-- what the reference has learned of the row ahead of j -/
def LN (K : Nat → Int32) (j : Nat) (τ : fx_S) : Prop := (∀ i, i < j → ¬ K i = 4 → τ.2.1 15 i = gO (stk K i)) ∧ (∀ b a s, b < j → K b = 4 → stk K b = a :: s → τ.2.1 16 a = nI b ∧ τ.2.1 16 b = nI a)
theorem LN_fr {K : Nat → Int32} {j : Nat} {τ τ' : fx_S} (h : LN K j τ) (g : τ'.2.1 15 = τ.2.1 15 ∧ τ'.2.1 16 = τ.2.1 16) : LN K j τ' := by
  unfold LN at *
  rw [g.1, g.2]; exact h
theorem m_learn {K O : Nat → Int32} {V : Nat → Int64} {n : Nat} {pt : Int32} {rk sd : Nat → Nat} {s : Nat} (hg : gr K O V n) (hdep : ∀ j, j ≤ n → (stk K j).length ≤ 40) : ∀ (m j f : Nat) (τ : fx_S), m + j = n → cxR K O n pt rk sd s τ → LN K j τ → SK (nI (stk K j).length) (τ.2.1 18) (stk K j) → ∃ τ', fx_loop2 F_Md_learn_B4 (f + m + 1) (nI (stk K j).length) (nI j) τ = some ((), τ') ∧ LN K n τ' ∧ frL τ τ' ∧ τ'.1 = τ.1 := by
  intro m
  induction m with
  | zero =>
    intro j f τ hj X hL hS
    have : j = n := by omega
    subst this
    have hn := X.1
    refine ⟨τ, ?_, hL, frL_rfl, rfl⟩
    rw [show f + 0 + 1 = f + 1 from rfl, e_loop2, F_Md_learn_B4, e_bnd (e_gI _ _), X.2.1, e_if (by rw [q_le (by omega) (by omega)]; omega)]; rfl
  | succ m ih =>
    intro j f τ hj X hL hS
    have hn := X.1
    have hjn : j < n := by omega
    have hd := hdep j (by omega)
    have hd1 := hdep (j + 1) (by omega)
    rw [show f + (m + 1) + 1 = (f + m + 1) + 1 by omega, e_loop2, F_Md_learn_B4, e_bnd (e_gI _ _), X.2.1, e_el (by rw [q_le (by omega) (by omega)]; omega), e_bnd (m_kd X hjn)]
    -- what J49 does
    have J : ∀ (τ1 : fx_S) (l : List Nat), cxR K O n pt rk sd s τ1 → l.length ≤ 40 → SK (nI l.length) (τ1.2.1 18) l → (stk K (j + 1) = if K j = 3 then j :: l else l) → (∀ i, i < j → ¬ K i = 4 → τ1.2.1 15 i = gO (stk K i)) → (¬ K j = 4 → gO l = gO (stk K j)) → (∀ b a s, b < j + 1 → K b = 4 → stk K b = a :: s → τ1.2.1 16 a = nI b ∧ τ1.2.1 16 b = nI a) → frL τ τ1 → τ1.1 = τ.1 → ∃ τ', F_Md_learn_J49 (fx_loop2 F_Md_learn_B4 (f + m + 1)) (nI l.length) (nI j) τ1 = some ((), τ') ∧ LN K n τ' ∧ frL τ τ' ∧ τ'.1 = τ.1 := by
      intro τ1 l X1 hl hS1 hst hg1 hg2 hm hf hr
      have e1 : F_Md_learn_J49 (fx_loop2 F_Md_learn_B4 (f + m + 1)) (nI l.length) (nI j) τ1 = F_Md_learn_J70 (fx_loop2 F_Md_learn_B4 (f + m + 1)) (nI l.length) (nI j) (gO l) (nI j) τ1 := by
        rw [F_Md_learn_J49]
        cases l with
        | nil => rw [e_if (by decide)]; rfl
        | cons b l' =>
          rw [List.length_cons] at hl ⊢
          rw [e_el (nI_ne0 (by omega) (by omega)), q_s1 (by omega), Nat.add_sub_cancel, e_bnd (e_lA (by omega) (by omega)), (SK_pop hS1).2]; rfl
      rw [e1, F_Md_learn_J70, e_bnd (e_sA (by omega) (by omega))]
      let τ2 : fx_S := (τ1.1, va_up τ1.2.1 15 (upd (τ1.2.1 15) j (gO l)), τ1.2.2)
      have X2 : cxR K O n pt rk sd s τ2 := cxR_fr X1 (fun _ _ => rfl) (fun a ha => va_up_ne _ _ (by omega))
      have L2 : LN K (j + 1) τ2 := by
        refine ⟨fun i hi h4 => ?_, hm⟩
        show upd (τ1.2.1 15) j (gO l) i = _
        by_cases e : i = j
        · subst e; rw [q_us]; exact hg2 h4
        · rw [q_un _ _ e]; exact hg1 i (by omega) h4
      have F2 : frL τ τ2 := frL_tr hf ⟨fun _ _ => rfl, fun a ha => va_up_ne _ _ (by omega), rfl⟩
      refine (?_ : ∃ τ', fx_bnd (l_Md_kinds (nI j)) _ τ2 = _ ∧ _)
      rw [e_bnd (m_kd X2 hjn)]
      by_cases h3 : K j = 3
      · rw [if_pos h3] at hst
        rw [hst, List.length_cons] at hd1
        rw [e_if h3, e_bnd (e_sA (by omega) (by omega)), e_bnd (e_pur _ _), nI_1, F_Md_learn_J91, e_bnd (e_pur _ _), nI_1]
        let τ3 : fx_S := (τ2.1, va_up τ2.2.1 18 (upd (τ2.2.1 18) l.length (nI j)), τ2.2.2)
        have X3 : cxR K O n pt rk sd s τ3 := cxR_fr X2 (fun _ _ => rfl) (fun a ha => va_up_ne _ _ (by omega))
        obtain ⟨τ', i1, i2, i3, i4⟩ := ih (j + 1) f τ3 (by omega) X3 (LN_fr L2 ⟨rfl, rfl⟩) (by rw [hst]; exact SK_push hS1 j)
        rw [hst] at i1
        have F3 : frL τ2 τ3 := ⟨fun _ _ => rfl, fun a ha => va_up_ne _ _ (by omega), rfl⟩
        exact ⟨τ', i1, i2, frL_tr F2 (frL_tr F3 i3), i4.trans hr⟩
      · rw [if_neg h3] at hst
        rw [e_el h3, F_Md_learn_J91, e_bnd (e_pur _ _), nI_1]
        obtain ⟨τ', i1, i2, i3, i4⟩ := ih (j + 1) f τ2 (by omega) X2 L2 (by rw [hst]; exact hS1)
        rw [hst] at i1
        exact ⟨τ', i1, i2, frL_tr F2 i3, i4.trans hr⟩
    by_cases h4 : K j = 4
    · obtain ⟨b, l, hbl⟩ : ∃ b l, stk K j = b :: l := by
        rcases (hg j hjn).1 with ⟨h, -⟩ | ⟨h, -⟩ | ⟨-, b, l, h, -⟩
        · rw [h4] at h; exact absurd h (by decide)
        · rw [h4] at h; exact absurd h (by decide)
        · exact ⟨b, l, h⟩
      have hbj := stk_hd hbl
      have hst : stk K (j + 1) = l := by
        simp only [stk]
        rw [if_neg (by rw [h4]; decide), if_pos h4, hbl]; rfl
      have hlen : (stk K j).length = l.length + 1 := by rw [hbl, List.length_cons]
      rw [hbl] at hS
      have hS' : SK (nI l.length) (τ.2.1 18) l := (SK_pop hS).1
      have hp : τ.2.1 18 l.length = nI b := (SK_pop hS).2
      have e7 : nI (l.length + 1) + (-1) = nI l.length := by
        rw [show nI (l.length + 1) + (-1 : Int32) = nI (l.length + 1) - 1 by rw [Int32.sub_eq_add_neg], q_s1 (by omega), Nat.add_sub_cancel]
      rw [e_if h4, hlen, e7, e_bnd (e_pur _ _), e_bnd (e_lA (by omega) (by omega)), hp, e_bnd (e_sA (by omega) (by omega))]
      let τ1 : fx_S := (τ.1, va_up τ.2.1 16 (upd (τ.2.1 16) b (nI j)), τ.2.2)
      let τ2 : fx_S := (τ.1, va_up τ1.2.1 16 (upd (τ1.2.1 16) j (nI b)), τ.2.2)
      have q1 : l_Md_pile (nI l.length) τ1 = some (nI b, τ1) := by
        rw [l_Md_pile, e_lA (by omega) (by omega)]
        show some (τ.2.1 18 l.length, τ1) = _
        rw [hp]
      have q2 : s_Md_match (nI j) (nI b) τ1 = some ((), τ2) := e_sA (by omega) (by omega)
      have Q : F_Md_learn_J49 (fx_loop2 F_Md_learn_B4 (f + m + 1)) (nI l.length) (nI j) τ2 = (fx_bnd (l_Md_pile (nI l.length)) fun x9 => fx_bnd (s_Md_match (nI j) x9) fun _ => F_Md_learn_J49 (fx_loop2 F_Md_learn_B4 (f + m + 1)) (nI l.length) (nI j)) τ1 := by
        rw [e_bnd q1, e_bnd q2]
      refine (?_ : ∃ τ', (fx_bnd (l_Md_pile (nI l.length)) fun x9 => fx_bnd (s_Md_match (nI j) x9) fun _ => F_Md_learn_J49 (fx_loop2 F_Md_learn_B4 (f + m + 1)) (nI l.length) (nI j)) τ1 = _ ∧ _)
      rw [← Q]
      have b16 : τ2.2.1 16 = upd (upd (τ.2.1 16) b (nI j)) j (nI b) := rfl
      refine J τ2 l (cxR_fr X (fun _ _ => rfl) (fun a ha => ?_)) (by rw [hst] at hd1; exact hd1) hS' (by rw [hst, if_neg (by rw [h4]; decide)]) hL.1 (fun h => absurd h4 h) ?_ ⟨fun _ _ => rfl, fun a ha => ?_, rfl⟩ rfl
      · show va_up (va_up τ.2.1 16 _) 16 _ a = _
        rw [va_up_ne _ _ (by omega), va_up_ne _ _ (by omega)]
      · intro b' a' s' hb' hk' hs'
        rw [b16]
        by_cases e : b' = j
        · subst e
          rw [hbl] at hs'
          obtain ⟨rfl, rfl⟩ := List.cons.inj hs'
          exact ⟨by rw [q_un _ _ (by omega), q_us], by rw [q_us]⟩
        · have ha' := stk_hd hs'
          have hne : a' ≠ b := by
            rintro rfl
            exact stk_shut hk' hs' (show b' < j by omega) (by rw [hbl]; exact List.mem_cons_self)
          have hne2 : b' ≠ b := by
            rintro rfl
            have : K b' = 3 := stk_3 (j := j) (by rw [hbl]; exact List.mem_cons_self)
            rw [hk'] at this; exact absurd this (by decide)
          rw [q_un _ _ (by omega), q_un _ _ hne, q_un _ _ e, q_un _ _ hne2]
          exact hL.2 b' a' s' (by omega) hk' hs'
      · show va_up (va_up τ.2.1 16 _) 16 _ a = _
        rw [va_up_ne _ _ (by omega), va_up_ne _ _ (by omega)]
    · rw [e_el h4]
      refine J τ (stk K j) X hd hS ?_ hL.1 (fun _ => rfl) ?_ frL_rfl rfl
      · simp only [stk]
        by_cases h3 : K j = 3
        · rw [if_pos h3, if_pos h3]
        · rw [if_neg h3, if_neg h3, if_neg h4]
      · intro b' a' s' hb' hk' hs'
        by_cases e : b' = j
        · subst e; exact absurd hk' h4
        · exact hL.2 b' a' s' (by omega) hk' hs'
/-- the newest that waits in group g ahead of i -/
theorem m_newA {τ : fx_S} {g : Int32} : ∀ (i f : Nat), i ≤ 200 → (∀ p, p < i → ¬ (¬ τ.2.1 17 p = 0 ∧ τ.2.1 15 p = g)) → fx_loop2 F_Md_newest_B4 (f + i + 1) g (nI i - 1) τ = some (-1, τ)
  | 0, f, _, _ => by
    rw [e_loop2, F_Md_newest_B4, show nI 0 - 1 = (-1 : Int32) by decide, e_if (by decide)]; rfl
  | i + 1, f, hi, h => by
    rw [show f + (i + 1) + 1 = (f + i + 1) + 1 by omega, e_loop2, F_Md_newest_B4, q_s1 (by omega), Nat.add_sub_cancel, e_el (q_neg (by omega)), e_bnd (e_lA (by omega) (by omega))]
    have e1 : nI i + (-1) = nI i - 1 := by rw [Int32.sub_eq_add_neg]
    have nx : F_Md_newest_J27 (fx_loop2 F_Md_newest_B4 (f + i + 1)) g (nI i) τ = some (-1, τ) := by
      rw [F_Md_newest_J27, e_bnd (e_pur _ _), e1]
      exact m_newA i f (by omega) (fun p hp => h p (by omega))
    by_cases h0 : τ.2.1 17 i = 0
    · rw [e_if h0]; exact nx
    · rw [e_el h0, e_bnd (e_lA (by omega) (by omega)), e_el (fun z => h i (by omega) ⟨h0, z⟩)]; exact nx
theorem m_newB {τ : fx_S} {g : Int32} {w : Nat} : ∀ (i f : Nat), i ≤ 200 → w < i → ¬ τ.2.1 17 w = 0 → τ.2.1 15 w = g → (∀ p, w < p → p < i → ¬ (¬ τ.2.1 17 p = 0 ∧ τ.2.1 15 p = g)) → fx_loop2 F_Md_newest_B4 (f + i + 1) g (nI i - 1) τ = some (nI w, τ)
  | 0, f, _, hw, _, _, _ => by omega
  | i + 1, f, hi, hw, h1, h2, h => by
    rw [show f + (i + 1) + 1 = (f + i + 1) + 1 by omega, e_loop2, F_Md_newest_B4, q_s1 (by omega), Nat.add_sub_cancel, e_el (q_neg (by omega)), e_bnd (e_lA (by omega) (by omega))]
    have e1 : nI i + (-1) = nI i - 1 := by rw [Int32.sub_eq_add_neg]
    by_cases hwi : w = i
    · subst hwi
      rw [e_el h1, e_bnd (e_lA (by omega) (by omega)), e_if h2]; rfl
    · have nx : F_Md_newest_J27 (fx_loop2 F_Md_newest_B4 (f + i + 1)) g (nI i) τ = some (nI w, τ) := by
        rw [F_Md_newest_J27, e_bnd (e_pur _ _), e1]
        exact m_newB i f (by omega) (by omega) h1 h2 (fun p hp hp2 => h p hp (by omega))
      by_cases h0 : τ.2.1 17 i = 0
      · rw [e_if h0]; exact nx
      · rw [e_el h0, e_bnd (e_lA (by omega) (by omega)), e_el (fun z => h i (by omega) (by omega) ⟨h0, z⟩)]; exact nx
/-- the flags of what waits -/
def wtR (j : Nat) (W : List Nat) (τ : fx_S) : Prop := ∀ p, p < j → τ.2.1 17 p = if p ∈ W then 1 else 0
/-- the level's newest, among all that wait -/
theorem m_new {K : Nat → Int32} {τ : fx_S} {j n : Nat} {ws : List Nat} {wo : List Nat} {bs : List Nat} (hj : j ≤ 200) (hjn : j ≤ n) (hL : LN K n τ) (hw : wtR j (ws ++ wo) τ) (hks : ∀ x ∈ ws ++ wo, x < j ∧ (K x = 1 ∨ K x = 2)) (hg : ∀ w ∈ ws, gO (stk K w) = gO bs) (hpw : (ws ++ wo).Pairwise (fun a b => b < a)) (ho : ∀ x ∈ wo, x + 1 < sO bs) (hb : sO bs ≤ 201) : F_Md_newest (gO bs) (nI j) τ = some (match ws with | [] => -1 | w :: _ => nI w, τ) := by
  have hk4 : ∀ x ∈ ws ++ wo, ¬ K x = 4 := fun x hx => by
    rcases (hks x hx).2 with q | q <;> rw [q] <;> decide
  have out : ∀ p, p < j → p ∉ ws → ¬ (¬ τ.2.1 17 p = 0 ∧ τ.2.1 15 p = gO bs) := by
    rintro p hp hn ⟨h1, h2⟩
    rw [hw p hp] at h1
    by_cases hm : p ∈ ws ++ wo
    · rw [hL.1 p (by omega) (hk4 p hm)] at h2
      rcases List.mem_append.mp hm with hm | hm
      · exact hn hm
      · have h3 := ho p hm
        cases bs with
        | nil => exact absurd h3 (by show ¬ p + 1 < 0; omega)
        | cons b bs =>
          have h3' : p + 1 < b + 1 := h3
          have hb' : b + 1 ≤ 201 := hb
          cases hs : stk K p with
          | nil => rw [hs] at h2; exact absurd h2 (q_m1l (by omega))
          | cons c s =>
            rw [hs] at h2
            have h4 : nI c = nI b := h2
            have := stk_hd hs
            rw [q_eq (by omega) (by omega)] at h4
            omega
    · rw [if_neg hm] at h1; exact h1 rfl
  rw [F_Md_newest, e_bnd (e_pur _ _), show fx_fuel = (fx_fuel - j - 1) + j + 1 by unfold fx_fuel; omega]
  cases ws with
  | nil => exact m_newA j _ hj (fun p hp => out p hp (by simp))
  | cons w ws =>
    have hwm : w ∈ (w :: ws) ++ wo := by simp
    have hwj := (hks w hwm).1
    refine m_newB j _ hj hwj ?_ ?_ (fun p h1 h2 => out p h2 (fun hm => ?_))
    · rw [hw w hwj, if_pos hwm]; decide
    · rw [hL.1 w (by omega) (hk4 w hwm)]; exact hg w (by simp)
    · rcases List.mem_cons.mp hm with rfl | hm
      · omega
      · have := (List.pairwise_cons.mp hpw).1 p (List.mem_append_left _ hm)
        omega
/-- how many wait -/
def cnW (W : List Nat) : Nat → Nat
  | 0 => 0
  | i + 1 => cnW W i + (if i ∈ W then 1 else 0)
theorem cnW_skip {w : Nat} {W : List Nat} : ∀ {i : Nat}, i ≤ w → cnW (w :: W) i = cnW W i
  | 0, _ => rfl
  | i + 1, h => by
    have : (i ∈ w :: W) = (i ∈ W) := by
      apply propext
      constructor
      · intro q
        rcases List.mem_cons.mp q with rfl | q
        · omega
        · exact q
      · exact fun q => List.mem_cons_of_mem _ q
    simp only [cnW, cnW_skip (show i ≤ w by omega), this]
theorem cnW_top {W : List Nat} {m : Nat} (h : ∀ x ∈ W, x < m) : ∀ k, cnW W (m + k) = cnW W m
  | 0 => rfl
  | k + 1 => by
    rw [show m + (k + 1) = (m + k) + 1 from rfl, cnW, cnW_top h k, if_neg (fun q => by have := h _ q; omega)]; rfl
theorem cnW_len : ∀ {W : List Nat} {m : Nat}, W.Pairwise (fun a b => b < a) → (∀ x ∈ W, x < m) → cnW W m = W.length
  | [], m, _, _ => by
    have e := cnW_top (W := []) (m := 0) (fun x hx => by simp at hx) m
    rw [Nat.zero_add] at e
    rw [e]; rfl
  | w :: W, m, hp, h => by
    obtain ⟨p1, p2⟩ := List.pairwise_cons.mp hp
    have hw := h w (by simp)
    have e := cnW_top (W := w :: W) (m := w + 1) (fun x hx => by
      rcases List.mem_cons.mp hx with rfl | hx
      · omega
      · have := p1 x hx; omega) (m - (w + 1))
    rw [show w + 1 + (m - (w + 1)) = m by omega] at e
    rw [e, cnW, cnW_skip (Nat.le_refl _), cnW_len p2 (fun x hx => p1 x hx), if_pos (by simp), List.length_cons]
theorem cnW_le (W : List Nat) : ∀ m, cnW W m ≤ m
  | 0 => Nat.le_refl _
  | m + 1 => by
    have := cnW_le W m
    simp only [cnW]
    split <;> omega
theorem m_count {τ : fx_S} {j M : Nat} {W : List Nat} {k26 : Int32 → Int32 → fx_M Int32} {v1 : Int32} (hj : j < 200) (hM : M < 2 ^ 31) (hm : τ.1 33 = nI M) (hw : wtR (j + 1) W τ) : ∀ (m i f : Nat), m + i = j + 1 → fx_loop4 (F_Md_goThrough_B107 k26) (f + m + 1) v1 (nI j) (nI (cnW W i)) (nI i) τ = F_Md_goThrough_J154 k26 v1 (nI j) (nI (max M (cnW W (j + 1)))) τ
  | 0, i, f, h => by
    have : i = j + 1 := by omega
    subst this
    have hc := cnW_le W (j + 1)
    rw [e_loop4, F_Md_goThrough_B107, e_if (by rw [q_lt (by omega) (by omega)]; omega), e_bnd (e_gI _ _), hm]
    by_cases q : cnW W (j + 1) ≤ M
    · rw [e_if ((q_le (by omega) hM).mpr q), e_bnd (e_gI _ _), hm, Nat.max_eq_left q]
    · rw [e_el (fun z => q ((q_le (by omega) hM).mp z)), Nat.max_eq_right (by omega)]
  | m + 1, i, f, h => by
    rw [show f + (m + 1) + 1 = (f + m + 1) + 1 by omega, e_loop4, F_Md_goThrough_B107, e_el (by rw [q_lt (by omega) (by omega)]; omega), e_bnd (e_lA (by omega) (by omega)), hw i (by omega)]
    have ih := m_count hj hM hm hw (k26 := k26) (v1 := v1) m (i + 1) f (by omega)
    by_cases q : i ∈ W
    · rw [if_pos q, e_el (by decide), F_Md_goThrough_J129, e_bnd (e_pur _ _), e_bnd (e_pur _ _), nI_1, nI_1, ← ih]
      simp only [cnW, if_pos q]
    · rw [if_neg q, e_if rfl, F_Md_goThrough_J129, e_bnd (e_pur _ _), e_bnd (e_pur _ _), nI_1, ← ih]
      simp only [cnW, if_neg q]
      rw [show nI (cnW W i) + 0 = nI (cnW W i + 0) from nI_add _ 0]
