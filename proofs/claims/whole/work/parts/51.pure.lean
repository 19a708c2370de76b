/-! THE ROW -/
def lkA (K : Nat → Int32) (n : Nat) : Int32 := if n = 0 then -1 else K (n - 1)
theorem r_kind {σ : fx_S} {n j : Nat} (hz : σ.1 117 = nI n) (hn : n ≤ 200) (hj : j < n) : F_Row_kindAt (nI j) σ = some (σ.2.1 8 j, σ) := by
  simp (disch := omega) only [F_Row_kindAt, F_Row_has, fx_bnd, fx_bndx, e_gI, e_pI, e_rz0, e_rz1, e_ret, e_pur, e_thr, e_if, e_el, hz, q_lt, q_le, q_eq, q_lt0, q_0lt, q_le0, q_0le, q_eq0, q_lt1, q_1lt, q_le1, q_1le, q_eq1, q_lt2, q_2lt, q_le2, q_2le, q_eq2, q_lt3, q_3lt, q_le3, q_3le, q_eq3, q_lt4, q_4lt, q_le4, q_4le, q_eq4, q_lt6, q_6lt, q_le6, q_6le, q_eq6, q_lt10, q_10lt, q_le10, q_10le, q_eq10, q_lt30, q_30lt, q_le30, q_30le, q_eq30, q_lt40, q_40lt, q_le40, q_40le, q_eq40, q_lt41, q_41lt, q_le41, q_41le, q_eq41, q_lt200, q_200lt, q_le200, q_200le, q_eq200, q_lt400, q_400lt, q_le400, q_400le, q_eq400, q_lt600, q_600lt, q_le600, q_600le, q_eq600, q_lt800, q_800lt, q_le800, q_800le, q_eq800, q_lt900, q_900lt, q_le900, q_900le, q_eq900, q_0eq, q_1eq, q_2eq, q_3eq, q_4eq, q_neg, q_m1, q_m1l, q_s1, nI_1, q_1a, nI_add, q_mul, q_m41, q_41m, q_dn, q_dm10, q_dm11, q_dm12, q_dm13, q_dm14, q_d0m1, q_d01, q_d02, q_d03, q_d04, q_d1m1, q_d10, q_d12, q_d13, q_d14, q_d2m1, q_d20, q_d21, q_d23, q_d24, q_d3m1, q_d30, q_d31, q_d32, q_d34, q_d4m1, q_d40, q_d41, q_d42, q_d43, if_true, if_false, eq_self, e_lA]
theorem r_last {σ : fx_S} {n : Nat} (hz : σ.1 117 = nI n) (hn : n ≤ 200) : F_Row_lastKind σ = some (lkA (σ.2.1 8) n, σ) := by
  by_cases h : n = 0
  · subst h
    have e : nI 0 - 1 = (-1 : Int32) := by decide
    simp (disch := omega) only [F_Row_lastKind, F_Row_kindAt, F_Row_has, fx_bnd, fx_bndx, e_gI, e_pI, e_rz0, e_rz1, e_ret, e_pur, e_thr, e_if, e_el, hz, e, q_lt, q_le, q_eq, q_lt0, q_0lt, q_le0, q_0le, q_eq0, q_lt1, q_1lt, q_le1, q_1le, q_eq1, q_lt2, q_2lt, q_le2, q_2le, q_eq2, q_lt3, q_3lt, q_le3, q_3le, q_eq3, q_lt4, q_4lt, q_le4, q_4le, q_eq4, q_lt6, q_6lt, q_le6, q_6le, q_eq6, q_lt10, q_10lt, q_le10, q_10le, q_eq10, q_lt30, q_30lt, q_le30, q_30le, q_eq30, q_lt40, q_40lt, q_le40, q_40le, q_eq40, q_lt41, q_41lt, q_le41, q_41le, q_eq41, q_lt200, q_200lt, q_le200, q_200le, q_eq200, q_lt400, q_400lt, q_le400, q_400le, q_eq400, q_lt600, q_600lt, q_le600, q_600le, q_eq600, q_lt800, q_800lt, q_le800, q_800le, q_eq800, q_lt900, q_900lt, q_le900, q_900le, q_eq900, q_0eq, q_1eq, q_2eq, q_3eq, q_4eq, q_neg, q_m1, q_m1l, q_s1, nI_1, q_1a, nI_add, q_mul, q_m41, q_41m, q_dn, q_dm10, q_dm11, q_dm12, q_dm13, q_dm14, q_d0m1, q_d01, q_d02, q_d03, q_d04, q_d1m1, q_d10, q_d12, q_d13, q_d14, q_d2m1, q_d20, q_d21, q_d23, q_d24, q_d3m1, q_d30, q_d31, q_d32, q_d34, q_d4m1, q_d40, q_d41, q_d42, q_d43, if_true, if_false, eq_self, lkA]
  · simp (disch := omega) only [F_Row_lastKind, fx_bnd, fx_bndx, e_gI, e_pI, e_rz0, e_rz1, e_ret, e_pur, e_thr, e_if, e_el, hz, q_lt, q_le, q_eq, q_lt0, q_0lt, q_le0, q_0le, q_eq0, q_lt1, q_1lt, q_le1, q_1le, q_eq1, q_lt2, q_2lt, q_le2, q_2le, q_eq2, q_lt3, q_3lt, q_le3, q_3le, q_eq3, q_lt4, q_4lt, q_le4, q_4le, q_eq4, q_lt6, q_6lt, q_le6, q_6le, q_eq6, q_lt10, q_10lt, q_le10, q_10le, q_eq10, q_lt30, q_30lt, q_le30, q_30le, q_eq30, q_lt40, q_40lt, q_le40, q_40le, q_eq40, q_lt41, q_41lt, q_le41, q_41le, q_eq41, q_lt200, q_200lt, q_le200, q_200le, q_eq200, q_lt400, q_400lt, q_le400, q_400le, q_eq400, q_lt600, q_600lt, q_le600, q_600le, q_eq600, q_lt800, q_800lt, q_le800, q_800le, q_eq800, q_lt900, q_900lt, q_le900, q_900le, q_eq900, q_0eq, q_1eq, q_2eq, q_3eq, q_4eq, q_neg, q_m1, q_m1l, q_s1, nI_1, q_1a, nI_add, q_mul, q_m41, q_41m, q_dn, q_dm10, q_dm11, q_dm12, q_dm13, q_dm14, q_d0m1, q_d01, q_d02, q_d03, q_d04, q_d1m1, q_d10, q_d12, q_d13, q_d14, q_d2m1, q_d20, q_d21, q_d23, q_d24, q_d3m1, q_d30, q_d31, q_d32, q_d34, q_d4m1, q_d40, q_d41, q_d42, q_d43, if_true, if_false, eq_self, r_kind hz hn (show n - 1 < n by omega), lkA, if_neg h]
/-- a row's kinds -/
theorem gi_k {k o : Int32} {v : Int64} (h : gi k o v) : k = 0 ∨ k = 1 ∨ k = 2 ∨ k = 3 ∨ k = 4 := by
  rcases h with h | h | h | ⟨h | h, -⟩
  · exact Or.inl h.1
  · exact Or.inr (Or.inl h.1)
  · exact Or.inr (Or.inr (Or.inl h.1))
  · exact Or.inr (Or.inr (Or.inr (Or.inl h)))
  · exact Or.inr (Or.inr (Or.inr (Or.inr h)))
theorem gr_lk {K O : Nat → Int32} {V : Nat → Int64} {n : Nat} (h : gr K O V n) : lkA K n = -1 ∧ n = 0 ∨ 0 < n ∧ lkA K n = K (n - 1) ∧ (K (n - 1) = 0 ∨ K (n - 1) = 1 ∨ K (n - 1) = 2 ∨ K (n - 1) = 3 ∨ K (n - 1) = 4) := by
  by_cases h0 : n = 0
  · exact Or.inl ⟨by rw [lkA, if_pos h0], h0⟩
  · exact Or.inr ⟨by omega, by rw [lkA, if_neg h0], gi_k (h (n - 1) (by omega)).2⟩
theorem r_due {σ : fx_S} {n : Nat} {O : Nat → Int32} {V : Nat → Int64} (hz : σ.1 117 = nI n) (hn : n ≤ 200) (hg : gr (σ.2.1 8) O V n) : (F_Row_operandIsDue σ = some (1, σ) ∧ dueA (σ.2.1 8) n) ∨ (F_Row_operandIsDue σ = some (0, σ) ∧ ¬ dueA (σ.2.1 8) n) := by
  have e := r_last hz hn
  rcases gr_lk hg with ⟨h1, h2⟩ | ⟨h1, h2, h3⟩
  · refine Or.inl ⟨?_, Or.inl h2⟩
    simp only [F_Row_operandIsDue, fx_bnd, fx_bndx, e_gI, e_pI, e_rz0, e_rz1, e_ret, e_pur, e_thr, e_if, e_el, e, h1, q_lt, q_le, q_eq, q_lt0, q_0lt, q_le0, q_0le, q_eq0, q_lt1, q_1lt, q_le1, q_1le, q_eq1, q_lt2, q_2lt, q_le2, q_2le, q_eq2, q_lt3, q_3lt, q_le3, q_3le, q_eq3, q_lt4, q_4lt, q_le4, q_4le, q_eq4, q_lt6, q_6lt, q_le6, q_6le, q_eq6, q_lt10, q_10lt, q_le10, q_10le, q_eq10, q_lt30, q_30lt, q_le30, q_30le, q_eq30, q_lt40, q_40lt, q_le40, q_40le, q_eq40, q_lt41, q_41lt, q_le41, q_41le, q_eq41, q_lt200, q_200lt, q_le200, q_200le, q_eq200, q_lt400, q_400lt, q_le400, q_400le, q_eq400, q_lt600, q_600lt, q_le600, q_600le, q_eq600, q_lt800, q_800lt, q_le800, q_800le, q_eq800, q_lt900, q_900lt, q_le900, q_900le, q_eq900, q_0eq, q_1eq, q_2eq, q_3eq, q_4eq, q_neg, q_m1, q_m1l, q_s1, nI_1, q_1a, nI_add, q_mul, q_m41, q_41m, q_dn, q_dm10, q_dm11, q_dm12, q_dm13, q_dm14, q_d0m1, q_d01, q_d02, q_d03, q_d04, q_d1m1, q_d10, q_d12, q_d13, q_d14, q_d2m1, q_d20, q_d21, q_d23, q_d24, q_d3m1, q_d30, q_d31, q_d32, q_d34, q_d4m1, q_d40, q_d41, q_d42, q_d43, if_true, if_false, eq_self]
  · rw [h2] at e
    rcases h3 with h3 | h3 | h3 | h3 | h3
    · refine Or.inr ⟨?_, ?_⟩
      · simp only [F_Row_operandIsDue, fx_bnd, fx_bndx, e_gI, e_pI, e_rz0, e_rz1, e_ret, e_pur, e_thr, e_if, e_el, e, h3, q_lt, q_le, q_eq, q_lt0, q_0lt, q_le0, q_0le, q_eq0, q_lt1, q_1lt, q_le1, q_1le, q_eq1, q_lt2, q_2lt, q_le2, q_2le, q_eq2, q_lt3, q_3lt, q_le3, q_3le, q_eq3, q_lt4, q_4lt, q_le4, q_4le, q_eq4, q_lt6, q_6lt, q_le6, q_6le, q_eq6, q_lt10, q_10lt, q_le10, q_10le, q_eq10, q_lt30, q_30lt, q_le30, q_30le, q_eq30, q_lt40, q_40lt, q_le40, q_40le, q_eq40, q_lt41, q_41lt, q_le41, q_41le, q_eq41, q_lt200, q_200lt, q_le200, q_200le, q_eq200, q_lt400, q_400lt, q_le400, q_400le, q_eq400, q_lt600, q_600lt, q_le600, q_600le, q_eq600, q_lt800, q_800lt, q_le800, q_800le, q_eq800, q_lt900, q_900lt, q_le900, q_900le, q_eq900, q_0eq, q_1eq, q_2eq, q_3eq, q_4eq, q_neg, q_m1, q_m1l, q_s1, nI_1, q_1a, nI_add, q_mul, q_m41, q_41m, q_dn, q_dm10, q_dm11, q_dm12, q_dm13, q_dm14, q_d0m1, q_d01, q_d02, q_d03, q_d04, q_d1m1, q_d10, q_d12, q_d13, q_d14, q_d2m1, q_d20, q_d21, q_d23, q_d24, q_d3m1, q_d30, q_d31, q_d32, q_d34, q_d4m1, q_d40, q_d41, q_d42, q_d43, if_true, if_false, eq_self]
      · unfold dueA; rw [h3]; rintro (h | h | h | h)
        · omega
        all_goals exact absurd h (by decide)
    · exact Or.inl ⟨by simp only [F_Row_operandIsDue, fx_bnd, fx_bndx, e_gI, e_pI, e_rz0, e_rz1, e_ret, e_pur, e_thr, e_if, e_el, e, h3, q_lt, q_le, q_eq, q_lt0, q_0lt, q_le0, q_0le, q_eq0, q_lt1, q_1lt, q_le1, q_1le, q_eq1, q_lt2, q_2lt, q_le2, q_2le, q_eq2, q_lt3, q_3lt, q_le3, q_3le, q_eq3, q_lt4, q_4lt, q_le4, q_4le, q_eq4, q_lt6, q_6lt, q_le6, q_6le, q_eq6, q_lt10, q_10lt, q_le10, q_10le, q_eq10, q_lt30, q_30lt, q_le30, q_30le, q_eq30, q_lt40, q_40lt, q_le40, q_40le, q_eq40, q_lt41, q_41lt, q_le41, q_41le, q_eq41, q_lt200, q_200lt, q_le200, q_200le, q_eq200, q_lt400, q_400lt, q_le400, q_400le, q_eq400, q_lt600, q_600lt, q_le600, q_600le, q_eq600, q_lt800, q_800lt, q_le800, q_800le, q_eq800, q_lt900, q_900lt, q_le900, q_900le, q_eq900, q_0eq, q_1eq, q_2eq, q_3eq, q_4eq, q_neg, q_m1, q_m1l, q_s1, nI_1, q_1a, nI_add, q_mul, q_m41, q_41m, q_dn, q_dm10, q_dm11, q_dm12, q_dm13, q_dm14, q_d0m1, q_d01, q_d02, q_d03, q_d04, q_d1m1, q_d10, q_d12, q_d13, q_d14, q_d2m1, q_d20, q_d21, q_d23, q_d24, q_d3m1, q_d30, q_d31, q_d32, q_d34, q_d4m1, q_d40, q_d41, q_d42, q_d43, if_true, if_false, eq_self], Or.inr (Or.inl h3)⟩
    · exact Or.inl ⟨by simp only [F_Row_operandIsDue, fx_bnd, fx_bndx, e_gI, e_pI, e_rz0, e_rz1, e_ret, e_pur, e_thr, e_if, e_el, e, h3, q_lt, q_le, q_eq, q_lt0, q_0lt, q_le0, q_0le, q_eq0, q_lt1, q_1lt, q_le1, q_1le, q_eq1, q_lt2, q_2lt, q_le2, q_2le, q_eq2, q_lt3, q_3lt, q_le3, q_3le, q_eq3, q_lt4, q_4lt, q_le4, q_4le, q_eq4, q_lt6, q_6lt, q_le6, q_6le, q_eq6, q_lt10, q_10lt, q_le10, q_10le, q_eq10, q_lt30, q_30lt, q_le30, q_30le, q_eq30, q_lt40, q_40lt, q_le40, q_40le, q_eq40, q_lt41, q_41lt, q_le41, q_41le, q_eq41, q_lt200, q_200lt, q_le200, q_200le, q_eq200, q_lt400, q_400lt, q_le400, q_400le, q_eq400, q_lt600, q_600lt, q_le600, q_600le, q_eq600, q_lt800, q_800lt, q_le800, q_800le, q_eq800, q_lt900, q_900lt, q_le900, q_900le, q_eq900, q_0eq, q_1eq, q_2eq, q_3eq, q_4eq, q_neg, q_m1, q_m1l, q_s1, nI_1, q_1a, nI_add, q_mul, q_m41, q_41m, q_dn, q_dm10, q_dm11, q_dm12, q_dm13, q_dm14, q_d0m1, q_d01, q_d02, q_d03, q_d04, q_d1m1, q_d10, q_d12, q_d13, q_d14, q_d2m1, q_d20, q_d21, q_d23, q_d24, q_d3m1, q_d30, q_d31, q_d32, q_d34, q_d4m1, q_d40, q_d41, q_d42, q_d43, if_true, if_false, eq_self], Or.inr (Or.inr (Or.inl h3))⟩
    · exact Or.inl ⟨by simp only [F_Row_operandIsDue, fx_bnd, fx_bndx, e_gI, e_pI, e_rz0, e_rz1, e_ret, e_pur, e_thr, e_if, e_el, e, h3, q_lt, q_le, q_eq, q_lt0, q_0lt, q_le0, q_0le, q_eq0, q_lt1, q_1lt, q_le1, q_1le, q_eq1, q_lt2, q_2lt, q_le2, q_2le, q_eq2, q_lt3, q_3lt, q_le3, q_3le, q_eq3, q_lt4, q_4lt, q_le4, q_4le, q_eq4, q_lt6, q_6lt, q_le6, q_6le, q_eq6, q_lt10, q_10lt, q_le10, q_10le, q_eq10, q_lt30, q_30lt, q_le30, q_30le, q_eq30, q_lt40, q_40lt, q_le40, q_40le, q_eq40, q_lt41, q_41lt, q_le41, q_41le, q_eq41, q_lt200, q_200lt, q_le200, q_200le, q_eq200, q_lt400, q_400lt, q_le400, q_400le, q_eq400, q_lt600, q_600lt, q_le600, q_600le, q_eq600, q_lt800, q_800lt, q_le800, q_800le, q_eq800, q_lt900, q_900lt, q_le900, q_900le, q_eq900, q_0eq, q_1eq, q_2eq, q_3eq, q_4eq, q_neg, q_m1, q_m1l, q_s1, nI_1, q_1a, nI_add, q_mul, q_m41, q_41m, q_dn, q_dm10, q_dm11, q_dm12, q_dm13, q_dm14, q_d0m1, q_d01, q_d02, q_d03, q_d04, q_d1m1, q_d10, q_d12, q_d13, q_d14, q_d2m1, q_d20, q_d21, q_d23, q_d24, q_d3m1, q_d30, q_d31, q_d32, q_d34, q_d4m1, q_d40, q_d41, q_d42, q_d43, if_true, if_false, eq_self], Or.inr (Or.inr (Or.inr h3))⟩
    · refine Or.inr ⟨?_, ?_⟩
      · simp only [F_Row_operandIsDue, fx_bnd, fx_bndx, e_gI, e_pI, e_rz0, e_rz1, e_ret, e_pur, e_thr, e_if, e_el, e, h3, q_lt, q_le, q_eq, q_lt0, q_0lt, q_le0, q_0le, q_eq0, q_lt1, q_1lt, q_le1, q_1le, q_eq1, q_lt2, q_2lt, q_le2, q_2le, q_eq2, q_lt3, q_3lt, q_le3, q_3le, q_eq3, q_lt4, q_4lt, q_le4, q_4le, q_eq4, q_lt6, q_6lt, q_le6, q_6le, q_eq6, q_lt10, q_10lt, q_le10, q_10le, q_eq10, q_lt30, q_30lt, q_le30, q_30le, q_eq30, q_lt40, q_40lt, q_le40, q_40le, q_eq40, q_lt41, q_41lt, q_le41, q_41le, q_eq41, q_lt200, q_200lt, q_le200, q_200le, q_eq200, q_lt400, q_400lt, q_le400, q_400le, q_eq400, q_lt600, q_600lt, q_le600, q_600le, q_eq600, q_lt800, q_800lt, q_le800, q_800le, q_eq800, q_lt900, q_900lt, q_le900, q_900le, q_eq900, q_0eq, q_1eq, q_2eq, q_3eq, q_4eq, q_neg, q_m1, q_m1l, q_s1, nI_1, q_1a, nI_add, q_mul, q_m41, q_41m, q_dn, q_dm10, q_dm11, q_dm12, q_dm13, q_dm14, q_d0m1, q_d01, q_d02, q_d03, q_d04, q_d1m1, q_d10, q_d12, q_d13, q_d14, q_d2m1, q_d20, q_d21, q_d23, q_d24, q_d3m1, q_d30, q_d31, q_d32, q_d34, q_d4m1, q_d40, q_d41, q_d42, q_d43, if_true, if_false, eq_self]
      · unfold dueA; rw [h3]; rintro (h | h | h | h)
        · omega
        all_goals exact absurd h (by decide)
theorem stk_snoc {K : Nat → Int32} {n : Nat} {k : Int32} : stk (upd K n k) (n + 1) = if k = 3 then n :: stk K n else if k = 4 then (stk K n).tail else stk K n := by
  have e := stk_congr (K := K) (K' := upd K n k) (j := n) (fun i hi => q_un _ _ (by omega))
  simp only [stk, q_us, e]
theorem nkA_snoc {K : Nat → Int32} {n j : Nat} {k : Int32} (hj : j < n) (h4 : k = 4 → j + 1 = n → ¬ (K j = 1 ∧ ¬ (0 < j ∧ K (j - 1) = 3))) : nkA (upd K n k) (n + 1) j = nkA K n j := by
  unfold nkA
  rw [q_un _ _ (show j ≠ n by omega), q_un _ _ (show j - 1 ≠ n by omega)]
  by_cases h1 : j + 1 = n
  · subst h1
    rw [q_us]
    by_cases hk : k = 4
    · have h5 := h4 hk rfl
      by_cases a : K j = 3 ∨ K j = 4
      · rw [if_pos a, if_pos a]
      · rw [if_neg a, if_neg a]
        by_cases b : K j = 1 ∧ 0 < j ∧ K (j - 1) = 3
        · rw [if_pos b, if_pos b]
        · rw [if_neg b, if_neg b]
          have c : ¬ K j = 1 := fun c => h5 ⟨c, fun d => b ⟨c, d⟩⟩
          rw [if_neg (fun z => c z.1), if_neg (fun z => c z.1)]
    · rw [if_neg (c := K j = 1 ∧ j + 1 < j + 1 + 1 ∧ k = 4) (fun z => hk z.2.2), if_neg (c := K j = 1 ∧ j + 1 < j + 1 ∧ K (j + 1) = 4) (fun z => by omega)]
  · rw [q_un _ _ h1]
    have e : (j + 1 < n + 1) = (j + 1 < n) := by
      apply propext; omega
    simp only [e]
theorem rsA_snoc {K : Nat → Int32} {n b : Nat} {k : Int32} (hb : b < n) (h : b + 1 = n → ¬ k = 1) : rsA (upd K n k) (n + 1) b = rsA K n b := by
  unfold rsA
  by_cases h1 : b + 1 = n
  · rw [h1, q_us, if_neg (fun z => h h1 z.2), if_neg (fun z => by omega)]
  · rw [q_un _ _ h1]
    have e : (b + 1 < n + 1) = (b + 1 < n) := by
      apply propext; omega
    simp only [e]
theorem gr_snoc {K O : Nat → Int32} {V : Nat → Int64} {n : Nat} {k o : Int32} {v : Int64} (h : gr K O V n) (hg : gj (upd K n k) n) (hi : gi k o v) : gr (upd K n k) (upd O n o) (vp_updL V n v) (n + 1) := by
  intro j hj
  by_cases e : j = n
  · subst e
    rw [q_us, q_us, q_usL]
    exact ⟨hg, hi⟩
  · obtain ⟨g1, g2⟩ := h j (by omega)
    rw [q_un _ _ e, q_un _ _ e, q_unL _ _ e]
    exact ⟨gj_upd (n := n) (by omega) (fun i hi => q_un _ _ (by omega)) g1, g2⟩
theorem dep_snoc {K : Nat → Int32} {n : Nat} {k : Int32} (h : ∀ j, j ≤ n → (stk K j).length ≤ 40) (hd : (stk (upd K n k) (n + 1)).length ≤ 40) : ∀ j, j ≤ n + 1 → (stk (upd K n k) j).length ≤ 40 := by
  intro j hj
  by_cases e : j = n + 1
  · subst e; exact hd
  · rw [stk_congr (K := K) (fun i hi => q_un _ _ (by omega))]
    exact h j (by omega)
/-- what add leaves alone -/
def addF (σ σ' : fx_S) : Prop := (∀ r, r ≠ 117 → r ≠ 118 → σ'.1 r = σ.1 r) ∧ (∀ a, a ≠ 8 → a ≠ 9 → a ≠ 10 → a ≠ 12 → σ'.2.1 a = σ.2.1 a) ∧ (∀ a, a ≠ 11 → σ'.2.2 a = σ.2.2 a)
theorem rev_hd {s : List Nat} {b e b' : Nat} (h : (b :: s).reverse[e]? = some b') : (e = s.length ∧ b' = b) ∨ (e < s.length ∧ s.reverse[e]? = some b') := by
  rw [List.reverse_cons] at h
  have hl := (List.getElem?_eq_some_iff.mp h).1
  simp only [List.length_append, List.length_reverse, List.length_cons, List.length_nil] at hl
  by_cases q : e < s.length
  · rw [List.getElem?_append_left (by rw [List.length_reverse]; exact q)] at h
    exact Or.inr ⟨q, h⟩
  · have : e = s.length := by omega
    subst this
    rw [List.getElem?_append_right (by rw [List.length_reverse]; omega)] at h
    simp only [List.length_reverse, Nat.sub_self, List.getElem?_cons_zero, Option.some.injEq] at h
    exact Or.inl ⟨rfl, h.symm⟩
theorem rev_hd' {s : List Nat} {b : Nat} : (b :: s).reverse[s.length]? = some b := by
  rw [List.reverse_cons, List.getElem?_append_right (by rw [List.length_reverse]; omega)]
  simp
theorem rev_mem {s : List Nat} {e b : Nat} (h : s.reverse[e]? = some b) : b ∈ s := List.mem_reverse.mp (List.mem_of_getElem? h)
theorem r_add {σ : fx_S} {n : Nat} {k o : Int32} {v : Int64} (h : rowC (σ.1 117) (σ.1 118) (σ.2.1 8) (σ.2.1 9) (σ.2.1 10) (σ.2.2 11) (σ.2.1 12) n) (hn : n < 200) (hg : gj (upd (σ.2.1 8) n k) n) (hi : gi k o v) (hd : (stk (upd (σ.2.1 8) n k) (n + 1)).length ≤ 40) :
    ∃ σ', F_Row_add k o v σ = some ((), σ') ∧ rowC (σ'.1 117) (σ'.1 118) (σ'.2.1 8) (σ'.2.1 9) (σ'.2.1 10) (σ'.2.2 11) (σ'.2.1 12) (n + 1) ∧ σ'.2.1 8 = upd (σ.2.1 8) n k ∧ σ'.2.1 10 = upd (σ.2.1 10) n o ∧ σ'.2.2 11 = vp_updL (σ.2.2 11) n v ∧ addF σ σ' := by
  obtain ⟨h2, hz, hzo, hdep, hgr, hnk, hrs⟩ := h
  generalize hK : σ.2.1 8 = K at *
  have hd40 := hdep n (Nat.le_refl _)
  have hst := stk_snoc (K := K) (n := n) (k := k)
  have hgr' := gr_snoc hgr hg hi
  have hdep' := dep_snoc hdep hd
  -- the state when the item is laid
  have e0 : F_Row_add k o v σ = F_Row_add_J61 k (if k = 3 ∨ k = 4 then -1 else k) (nI n) (σ.1, va_up (va_up σ.2.1 8 (upd K n k)) 10 (upd (σ.2.1 10) n o), va_up σ.2.2 11 (vp_updL (σ.2.2 11) n v)) := by
    rcases gi_k hi with rfl | rfl | rfl | rfl | rfl <;> simp (disch := omega) only [F_Row_add, F_Row_isFull, F_Row_add_J56, fx_bnd, fx_bndx, e_gI, e_pI, e_rz0, e_rz1, e_ret, e_pur, e_thr, e_if, e_el, hz, q_lt, q_le, q_eq, q_lt0, q_0lt, q_le0, q_0le, q_eq0, q_lt1, q_1lt, q_le1, q_1le, q_eq1, q_lt2, q_2lt, q_le2, q_2le, q_eq2, q_lt3, q_3lt, q_le3, q_3le, q_eq3, q_lt4, q_4lt, q_le4, q_4le, q_eq4, q_lt6, q_6lt, q_le6, q_6le, q_eq6, q_lt10, q_10lt, q_le10, q_10le, q_eq10, q_lt30, q_30lt, q_le30, q_30le, q_eq30, q_lt40, q_40lt, q_le40, q_40le, q_eq40, q_lt41, q_41lt, q_le41, q_41le, q_eq41, q_lt200, q_200lt, q_le200, q_200le, q_eq200, q_lt400, q_400lt, q_le400, q_400le, q_eq400, q_lt600, q_600lt, q_le600, q_600le, q_eq600, q_lt800, q_800lt, q_le800, q_800le, q_eq800, q_lt900, q_900lt, q_le900, q_900le, q_eq900, q_0eq, q_1eq, q_2eq, q_3eq, q_4eq, q_neg, q_m1, q_m1l, q_s1, nI_1, q_1a, nI_add, q_mul, q_m41, q_41m, q_dn, q_dm10, q_dm11, q_dm12, q_dm13, q_dm14, q_d0m1, q_d01, q_d02, q_d03, q_d04, q_d1m1, q_d10, q_d12, q_d13, q_d14, q_d2m1, q_d20, q_d21, q_d23, q_d24, q_d3m1, q_d30, q_d31, q_d32, q_d34, q_d4m1, q_d40, q_d41, q_d42, q_d43, if_true, if_false, eq_self, e_sA, e_sL, hK, va_up_ne, or_false, or_true, or_self, ne_eq, Nat.reduceEqDiff, not_false_eq_true]
  obtain ⟨σ1, e1⟩ : ∃ σ1 : fx_S, σ1 = (σ.1, va_up (va_up (va_up σ.2.1 8 (upd K n k)) 10 (upd (σ.2.1 10) n o)) 9 (upd (σ.2.1 9) n (if k = 3 ∨ k = 4 then -1 else k)), va_up σ.2.2 11 (vp_updL (σ.2.2 11) n v)) := ⟨_, rfl⟩
  have z1 : σ1.1 117 = nI n := by rw [e1]; exact hz
  have z2 : σ1.1 118 = nI (stk K n).length := by rw [e1]; exact hzo
  have k1 : σ1.2.1 8 = upd K n k := by rw [e1]; rfl
  have l1 : F_Row_lastKind σ1 = some (lkA K n, σ1) := by
    rw [r_last z1 (by omega), k1]
    congr 2
    unfold lkA
    split
    · rfl
    · rw [q_un _ _ (by omega)]
  have base : addF σ σ1 := by
    rw [e1]
    refine ⟨fun _ _ _ => rfl, fun a h8 h9 h10 h12 => ?_, fun a h11 => ?_⟩
    · show va_up (va_up (va_up σ.2.1 8 _) 10 _) 9 _ a = _
      rw [va_up_ne _ _ h9, va_up_ne _ _ h10, va_up_ne _ _ h8]
    · exact va_up_ne _ _ h11
  have nk1 : σ1.2.1 9 = upd (σ.2.1 9) n (if k = 3 ∨ k = 4 then -1 else k) := by rw [e1]; rfl
  have s1 : σ1.2.1 12 = σ.2.1 12 := by rw [e1]; rfl
  have o1 : σ1.2.1 10 = upd (σ.2.1 10) n o := by rw [e1]; rfl
  have v1 : σ1.2.2 11 = vp_updL (σ.2.2 11) n v := by rw [e1]; rfl
  have e2 : F_Row_add k o v σ = (if k = 3 then fx_bnd F_Row_openGroup fun _ => F_Row_add_J103 else if k = 4 then fx_bnd F_Row_closeGroup fun _ => F_Row_add_J103 else if k = 1 then fx_bnd F_Row_lastKind fun x7 => if x7 = 3 then fx_bnd F_Row_beginRightSection fun _ => F_Row_add_J103 else F_Row_add_J103 else F_Row_add_J103) σ1 := by
    rw [e0, F_Row_add_J61, e_bnd (e_sA (by omega) (by omega)), e1]
    rfl
  rw [e2]
  -- the end of each way
  have fin : ∀ (σ2 : fx_S) (zo : Nat), σ2.1 117 = nI n → σ2.1 118 = nI zo → zo = (stk (upd K n k) (n + 1)).length → σ2.2.1 8 = upd K n k → σ2.2.1 10 = upd (σ.2.1 10) n o → σ2.2.2 11 = vp_updL (σ.2.2 11) n v → (∀ j, j < n + 1 → σ2.2.1 9 j = nkA (upd K n k) (n + 1) j) → (∀ e b, (stk (upd K n k) (n + 1)).reverse[e]? = some b → σ2.2.1 12 e = rsA (upd K n k) (n + 1) b) → addF σ σ2 → ∃ σ', F_Row_add_J103 σ2 = some ((), σ') ∧ rowC (σ'.1 117) (σ'.1 118) (σ'.2.1 8) (σ'.2.1 9) (σ'.2.1 10) (σ'.2.2 11) (σ'.2.1 12) (n + 1) ∧ σ'.2.1 8 = upd K n k ∧ σ'.2.1 10 = upd (σ.2.1 10) n o ∧ σ'.2.2 11 = vp_updL (σ.2.2 11) n v ∧ addF σ σ' := by
    intro σ2 zo a1 a2 a3 a4 a5 a6 a7 a8 a9
    refine ⟨(va_up σ2.1 117 (nI (n + 1)), σ2.2.1, σ2.2.2), ?_, ⟨by omega, rfl, ?_, ?_, ?_, ?_, ?_⟩, a4, a5, a6, ⟨fun r h1 h2 => ?_, a9.2.1, a9.2.2⟩⟩
    · simp (disch := omega) only [F_Row_add_J103, fx_bnd, fx_bndx, e_gI, e_pI, e_rz0, e_rz1, e_ret, e_pur, e_thr, e_if, e_el, a1, q_lt, q_le, q_eq, q_lt0, q_0lt, q_le0, q_0le, q_eq0, q_lt1, q_1lt, q_le1, q_1le, q_eq1, q_lt2, q_2lt, q_le2, q_2le, q_eq2, q_lt3, q_3lt, q_le3, q_3le, q_eq3, q_lt4, q_4lt, q_le4, q_4le, q_eq4, q_lt6, q_6lt, q_le6, q_6le, q_eq6, q_lt10, q_10lt, q_le10, q_10le, q_eq10, q_lt30, q_30lt, q_le30, q_30le, q_eq30, q_lt40, q_40lt, q_le40, q_40le, q_eq40, q_lt41, q_41lt, q_le41, q_41le, q_eq41, q_lt200, q_200lt, q_le200, q_200le, q_eq200, q_lt400, q_400lt, q_le400, q_400le, q_eq400, q_lt600, q_600lt, q_le600, q_600le, q_eq600, q_lt800, q_800lt, q_le800, q_800le, q_eq800, q_lt900, q_900lt, q_le900, q_900le, q_eq900, q_0eq, q_1eq, q_2eq, q_3eq, q_4eq, q_neg, q_m1, q_m1l, q_s1, nI_1, q_1a, nI_add, q_mul, q_m41, q_41m, q_dn, q_dm10, q_dm11, q_dm12, q_dm13, q_dm14, q_d0m1, q_d01, q_d02, q_d03, q_d04, q_d1m1, q_d10, q_d12, q_d13, q_d14, q_d2m1, q_d20, q_d21, q_d23, q_d24, q_d3m1, q_d30, q_d31, q_d32, q_d34, q_d4m1, q_d40, q_d41, q_d42, q_d43, if_true, if_false, eq_self]
    · show σ2.1 118 = nI (stk (σ2.2.1 8) (n + 1)).length
      rw [a4, a2, a3]
    · show ∀ j, j ≤ n + 1 → (stk (σ2.2.1 8) j).length ≤ 40
      rw [a4]; exact hdep'
    · show gr (σ2.2.1 8) (σ2.2.1 10) (σ2.2.2 11) (n + 1)
      rw [a4, a5, a6]; exact hgr'
    · show ∀ j, j < n + 1 → σ2.2.1 9 j = nkA (σ2.2.1 8) (n + 1) j
      rw [a4]; exact a7
    · show ∀ e b, (stk (σ2.2.1 8) (n + 1)).reverse[e]? = some b → σ2.2.1 12 e = rsA (σ2.2.1 8) (n + 1) b
      rw [a4]; exact a8
    · show va_up σ2.1 117 (nI (n + 1)) r = σ.1 r
      rw [va_up_ne _ _ h1]; exact a9.1 r h1 h2
  have kd : upd K n k n = k := q_us _ _ _
  have kp : 0 < n → upd K n k (n - 1) = K (n - 1) := fun h => q_un _ _ (by omega)
  have nkold : ∀ j, j < n → (k = 4 → j + 1 = n → ¬ (K j = 1 ∧ ¬ (0 < j ∧ K (j - 1) = 3))) → σ1.2.1 9 j = nkA (upd K n k) (n + 1) j := fun j hj h4 => by
    rw [nk1, q_un _ _ (by omega), hnk j hj, nkA_snoc hj h4]
  rcases gi_k hi with hk | hk | hk | hk | hk
  · -- an operand
    subst hk
    rw [e_el (by decide), e_el (by decide), e_el (by decide)]
    rw [if_neg (by decide), if_neg (by decide)] at hst
    refine fin σ1 _ z1 z2 (by rw [hst]) k1 o1 v1 (fun j hj => ?_) (fun e b hb => ?_) base
    · by_cases e : j = n
      · subst e
        rw [nk1, q_us]; simp [nkA, q_us]
      · exact nkold j (by omega) (fun h => absurd h (by decide))
    · rw [hst] at hb
      rw [s1, hrs e b hb, rsA_snoc (stk_lt (rev_mem hb)) (fun _ => by decide)]
  · -- an operator
    subst hk
    rw [if_neg (by decide), if_neg (by decide)] at hst
    by_cases hop : 0 < n ∧ K (n - 1) = 3
    · -- it begins a right section
      obtain ⟨m, rfl⟩ : ∃ m, n = m + 1 := ⟨n - 1, by omega⟩
      have hK3 : K m = 3 := hop.2
      have hsk : stk K (m + 1) = m :: stk K m := by simp only [stk, if_pos hK3]
      have hlk : lkA K (m + 1) = 3 := by rw [lkA, if_neg (by omega)]; exact hK3
      have hlen : (stk K (m + 1)).length = (stk K m).length + 1 := by rw [hsk, List.length_cons]
      rw [e_el (by decide), e_el (by decide), e_if rfl, e_bnd l1, hlk, e_if rfl]
      have hb : F_Row_beginRightSection σ1 = some ((), (σ1.1, va_up (va_up σ1.2.1 9 (upd (σ1.2.1 9) (m + 1) 4)) 12 (upd (σ1.2.1 12) (stk K m).length 1), σ1.2.2)) := by
        simp (disch := omega) only [F_Row_beginRightSection, fx_bnd, fx_bndx, e_gI, e_pI, e_rz0, e_rz1, e_ret, e_pur, e_thr, e_if, e_el, z1, z2, hlen, q_lt, q_le, q_eq, q_lt0, q_0lt, q_le0, q_0le, q_eq0, q_lt1, q_1lt, q_le1, q_1le, q_eq1, q_lt2, q_2lt, q_le2, q_2le, q_eq2, q_lt3, q_3lt, q_le3, q_3le, q_eq3, q_lt4, q_4lt, q_le4, q_4le, q_eq4, q_lt6, q_6lt, q_le6, q_6le, q_eq6, q_lt10, q_10lt, q_le10, q_10le, q_eq10, q_lt30, q_30lt, q_le30, q_30le, q_eq30, q_lt40, q_40lt, q_le40, q_40le, q_eq40, q_lt41, q_41lt, q_le41, q_41le, q_eq41, q_lt200, q_200lt, q_le200, q_200le, q_eq200, q_lt400, q_400lt, q_le400, q_400le, q_eq400, q_lt600, q_600lt, q_le600, q_600le, q_eq600, q_lt800, q_800lt, q_le800, q_800le, q_eq800, q_lt900, q_900lt, q_le900, q_900le, q_eq900, q_0eq, q_1eq, q_2eq, q_3eq, q_4eq, q_neg, q_m1, q_m1l, q_s1, nI_1, q_1a, nI_add, q_mul, q_m41, q_41m, q_dn, q_dm10, q_dm11, q_dm12, q_dm13, q_dm14, q_d0m1, q_d01, q_d02, q_d03, q_d04, q_d1m1, q_d10, q_d12, q_d13, q_d14, q_d2m1, q_d20, q_d21, q_d23, q_d24, q_d3m1, q_d30, q_d31, q_d32, q_d34, q_d4m1, q_d40, q_d41, q_d42, q_d43, if_true, if_false, eq_self, e_sA, e_sZ1, Nat.add_sub_cancel]
        rfl
      rw [e_bnd hb]
      refine fin _ _ z1 z2 (by rw [hst]) k1 o1 v1 (fun j hj => ?_) (fun e b hb2 => ?_) ⟨base.1, fun a h8 h9 h10 h12 => ?_, base.2.2⟩
      · show upd (σ1.2.1 9) (m + 1) 4 j = _
        by_cases e : j = m + 1
        · subst e
          rw [q_us, nkA, kd, if_neg (by decide), if_pos ⟨rfl, by omega, by rw [kp (by omega)]; exact hop.2⟩]
        · rw [q_un _ _ e]
          exact nkold j (by omega) (fun h => absurd h (by decide))
      · show upd (σ1.2.1 12) (stk K m).length 1 e = _
        rw [hst, hsk] at hb2
        rcases rev_hd hb2 with ⟨rfl, rfl⟩ | ⟨h5, h6⟩
        · rw [q_us, rsA, kd, if_pos ⟨by omega, rfl⟩]
        · rw [q_un _ _ (by omega), s1, hrs e b (by rw [hsk, List.reverse_cons, List.getElem?_append_left (by rw [List.length_reverse]; exact h5)]; exact h6)]
          have := stk_lt (rev_mem h6)
          rw [rsA_snoc (by omega) (fun h9 => by omega)]
      · show va_up (va_up σ1.2.1 9 _) 12 _ a = _
        rw [va_up_ne _ _ h12, va_up_ne _ _ h9]; exact base.2.1 a h8 h9 h10 h12
    · have hlk : ¬ lkA K n = 3 := by
        unfold lkA
        split
        · decide
        · exact fun h => hop ⟨by omega, h⟩
      rw [e_el (by decide), e_el (by decide), e_if rfl, e_bnd l1, e_el hlk]
      refine fin σ1 _ z1 z2 (by rw [hst]) k1 o1 v1 (fun j hj => ?_) (fun e b hb => ?_) base
      · by_cases e : j = n
        · subst e
          rw [nk1, q_us, nkA, kd, if_neg (by decide), if_neg (by decide), if_neg (fun h => hop ⟨h.2.1, by rw [← kp h.2.1]; exact h.2.2⟩), if_neg (fun h => by omega)]
        · exact nkold j (by omega) (fun h => absurd h (by decide))
      · rw [hst] at hb
        have hbn := stk_lt (rev_mem hb)
        rw [s1, hrs e b hb, rsA_snoc hbn (fun h9 _ => ?_)]
        -- the bracket right ahead would be the last item
        have hm : b ∈ stk K n := rev_mem hb
        obtain ⟨m, rfl⟩ : ∃ m, n = m + 1 := ⟨n - 1, by omega⟩
        have hbm : b = m := by omega
        subst hbm
        unfold stk at hm
        split at hm
        · next h3 => exact hop ⟨by omega, h3⟩
        · split at hm
          · have := stk_lt (List.mem_of_mem_tail hm); omega
          · have := stk_lt hm; omega
  · -- a negation
    subst hk
    rw [e_el (by decide), e_el (by decide), e_el (by decide)]
    rw [if_neg (by decide), if_neg (by decide)] at hst
    refine fin σ1 _ z1 z2 (by rw [hst]) k1 o1 v1 (fun j hj => ?_) (fun e b hb => ?_) base
    · by_cases e : j = n
      · subst e
        rw [nk1, q_us]; simp [nkA, q_us]
      · exact nkold j (by omega) (fun h => absurd h (by decide))
    · rw [hst] at hb
      rw [s1, hrs e b hb, rsA_snoc (stk_lt (rev_mem hb)) (fun _ => by decide)]
  · -- a bracket opens
    subst hk
    rw [if_pos rfl] at hst
    rw [e_if rfl]
    have hl : (stk K n).length < 40 := by
      have := hd
      rw [hst, List.length_cons] at this
      omega
    have ho : F_Row_openGroup σ1 = some ((), (va_up σ1.1 118 (nI ((stk K n).length + 1)), va_up σ1.2.1 12 (upd (σ1.2.1 12) (stk K n).length 0), σ1.2.2)) := by
      simp (disch := omega) only [F_Row_openGroup, fx_bnd, fx_bndx, e_gI, e_pI, e_rz0, e_rz1, e_ret, e_pur, e_thr, e_if, e_el, z2, q_lt, q_le, q_eq, q_lt0, q_0lt, q_le0, q_0le, q_eq0, q_lt1, q_1lt, q_le1, q_1le, q_eq1, q_lt2, q_2lt, q_le2, q_2le, q_eq2, q_lt3, q_3lt, q_le3, q_3le, q_eq3, q_lt4, q_4lt, q_le4, q_4le, q_eq4, q_lt6, q_6lt, q_le6, q_6le, q_eq6, q_lt10, q_10lt, q_le10, q_10le, q_eq10, q_lt30, q_30lt, q_le30, q_30le, q_eq30, q_lt40, q_40lt, q_le40, q_40le, q_eq40, q_lt41, q_41lt, q_le41, q_41le, q_eq41, q_lt200, q_200lt, q_le200, q_200le, q_eq200, q_lt400, q_400lt, q_le400, q_400le, q_eq400, q_lt600, q_600lt, q_le600, q_600le, q_eq600, q_lt800, q_800lt, q_le800, q_800le, q_eq800, q_lt900, q_900lt, q_le900, q_900le, q_eq900, q_0eq, q_1eq, q_2eq, q_3eq, q_4eq, q_neg, q_m1, q_m1l, q_s1, nI_1, q_1a, nI_add, q_mul, q_m41, q_41m, q_dn, q_dm10, q_dm11, q_dm12, q_dm13, q_dm14, q_d0m1, q_d01, q_d02, q_d03, q_d04, q_d1m1, q_d10, q_d12, q_d13, q_d14, q_d2m1, q_d20, q_d21, q_d23, q_d24, q_d3m1, q_d30, q_d31, q_d32, q_d34, q_d4m1, q_d40, q_d41, q_d42, q_d43, if_true, if_false, eq_self, e_sZ0]
    rw [e_bnd ho]
    refine fin _ _ z1 rfl (by rw [hst, List.length_cons]) k1 o1 v1 (fun j hj => ?_) (fun e b hb2 => ?_) ⟨fun r h1 h2 => ?_, fun a h8 h9 h10 h12 => ?_, base.2.2⟩
    · show σ1.2.1 9 j = _
      by_cases e : j = n
      · subst e
        rw [nk1, q_us]; simp [nkA, q_us]
      · exact nkold j (by omega) (fun h => absurd h (by decide))
    · show upd (σ1.2.1 12) (stk K n).length 0 e = _
      rw [hst] at hb2
      rcases rev_hd hb2 with ⟨rfl, rfl⟩ | ⟨h5, h6⟩
      · rw [q_us, rsA, if_neg (fun h => by omega)]
      · rw [q_un _ _ (by omega), s1, hrs e b h6, rsA_snoc (stk_lt (rev_mem h6)) (fun _ => by decide)]
    · show va_up σ1.1 118 _ r = _
      rw [va_up_ne _ _ h2]; exact base.1 r h1 h2
    · show va_up σ1.2.1 12 _ a = _
      rw [va_up_ne _ _ h12]; exact base.2.1 a h8 h9 h10 h12
  · -- a bracket closes
    subst hk
    rw [if_neg (by decide), if_pos rfl] at hst
    rw [e_el (by decide), e_if rfl]
    obtain ⟨b, s, hbs, hcl⟩ : ∃ b s, stk K n = b :: s ∧ (¬ dueA K n ∨ (0 < n ∧ K (n - 1) = 1 ∧ ¬ K (b + 1) = 1)) := by
      have hgs := stk_congr (K := K) (K' := upd K n 4) (j := n) (fun i hi => q_un _ _ (by omega))
      have hb9 : ∀ b s, stk K n = b :: s → b < n := fun b s h => stk_hd h
      rcases hg with ⟨h, -⟩ | ⟨h, -⟩ | ⟨-, b, s, h1, h2⟩
      · rw [kd] at h; exact absurd h (by decide)
      · rw [kd] at h; exact absurd h (by decide)
      · rw [hgs] at h1
        refine ⟨b, s, h1, ?_⟩
        have hb3 := hb9 b s h1
        have d : dueA (upd K n 4) n ↔ dueA K n := by
          unfold dueA
          by_cases h0 : n = 0
          · simp [h0]
          · rw [kp (by omega)]
        rw [d] at h2
        rcases h2 with h2 | ⟨h3, h4, h5⟩
        · exact Or.inl h2
        · rw [kp h3] at h4
          by_cases h6 : b + 1 = n
          · exfalso
            obtain ⟨m, rfl⟩ : ∃ m, n = m + 1 := ⟨n - 1, by omega⟩
            have : b = m := by omega
            subst this
            have h7 : K b = 1 := h4
            have h8 : stk K (b + 1) = stk K b := by simp only [stk]; rw [if_neg (by rw [h7]; decide), if_neg (by rw [h7]; decide)]
            have : b ∈ stk K b := by rw [← h8, h1]; exact List.mem_cons_self
            have := stk_lt this
            omega
          · rw [q_un _ _ h6] at h5
            exact Or.inr ⟨h3, h4, h5⟩
    have hlen : (stk K n).length = s.length + 1 := by rw [hbs, List.length_cons]
    have hst' : stk (upd K n 4) (n + 1) = s := by rw [hst, hbs, List.tail_cons]
    have hn0 : 0 < n := by
      have := stk_hd hbs; omega
    by_cases hop : K (n - 1) = 1
    · have hlk : lkA K n = 1 := by rw [lkA, if_neg (by omega)]; exact hop
      have hnr : ¬ (0 < n - 1 ∧ K (n - 1 - 1) = 3) := by
        rintro ⟨g1, g2⟩
        obtain ⟨m, rfl⟩ : ∃ m, n = m + 2 := ⟨n - 2, by omega⟩
        have h3 : K m = 3 := g2
        have h1 : K (m + 1) = 1 := hop
        have e9 : stk K (m + 2) = m :: stk K m := by
          show (if K (m + 1) = 3 then _ else if K (m + 1) = 4 then _ else stk K (m + 1)) = _
          rw [h1, if_neg (by decide), if_neg (by decide)]
          show (if K m = 3 then _ else _) = _
          rw [if_pos h3]
        have hbm : b = m := by
          rw [hbs] at e9
          exact (List.cons.inj e9).1
        subst hbm
        rcases hcl with hcl | ⟨-, -, hcl⟩
        · exact hcl (Or.inr (Or.inl hop))
        · exact hcl h1
      have hc : F_Row_closeGroup σ1 = some ((), (va_up σ1.1 118 (nI s.length), va_up σ1.2.1 9 (upd (σ1.2.1 9) (n - 1) 3), σ1.2.2)) := by
        have l2 : F_Row_lastKind (va_up σ1.1 118 (nI s.length), σ1.2.1, σ1.2.2) = some (1, (va_up σ1.1 118 (nI s.length), σ1.2.1, σ1.2.2)) := by
          rw [r_last (σ := (va_up σ1.1 118 (nI s.length), σ1.2.1, σ1.2.2)) (n := n) z1 (by omega)]
          congr 2
          show lkA (σ1.2.1 8) n = 1
          rw [k1, lkA, if_neg (by omega), kp hn0]; exact hop
        have z9 : va_up σ1.1 118 (nI s.length) 117 = nI n := z1
        simp (disch := omega) only [F_Row_closeGroup, F_Row_closeGroup_J17, fx_bnd, fx_bndx, e_gI, e_pI, e_rz0, e_rz1, e_ret, e_pur, e_thr, e_if, e_el, z2, hlen, q_lt, q_le, q_eq, q_lt0, q_0lt, q_le0, q_0le, q_eq0, q_lt1, q_1lt, q_le1, q_1le, q_eq1, q_lt2, q_2lt, q_le2, q_2le, q_eq2, q_lt3, q_3lt, q_le3, q_3le, q_eq3, q_lt4, q_4lt, q_le4, q_4le, q_eq4, q_lt6, q_6lt, q_le6, q_6le, q_eq6, q_lt10, q_10lt, q_le10, q_10le, q_eq10, q_lt30, q_30lt, q_le30, q_30le, q_eq30, q_lt40, q_40lt, q_le40, q_40le, q_eq40, q_lt41, q_41lt, q_le41, q_41le, q_eq41, q_lt200, q_200lt, q_le200, q_200le, q_eq200, q_lt400, q_400lt, q_le400, q_400le, q_eq400, q_lt600, q_600lt, q_le600, q_600le, q_eq600, q_lt800, q_800lt, q_le800, q_800le, q_eq800, q_lt900, q_900lt, q_le900, q_900le, q_eq900, q_0eq, q_1eq, q_2eq, q_3eq, q_4eq, q_neg, q_m1, q_m1l, q_s1, nI_1, q_1a, nI_add, q_mul, q_m41, q_41m, q_dn, q_dm10, q_dm11, q_dm12, q_dm13, q_dm14, q_d0m1, q_d01, q_d02, q_d03, q_d04, q_d1m1, q_d10, q_d12, q_d13, q_d14, q_d2m1, q_d20, q_d21, q_d23, q_d24, q_d3m1, q_d30, q_d31, q_d32, q_d34, q_d4m1, q_d40, q_d41, q_d42, q_d43, if_true, if_false, eq_self, Nat.add_sub_cancel, l2, z9, e_sA]
      rw [e_bnd hc]
      refine fin _ _ z1 rfl (by rw [hst']) k1 o1 v1 (fun j hj => ?_) (fun e b' hb2 => ?_) ⟨fun r h1 h2 => ?_, fun a h8 h9 h10 h12 => ?_, base.2.2⟩
      · show upd (σ1.2.1 9) (n - 1) 3 j = _
        by_cases e : j = n
        · subst e
          rw [q_un _ _ (by omega), nk1, q_us]; simp [nkA, q_us]
        · by_cases e2 : j = n - 1
          · subst e2
            rw [q_us, nkA, q_un _ _ (by omega), hop, if_neg (by decide), if_neg, if_pos ⟨rfl, by omega, by rw [show n - 1 + 1 = n by omega, q_us]⟩]
            rintro ⟨-, g1, g2⟩
            rw [q_un _ _ (by omega)] at g2
            exact hnr ⟨g1, g2⟩
          · rw [q_un _ _ e2]
            exact nkold j (by omega) (fun _ h => by omega)
      · show σ1.2.1 12 e = _
        rw [hst'] at hb2
        have h5 : e < s.length := by
          have := (List.getElem?_eq_some_iff.mp hb2).1
          rwa [List.length_reverse] at this
        have hbn := stk_lt (K := K) (j := n) (by rw [hbs]; exact List.mem_cons_of_mem _ (rev_mem hb2))
        rw [s1, hrs e b' (by rw [hbs, List.reverse_cons, List.getElem?_append_left (by rw [List.length_reverse]; exact h5)]; exact hb2), rsA_snoc hbn (fun _ => by decide)]
      · show va_up σ1.1 118 _ r = _
        rw [va_up_ne _ _ h2]; exact base.1 r h1 h2
      · show va_up σ1.2.1 9 _ a = _
        rw [va_up_ne _ _ h9]; exact base.2.1 a h8 h9 h10 h12
    · have hc : F_Row_closeGroup σ1 = some ((), (va_up σ1.1 118 (nI s.length), σ1.2.1, σ1.2.2)) := by
        have l2 : F_Row_lastKind (va_up σ1.1 118 (nI s.length), σ1.2.1, σ1.2.2) = some (K (n - 1), (va_up σ1.1 118 (nI s.length), σ1.2.1, σ1.2.2)) := by
          rw [r_last (σ := (va_up σ1.1 118 (nI s.length), σ1.2.1, σ1.2.2)) (n := n) z1 (by omega)]
          congr 2
          show lkA (σ1.2.1 8) n = _
          rw [k1, lkA, if_neg (by omega), kp hn0]
        simp (disch := omega) only [F_Row_closeGroup, F_Row_closeGroup_J17, fx_bnd, fx_bndx, e_gI, e_pI, e_rz0, e_rz1, e_ret, e_pur, e_thr, e_if, e_el, z2, hlen, q_lt, q_le, q_eq, q_lt0, q_0lt, q_le0, q_0le, q_eq0, q_lt1, q_1lt, q_le1, q_1le, q_eq1, q_lt2, q_2lt, q_le2, q_2le, q_eq2, q_lt3, q_3lt, q_le3, q_3le, q_eq3, q_lt4, q_4lt, q_le4, q_4le, q_eq4, q_lt6, q_6lt, q_le6, q_6le, q_eq6, q_lt10, q_10lt, q_le10, q_10le, q_eq10, q_lt30, q_30lt, q_le30, q_30le, q_eq30, q_lt40, q_40lt, q_le40, q_40le, q_eq40, q_lt41, q_41lt, q_le41, q_41le, q_eq41, q_lt200, q_200lt, q_le200, q_200le, q_eq200, q_lt400, q_400lt, q_le400, q_400le, q_eq400, q_lt600, q_600lt, q_le600, q_600le, q_eq600, q_lt800, q_800lt, q_le800, q_800le, q_eq800, q_lt900, q_900lt, q_le900, q_900le, q_eq900, q_0eq, q_1eq, q_2eq, q_3eq, q_4eq, q_neg, q_m1, q_m1l, q_s1, nI_1, q_1a, nI_add, q_mul, q_m41, q_41m, q_dn, q_dm10, q_dm11, q_dm12, q_dm13, q_dm14, q_d0m1, q_d01, q_d02, q_d03, q_d04, q_d1m1, q_d10, q_d12, q_d13, q_d14, q_d2m1, q_d20, q_d21, q_d23, q_d24, q_d3m1, q_d30, q_d31, q_d32, q_d34, q_d4m1, q_d40, q_d41, q_d42, q_d43, if_true, if_false, eq_self, Nat.add_sub_cancel, l2, hop]
      rw [e_bnd hc]
      refine fin _ _ z1 rfl (by rw [hst']) k1 o1 v1 (fun j hj => ?_) (fun e b' hb2 => ?_) ⟨fun r h1 h2 => ?_, base.2.1, base.2.2⟩
      · show σ1.2.1 9 j = _
        by_cases e : j = n
        · subst e
          rw [nk1, q_us]; simp [nkA, q_us]
        · exact nkold j (by omega) (fun _ h g => hop (by rw [show n - 1 = j by omega]; exact g.1))
      · show σ1.2.1 12 e = _
        rw [hst'] at hb2
        have h5 : e < s.length := by
          have := (List.getElem?_eq_some_iff.mp hb2).1
          rwa [List.length_reverse] at this
        have hbn := stk_lt (K := K) (j := n) (by rw [hbs]; exact List.mem_cons_of_mem _ (rev_mem hb2))
        rw [s1, hrs e b' (by rw [hbs, List.reverse_cons, List.getElem?_append_left (by rw [List.length_reverse]; exact h5)]; exact hb2), rsA_snoc hbn (fun _ => by decide)]
      · show va_up σ1.1 118 _ r = _
        rw [va_up_ne _ _ h2]; exact base.1 r h1 h2
/-! BEGIN, OPERAND, OPERATOR, OPEN, CLOSE -/
theorem m_add {τ : fx_S} {n : Nat} (hz : τ.1 5 = nI n) (hn : n < 200) (k o : Int32) (v : Int64) : F_Md_add k o v τ = some (nI (n + 1), (va_up τ.1 5 (nI (n + 1)), va_up (va_up τ.2.1 4 (upd (τ.2.1 4) n k)) 5 (upd (τ.2.1 5) n o), va_up τ.2.2 6 (vp_updL (τ.2.2 6) n v))) := by
  have e1 : va_up τ.2.1 4 (upd (τ.2.1 4) n k) 5 = τ.2.1 5 := rfl
  simp (disch := omega) only [F_Md_add, fx_bnd, fx_bndx, e_gI, e_pI, e_rz0, e_rz1, e_ret, e_pur, e_thr, e_if, e_el, hz, q_lt, q_le, q_eq, q_lt0, q_0lt, q_le0, q_0le, q_eq0, q_lt1, q_1lt, q_le1, q_1le, q_eq1, q_lt2, q_2lt, q_le2, q_2le, q_eq2, q_lt3, q_3lt, q_le3, q_3le, q_eq3, q_lt4, q_4lt, q_le4, q_4le, q_eq4, q_lt6, q_6lt, q_le6, q_6le, q_eq6, q_lt10, q_10lt, q_le10, q_10le, q_eq10, q_lt30, q_30lt, q_le30, q_30le, q_eq30, q_lt40, q_40lt, q_le40, q_40le, q_eq40, q_lt41, q_41lt, q_le41, q_41le, q_eq41, q_lt200, q_200lt, q_le200, q_200le, q_eq200, q_lt400, q_400lt, q_le400, q_400le, q_eq400, q_lt600, q_600lt, q_le600, q_600le, q_eq600, q_lt800, q_800lt, q_le800, q_800le, q_eq800, q_lt900, q_900lt, q_le900, q_900le, q_eq900, q_0eq, q_1eq, q_2eq, q_3eq, q_4eq, q_neg, q_m1, q_m1l, q_s1, nI_1, q_1a, nI_add, q_mul, q_m41, q_41m, q_dn, q_dm10, q_dm11, q_dm12, q_dm13, q_dm14, q_d0m1, q_d01, q_d02, q_d03, q_d04, q_d1m1, q_d10, q_d12, q_d13, q_d14, q_d2m1, q_d20, q_d21, q_d23, q_d24, q_d3m1, q_d30, q_d31, q_d32, q_d34, q_d4m1, q_d40, q_d41, q_d42, q_d43, if_true, if_false, eq_self, e_sA, e_sL, e1, va_up_self]
theorem m_last {τ : fx_S} {n : Nat} (hz : τ.1 5 = nI n) (hn : n ≤ 200) : F_Md_lastKind τ = some (lkA (τ.2.1 4) n, τ) := by
  by_cases h : n = 0
  · subst h
    simp (disch := omega) only [F_Md_lastKind, fx_bnd, fx_bndx, e_gI, e_pI, e_rz0, e_rz1, e_ret, e_pur, e_thr, e_if, e_el, hz, q_lt, q_le, q_eq, q_lt0, q_0lt, q_le0, q_0le, q_eq0, q_lt1, q_1lt, q_le1, q_1le, q_eq1, q_lt2, q_2lt, q_le2, q_2le, q_eq2, q_lt3, q_3lt, q_le3, q_3le, q_eq3, q_lt4, q_4lt, q_le4, q_4le, q_eq4, q_lt6, q_6lt, q_le6, q_6le, q_eq6, q_lt10, q_10lt, q_le10, q_10le, q_eq10, q_lt30, q_30lt, q_le30, q_30le, q_eq30, q_lt40, q_40lt, q_le40, q_40le, q_eq40, q_lt41, q_41lt, q_le41, q_41le, q_eq41, q_lt200, q_200lt, q_le200, q_200le, q_eq200, q_lt400, q_400lt, q_le400, q_400le, q_eq400, q_lt600, q_600lt, q_le600, q_600le, q_eq600, q_lt800, q_800lt, q_le800, q_800le, q_eq800, q_lt900, q_900lt, q_le900, q_900le, q_eq900, q_0eq, q_1eq, q_2eq, q_3eq, q_4eq, q_neg, q_m1, q_m1l, q_s1, nI_1, q_1a, nI_add, q_mul, q_m41, q_41m, q_dn, q_dm10, q_dm11, q_dm12, q_dm13, q_dm14, q_d0m1, q_d01, q_d02, q_d03, q_d04, q_d1m1, q_d10, q_d12, q_d13, q_d14, q_d2m1, q_d20, q_d21, q_d23, q_d24, q_d3m1, q_d30, q_d31, q_d32, q_d34, q_d4m1, q_d40, q_d41, q_d42, q_d43, if_true, if_false, eq_self, lkA]
  · simp (disch := omega) only [F_Md_lastKind, fx_bnd, fx_bndx, e_gI, e_pI, e_rz0, e_rz1, e_ret, e_pur, e_thr, e_if, e_el, hz, q_lt, q_le, q_eq, q_lt0, q_0lt, q_le0, q_0le, q_eq0, q_lt1, q_1lt, q_le1, q_1le, q_eq1, q_lt2, q_2lt, q_le2, q_2le, q_eq2, q_lt3, q_3lt, q_le3, q_3le, q_eq3, q_lt4, q_4lt, q_le4, q_4le, q_eq4, q_lt6, q_6lt, q_le6, q_6le, q_eq6, q_lt10, q_10lt, q_le10, q_10le, q_eq10, q_lt30, q_30lt, q_le30, q_30le, q_eq30, q_lt40, q_40lt, q_le40, q_40le, q_eq40, q_lt41, q_41lt, q_le41, q_41le, q_eq41, q_lt200, q_200lt, q_le200, q_200le, q_eq200, q_lt400, q_400lt, q_le400, q_400le, q_eq400, q_lt600, q_600lt, q_le600, q_600le, q_eq600, q_lt800, q_800lt, q_le800, q_800le, q_eq800, q_lt900, q_900lt, q_le900, q_900le, q_eq900, q_0eq, q_1eq, q_2eq, q_3eq, q_4eq, q_neg, q_m1, q_m1l, q_s1, nI_1, q_1a, nI_add, q_mul, q_m41, q_41m, q_dn, q_dm10, q_dm11, q_dm12, q_dm13, q_dm14, q_d0m1, q_d01, q_d02, q_d03, q_d04, q_d1m1, q_d10, q_d12, q_d13, q_d14, q_d2m1, q_d20, q_d21, q_d23, q_d24, q_d3m1, q_d30, q_d31, q_d32, q_d34, q_d4m1, q_d40, q_d41, q_d42, q_d43, if_true, if_false, eq_self, lkA, if_neg h, e_lA]
theorem lkA_cg {K K' : Nat → Int32} {n : Nat} (h : ∀ j, j < n → K' j = K j) : lkA K' n = lkA K n := by
  unfold lkA
  split
  · rfl
  · exact h _ (by omega)
theorem m_due {τ : fx_S} {n : Nat} {K O : Nat → Int32} {V : Nat → Int64} (hz : τ.1 5 = nI n) (hn : n ≤ 200) (hk : ∀ j, j < n → τ.2.1 4 j = K j) (hg : gr K O V n) : (F_Md_isDue τ = some (1, τ) ∧ dueA K n) ∨ (F_Md_isDue τ = some (0, τ) ∧ ¬ dueA K n) := by
  have e := m_last hz hn
  rw [lkA_cg hk] at e
  rcases gr_lk hg with ⟨h1, h2⟩ | ⟨h1, h2, h3⟩
  · refine Or.inl ⟨?_, Or.inl h2⟩
    subst h2
    simp (disch := omega) only [F_Md_isDue, fx_bnd, fx_bndx, e_gI, e_pI, e_rz0, e_rz1, e_ret, e_pur, e_thr, e_if, e_el, hz, q_lt, q_le, q_eq, q_lt0, q_0lt, q_le0, q_0le, q_eq0, q_lt1, q_1lt, q_le1, q_1le, q_eq1, q_lt2, q_2lt, q_le2, q_2le, q_eq2, q_lt3, q_3lt, q_le3, q_3le, q_eq3, q_lt4, q_4lt, q_le4, q_4le, q_eq4, q_lt6, q_6lt, q_le6, q_6le, q_eq6, q_lt10, q_10lt, q_le10, q_10le, q_eq10, q_lt30, q_30lt, q_le30, q_30le, q_eq30, q_lt40, q_40lt, q_le40, q_40le, q_eq40, q_lt41, q_41lt, q_le41, q_41le, q_eq41, q_lt200, q_200lt, q_le200, q_200le, q_eq200, q_lt400, q_400lt, q_le400, q_400le, q_eq400, q_lt600, q_600lt, q_le600, q_600le, q_eq600, q_lt800, q_800lt, q_le800, q_800le, q_eq800, q_lt900, q_900lt, q_le900, q_900le, q_eq900, q_0eq, q_1eq, q_2eq, q_3eq, q_4eq, q_neg, q_m1, q_m1l, q_s1, nI_1, q_1a, nI_add, q_mul, q_m41, q_41m, q_dn, q_dm10, q_dm11, q_dm12, q_dm13, q_dm14, q_d0m1, q_d01, q_d02, q_d03, q_d04, q_d1m1, q_d10, q_d12, q_d13, q_d14, q_d2m1, q_d20, q_d21, q_d23, q_d24, q_d3m1, q_d30, q_d31, q_d32, q_d34, q_d4m1, q_d40, q_d41, q_d42, q_d43, if_true, if_false, eq_self]
  · rw [h2] at e
    have i0 : F_Md_isIn 0 1 3 τ = some (0, τ) := rfl
    have i1 : F_Md_isIn 1 1 3 τ = some (1, τ) := rfl
    have i2 : F_Md_isIn 2 1 3 τ = some (1, τ) := rfl
    have i3 : F_Md_isIn 3 1 3 τ = some (1, τ) := rfl
    have i4 : F_Md_isIn 4 1 3 τ = some (0, τ) := rfl
    rcases h3 with h3 | h3 | h3 | h3 | h3 <;> rw [h3] at e
    · refine Or.inr ⟨?_, ?_⟩
      · simp (disch := omega) only [F_Md_isDue, fx_bnd, fx_bndx, e_gI, e_pI, e_rz0, e_rz1, e_ret, e_pur, e_thr, e_if, e_el, hz, e, i0, q_lt, q_le, q_eq, q_lt0, q_0lt, q_le0, q_0le, q_eq0, q_lt1, q_1lt, q_le1, q_1le, q_eq1, q_lt2, q_2lt, q_le2, q_2le, q_eq2, q_lt3, q_3lt, q_le3, q_3le, q_eq3, q_lt4, q_4lt, q_le4, q_4le, q_eq4, q_lt6, q_6lt, q_le6, q_6le, q_eq6, q_lt10, q_10lt, q_le10, q_10le, q_eq10, q_lt30, q_30lt, q_le30, q_30le, q_eq30, q_lt40, q_40lt, q_le40, q_40le, q_eq40, q_lt41, q_41lt, q_le41, q_41le, q_eq41, q_lt200, q_200lt, q_le200, q_200le, q_eq200, q_lt400, q_400lt, q_le400, q_400le, q_eq400, q_lt600, q_600lt, q_le600, q_600le, q_eq600, q_lt800, q_800lt, q_le800, q_800le, q_eq800, q_lt900, q_900lt, q_le900, q_900le, q_eq900, q_0eq, q_1eq, q_2eq, q_3eq, q_4eq, q_neg, q_m1, q_m1l, q_s1, nI_1, q_1a, nI_add, q_mul, q_m41, q_41m, q_dn, q_dm10, q_dm11, q_dm12, q_dm13, q_dm14, q_d0m1, q_d01, q_d02, q_d03, q_d04, q_d1m1, q_d10, q_d12, q_d13, q_d14, q_d2m1, q_d20, q_d21, q_d23, q_d24, q_d3m1, q_d30, q_d31, q_d32, q_d34, q_d4m1, q_d40, q_d41, q_d42, q_d43, if_true, if_false, eq_self]
      · unfold dueA; rw [h3]; rintro (h | h | h | h)
        · omega
        all_goals exact absurd h (by decide)
    · exact Or.inl ⟨by simp (disch := omega) only [F_Md_isDue, fx_bnd, fx_bndx, e_gI, e_pI, e_rz0, e_rz1, e_ret, e_pur, e_thr, e_if, e_el, hz, e, i1, q_lt, q_le, q_eq, q_lt0, q_0lt, q_le0, q_0le, q_eq0, q_lt1, q_1lt, q_le1, q_1le, q_eq1, q_lt2, q_2lt, q_le2, q_2le, q_eq2, q_lt3, q_3lt, q_le3, q_3le, q_eq3, q_lt4, q_4lt, q_le4, q_4le, q_eq4, q_lt6, q_6lt, q_le6, q_6le, q_eq6, q_lt10, q_10lt, q_le10, q_10le, q_eq10, q_lt30, q_30lt, q_le30, q_30le, q_eq30, q_lt40, q_40lt, q_le40, q_40le, q_eq40, q_lt41, q_41lt, q_le41, q_41le, q_eq41, q_lt200, q_200lt, q_le200, q_200le, q_eq200, q_lt400, q_400lt, q_le400, q_400le, q_eq400, q_lt600, q_600lt, q_le600, q_600le, q_eq600, q_lt800, q_800lt, q_le800, q_800le, q_eq800, q_lt900, q_900lt, q_le900, q_900le, q_eq900, q_0eq, q_1eq, q_2eq, q_3eq, q_4eq, q_neg, q_m1, q_m1l, q_s1, nI_1, q_1a, nI_add, q_mul, q_m41, q_41m, q_dn, q_dm10, q_dm11, q_dm12, q_dm13, q_dm14, q_d0m1, q_d01, q_d02, q_d03, q_d04, q_d1m1, q_d10, q_d12, q_d13, q_d14, q_d2m1, q_d20, q_d21, q_d23, q_d24, q_d3m1, q_d30, q_d31, q_d32, q_d34, q_d4m1, q_d40, q_d41, q_d42, q_d43, if_true, if_false, eq_self], Or.inr (Or.inl h3)⟩
    · exact Or.inl ⟨by simp (disch := omega) only [F_Md_isDue, fx_bnd, fx_bndx, e_gI, e_pI, e_rz0, e_rz1, e_ret, e_pur, e_thr, e_if, e_el, hz, e, i2, q_lt, q_le, q_eq, q_lt0, q_0lt, q_le0, q_0le, q_eq0, q_lt1, q_1lt, q_le1, q_1le, q_eq1, q_lt2, q_2lt, q_le2, q_2le, q_eq2, q_lt3, q_3lt, q_le3, q_3le, q_eq3, q_lt4, q_4lt, q_le4, q_4le, q_eq4, q_lt6, q_6lt, q_le6, q_6le, q_eq6, q_lt10, q_10lt, q_le10, q_10le, q_eq10, q_lt30, q_30lt, q_le30, q_30le, q_eq30, q_lt40, q_40lt, q_le40, q_40le, q_eq40, q_lt41, q_41lt, q_le41, q_41le, q_eq41, q_lt200, q_200lt, q_le200, q_200le, q_eq200, q_lt400, q_400lt, q_le400, q_400le, q_eq400, q_lt600, q_600lt, q_le600, q_600le, q_eq600, q_lt800, q_800lt, q_le800, q_800le, q_eq800, q_lt900, q_900lt, q_le900, q_900le, q_eq900, q_0eq, q_1eq, q_2eq, q_3eq, q_4eq, q_neg, q_m1, q_m1l, q_s1, nI_1, q_1a, nI_add, q_mul, q_m41, q_41m, q_dn, q_dm10, q_dm11, q_dm12, q_dm13, q_dm14, q_d0m1, q_d01, q_d02, q_d03, q_d04, q_d1m1, q_d10, q_d12, q_d13, q_d14, q_d2m1, q_d20, q_d21, q_d23, q_d24, q_d3m1, q_d30, q_d31, q_d32, q_d34, q_d4m1, q_d40, q_d41, q_d42, q_d43, if_true, if_false, eq_self], Or.inr (Or.inr (Or.inl h3))⟩
    · exact Or.inl ⟨by simp (disch := omega) only [F_Md_isDue, fx_bnd, fx_bndx, e_gI, e_pI, e_rz0, e_rz1, e_ret, e_pur, e_thr, e_if, e_el, hz, e, i3, q_lt, q_le, q_eq, q_lt0, q_0lt, q_le0, q_0le, q_eq0, q_lt1, q_1lt, q_le1, q_1le, q_eq1, q_lt2, q_2lt, q_le2, q_2le, q_eq2, q_lt3, q_3lt, q_le3, q_3le, q_eq3, q_lt4, q_4lt, q_le4, q_4le, q_eq4, q_lt6, q_6lt, q_le6, q_6le, q_eq6, q_lt10, q_10lt, q_le10, q_10le, q_eq10, q_lt30, q_30lt, q_le30, q_30le, q_eq30, q_lt40, q_40lt, q_le40, q_40le, q_eq40, q_lt41, q_41lt, q_le41, q_41le, q_eq41, q_lt200, q_200lt, q_le200, q_200le, q_eq200, q_lt400, q_400lt, q_le400, q_400le, q_eq400, q_lt600, q_600lt, q_le600, q_600le, q_eq600, q_lt800, q_800lt, q_le800, q_800le, q_eq800, q_lt900, q_900lt, q_le900, q_900le, q_eq900, q_0eq, q_1eq, q_2eq, q_3eq, q_4eq, q_neg, q_m1, q_m1l, q_s1, nI_1, q_1a, nI_add, q_mul, q_m41, q_41m, q_dn, q_dm10, q_dm11, q_dm12, q_dm13, q_dm14, q_d0m1, q_d01, q_d02, q_d03, q_d04, q_d1m1, q_d10, q_d12, q_d13, q_d14, q_d2m1, q_d20, q_d21, q_d23, q_d24, q_d3m1, q_d30, q_d31, q_d32, q_d34, q_d4m1, q_d40, q_d41, q_d42, q_d43, if_true, if_false, eq_self], Or.inr (Or.inr (Or.inr h3))⟩
    · refine Or.inr ⟨?_, ?_⟩
      · simp (disch := omega) only [F_Md_isDue, fx_bnd, fx_bndx, e_gI, e_pI, e_rz0, e_rz1, e_ret, e_pur, e_thr, e_if, e_el, hz, e, i4, q_lt, q_le, q_eq, q_lt0, q_0lt, q_le0, q_0le, q_eq0, q_lt1, q_1lt, q_le1, q_1le, q_eq1, q_lt2, q_2lt, q_le2, q_2le, q_eq2, q_lt3, q_3lt, q_le3, q_3le, q_eq3, q_lt4, q_4lt, q_le4, q_4le, q_eq4, q_lt6, q_6lt, q_le6, q_6le, q_eq6, q_lt10, q_10lt, q_le10, q_10le, q_eq10, q_lt30, q_30lt, q_le30, q_30le, q_eq30, q_lt40, q_40lt, q_le40, q_40le, q_eq40, q_lt41, q_41lt, q_le41, q_41le, q_eq41, q_lt200, q_200lt, q_le200, q_200le, q_eq200, q_lt400, q_400lt, q_le400, q_400le, q_eq400, q_lt600, q_600lt, q_le600, q_600le, q_eq600, q_lt800, q_800lt, q_le800, q_800le, q_eq800, q_lt900, q_900lt, q_le900, q_900le, q_eq900, q_0eq, q_1eq, q_2eq, q_3eq, q_4eq, q_neg, q_m1, q_m1l, q_s1, nI_1, q_1a, nI_add, q_mul, q_m41, q_41m, q_dn, q_dm10, q_dm11, q_dm12, q_dm13, q_dm14, q_d0m1, q_d01, q_d02, q_d03, q_d04, q_d1m1, q_d10, q_d12, q_d13, q_d14, q_d2m1, q_d20, q_d21, q_d23, q_d24, q_d3m1, q_d30, q_d31, q_d32, q_d34, q_d4m1, q_d40, q_d41, q_d42, q_d43, if_true, if_false, eq_self]
      · unfold dueA; rw [h3]; rintro (h | h | h | h)
        · omega
        all_goals exact absurd h (by decide)
theorem o_begin {σ τ : fx_S} (h : Rel σ τ) (a : Int32) (ha : a = 0 ∨ a = 1) : ∃ σ' τ', F_FixityTrees_begin a σ = some ((), σ') ∧ F_Md_begin a τ = some ((), τ') ∧ Rel σ' τ' := by
  obtain ⟨HS, HR, HC, HT, HW⟩ := h
  refine ⟨(va_up (va_up (va_up σ.1 117 0) 118 0) 119 a, σ.2.1, σ.2.2), (va_up (va_up (va_up (va_up τ.1 0 0) 5 0) 10 0) 6 a, τ.2.1, τ.2.2), ?_, ?_, ?_⟩
  · simp only [F_FixityTrees_begin, F_Row_clear, fx_bnd, fx_bndx, e_gI, e_pI, e_rz0, e_rz1, e_ret, e_pur, e_thr, e_if, e_el, e_pZ ha]
  · simp only [F_Md_begin, fx_bnd, fx_bndx, e_gI, e_pI, e_rz0, e_rz1, e_ret, e_pur, e_thr, e_if, e_el, e_pZ ha]
  · refine ⟨HS, ⟨0, ⟨by omega, rfl, rfl, ?_, fun j hj => by omega, fun j hj => by omega, fun e b hb => by simp [stk] at hb⟩, ⟨rfl, rfl, fun j hj => by omega, fun e b hb => by simp [stk] at hb⟩, rfl, ha⟩, HC, HT, HW⟩
    intro j hj
    have : j = 0 := by omega
    subst this
    simp [stk]
/-- one item more, on both sides -/
theorem Rel_add {σ τ : fx_S} {n : Nat} {k o : Int32} {v : Int64} (h : Rel σ τ) (hC : rowC (σ.1 117) (σ.1 118) (σ.2.1 8) (σ.2.1 9) (σ.2.1 10) (σ.2.2 11) (σ.2.1 12) n) (hR : rowR (τ.1 5) (τ.1 10) (τ.2.1 4) (τ.2.1 5) (τ.2.2 6) (τ.2.1 7) (σ.2.1 8) (σ.2.1 10) (σ.2.2 11) n) (hp : σ.1 119 = τ.1 6 ∧ (τ.1 6 = 0 ∨ τ.1 6 = 1))
    (hn : n < 200) (hg : gj (upd (σ.2.1 8) n k) n) (hi : gi k o v) (hd : (stk (upd (σ.2.1 8) n k) (n + 1)).length ≤ 40) :
    ∃ σ', F_Row_add k o v σ = some ((), σ') ∧ σ'.1 117 = nI (n + 1) ∧ ∀ (zo : Int32) (oa : Nat → Int32), zo = nI (stk (upd (σ.2.1 8) n k) (n + 1)).length → (∀ e b, (stk (upd (σ.2.1 8) n k) (n + 1)).reverse[e]? = some b → oa e = nI b) → Rel σ' (va_up (va_up (va_up τ.1 0 0) 10 zo) 5 (nI (n + 1)), va_up (va_up (va_up τ.2.1 7 oa) 4 (upd (τ.2.1 4) n k)) 5 (upd (τ.2.1 5) n o), va_up τ.2.2 6 (vp_updL (τ.2.2 6) n v)) := by
  obtain ⟨σ', a1, a2, a3, a4, a5, a6⟩ := r_add hC hn hg hi hd
  obtain ⟨HS, -, HC, HT, HW⟩ := h
  obtain ⟨f1, f2, f3⟩ := a6
  refine ⟨σ', a1, a2.2.1, fun zo oa hzo hoa => ⟨RS_cg HS ?_ rfl, ⟨n + 1, a2, ⟨rfl, ?_, ?_, ?_⟩, ?_⟩, RC_cg HC ?_ rfl, RT_cg HT ?_ rfl, RW_cg HW ?_ rfl⟩⟩
  · simp only [kS]; rw [f1 18 (by decide) (by decide), f2 2 (by decide) (by decide) (by decide) (by decide), f2 3 (by decide) (by decide) (by decide) (by decide)]
  · rw [a3]; exact hzo
  · intro j hj
    rw [a3, a4, a5]
    show upd (τ.2.1 4) n k j = _ ∧ upd (τ.2.1 5) n o j = _ ∧ vp_updL (τ.2.2 6) n v j = _
    by_cases e : j = n
    · subst e
      rw [q_us, q_us, q_us, q_us, q_usL, q_usL]
      exact ⟨rfl, rfl, rfl⟩
    · rw [q_un _ _ e, q_un _ _ e, q_un _ _ e, q_un _ _ e, q_unL _ _ e, q_unL _ _ e]
      exact hR.2.2.1 j (by omega)
  · rw [a3]; exact hoa
  · rw [f1 119 (by decide) (by decide)]; exact hp
  · simp only [kC]; rw [f1 7 (by decide) (by decide), f1 8 (by decide) (by decide), f1 9 (by decide) (by decide), f1 10 (by decide) (by decide)]
  · simp only [kT]; rw [f1 422 (by decide) (by decide), f1 423 (by decide) (by decide), f2 27 (by decide) (by decide) (by decide) (by decide), f2 28 (by decide) (by decide) (by decide) (by decide), f2 29 (by decide) (by decide) (by decide) (by decide), f2 30 (by decide) (by decide) (by decide) (by decide), f2 31 (by decide) (by decide) (by decide) (by decide), f3 32 (by decide)]
  · simp only [kW]; rw [f1 646 (by decide) (by decide), f1 647 (by decide) (by decide), f2 41 (by decide) (by decide) (by decide) (by decide), f2 42 (by decide) (by decide) (by decide) (by decide), f2 43 (by decide) (by decide) (by decide) (by decide), f3 44 (by decide)]
theorem due_upd {K : Nat → Int32} {n : Nat} {k : Int32} : dueA (upd K n k) n ↔ dueA K n := by
  unfold dueA
  by_cases h0 : n = 0
  · simp [h0]
  · rw [q_un _ _ (by omega)]
/-- a state with the same code, size and open brackets as before -/
theorem m_same {τ : fx_S} {zo : Int32} (hz : τ.1 10 = zo) (z : Int32) : (va_up (va_up τ.1 0 0) 5 z, τ.2.1, τ.2.2) = ((va_up (va_up (va_up τ.1 0 0) 10 zo) 5 z, va_up τ.2.1 7 (τ.2.1 7), τ.2.2) : fx_S) := by
  have e1 : va_up (va_up τ.1 0 0) 10 zo = va_up τ.1 0 0 := by
    funext r
    by_cases h : r = 10
    · subst h; rw [va_up_self]; exact hz.symm
    · rw [va_up_ne _ _ h]
  have e2 : va_up τ.2.1 7 (τ.2.1 7) = τ.2.1 := by
    funext a
    by_cases h : a = 7
    · subst h; rw [va_up_self]
    · rw [va_up_ne _ _ h]
  rw [e1, e2]
theorem m_same2 {τ : fx_S} (b : Nat → Nat → Int32) (hb : b 7 = τ.2.1 7) : va_up b 7 (τ.2.1 7) = b := by
  funext a
  by_cases h : a = 7
  · subst h; rw [va_up_self]; exact hb.symm
  · rw [va_up_ne _ _ h]
theorem m_same1 {τ : fx_S} {zo : Int32} (hz : τ.1 10 = zo) : va_up (va_up τ.1 0 0) 10 zo = va_up τ.1 0 0 := by
  funext r
  by_cases h : r = 10
  · subst h; rw [va_up_self]; exact hz.symm
  · rw [va_up_ne _ _ h]
theorem o_operand {σ τ : fx_S} (h : Rel σ τ) (v : Int64) : lw_op Rel [(1, 1)] (F_FixityTrees_operand v) (F_Md_operand v) (fun r b => r = b) σ τ := by
  obtain ⟨n, hC, hR, hp⟩ := id h.2.1
  obtain ⟨h2, hz, hzo, hdep, hgr, hnk, hrs⟩ := id hC
  obtain ⟨hz', hzo', heq, hoa⟩ := id hR
  have ef : F_Row_isFull σ = some (if n < 200 then 0 else 1, σ) := by
    by_cases q : n < 200
    · simp (disch := omega) only [F_Row_isFull, fx_bnd, fx_bndx, e_gI, e_pI, e_rz0, e_rz1, e_ret, e_pur, e_thr, e_if, e_el, hz, q_lt, q_le, q_eq, q_lt0, q_0lt, q_le0, q_0le, q_eq0, q_lt1, q_1lt, q_le1, q_1le, q_eq1, q_lt2, q_2lt, q_le2, q_2le, q_eq2, q_lt3, q_3lt, q_le3, q_3le, q_eq3, q_lt4, q_4lt, q_le4, q_4le, q_eq4, q_lt6, q_6lt, q_le6, q_6le, q_eq6, q_lt10, q_10lt, q_le10, q_10le, q_eq10, q_lt30, q_30lt, q_le30, q_30le, q_eq30, q_lt40, q_40lt, q_le40, q_40le, q_eq40, q_lt41, q_41lt, q_le41, q_41le, q_eq41, q_lt200, q_200lt, q_le200, q_200le, q_eq200, q_lt400, q_400lt, q_le400, q_400le, q_eq400, q_lt600, q_600lt, q_le600, q_600le, q_eq600, q_lt800, q_800lt, q_le800, q_800le, q_eq800, q_lt900, q_900lt, q_le900, q_900le, q_eq900, q_0eq, q_1eq, q_2eq, q_3eq, q_4eq, q_neg, q_m1, q_m1l, q_s1, nI_1, q_1a, nI_add, q_mul, q_m41, q_41m, q_dn, q_dm10, q_dm11, q_dm12, q_dm13, q_dm14, q_d0m1, q_d01, q_d02, q_d03, q_d04, q_d1m1, q_d10, q_d12, q_d13, q_d14, q_d2m1, q_d20, q_d21, q_d23, q_d24, q_d3m1, q_d30, q_d31, q_d32, q_d34, q_d4m1, q_d40, q_d41, q_d42, q_d43, if_true, if_false, eq_self, if_pos q]
    · simp (disch := omega) only [F_Row_isFull, fx_bnd, fx_bndx, e_gI, e_pI, e_rz0, e_rz1, e_ret, e_pur, e_thr, e_if, e_el, hz, q_lt, q_le, q_eq, q_lt0, q_0lt, q_le0, q_0le, q_eq0, q_lt1, q_1lt, q_le1, q_1le, q_eq1, q_lt2, q_2lt, q_le2, q_2le, q_eq2, q_lt3, q_3lt, q_le3, q_3le, q_eq3, q_lt4, q_4lt, q_le4, q_4le, q_eq4, q_lt6, q_6lt, q_le6, q_6le, q_eq6, q_lt10, q_10lt, q_le10, q_10le, q_eq10, q_lt30, q_30lt, q_le30, q_30le, q_eq30, q_lt40, q_40lt, q_le40, q_40le, q_eq40, q_lt41, q_41lt, q_le41, q_41le, q_eq41, q_lt200, q_200lt, q_le200, q_200le, q_eq200, q_lt400, q_400lt, q_le400, q_400le, q_eq400, q_lt600, q_600lt, q_le600, q_600le, q_eq600, q_lt800, q_800lt, q_le800, q_800le, q_eq800, q_lt900, q_900lt, q_le900, q_900le, q_eq900, q_0eq, q_1eq, q_2eq, q_3eq, q_4eq, q_neg, q_m1, q_m1l, q_s1, nI_1, q_1a, nI_add, q_mul, q_m41, q_41m, q_dn, q_dm10, q_dm11, q_dm12, q_dm13, q_dm14, q_d0m1, q_d01, q_d02, q_d03, q_d04, q_d1m1, q_d10, q_d12, q_d13, q_d14, q_d2m1, q_d20, q_d21, q_d23, q_d24, q_d3m1, q_d30, q_d31, q_d32, q_d34, q_d4m1, q_d40, q_d41, q_d42, q_d43, if_true, if_false, eq_self, if_neg q]
  have bad : F_Row_takesOperand σ = some (0, σ) → F_Md_operand v τ = F_Md_operand_J18 v τ → lw_op Rel [(1, 1)] (F_FixityTrees_operand v) (F_Md_operand v) (fun r b => r = b) σ τ := by
    intro b1 b2
    refine op_thr0 h (b := 0) 1 1 (by simp) ?_ ?_
    · rw [F_FixityTrees_operand, e_bnd b1, e_if rfl]; rfl
    · rw [b2, F_Md_operand_J18, F_Md_operand_J23, e_bnd (m_good (by decide) τ), e_if rfl]; rfl
  rcases m_due hz' h2 (fun j hj => (heq j hj).1) hgr with ⟨d1, d2⟩ | ⟨d1, d2⟩
  · rcases r_due hz h2 hgr with ⟨c1, -⟩ | ⟨-, c2⟩
    · by_cases q : n < 200
      · have hst : stk (upd (σ.2.1 8) n 0) (n + 1) = stk (σ.2.1 8) n := by rw [stk_snoc, if_neg (by decide), if_neg (by decide)]
        obtain ⟨σ', a1, a2, a3⟩ := Rel_add (k := 0) (o := -1) (v := v) h hC hR hp q (Or.inl ⟨Or.inl (q_us _ _ _), due_upd.mpr d2⟩) (Or.inl ⟨rfl, rfl⟩) (by rw [hst]; exact hdep n (Nat.le_refl _))
        have a4 := a3 (τ.1 10) (τ.2.1 7) (by rw [hst]; exact hzo') (by rw [hst]; exact hoa)
        rw [m_same1 rfl, m_same2 _ rfl] at a4
        refine op_ret (r := nI (n + 1)) (b := nI (n + 1)) (σ' := σ') ?_ ?_ ?_ rfl a4
        · have e9 : F_Row_takesOperand σ = some (1, σ) := by
            simp (disch := omega) only [F_Row_takesOperand, fx_bnd, fx_bndx, e_gI, e_pI, e_rz0, e_rz1, e_ret, e_pur, e_thr, e_if, e_el, ef, if_pos q, c1, q_lt, q_le, q_eq, q_lt0, q_0lt, q_le0, q_0le, q_eq0, q_lt1, q_1lt, q_le1, q_1le, q_eq1, q_lt2, q_2lt, q_le2, q_2le, q_eq2, q_lt3, q_3lt, q_le3, q_3le, q_eq3, q_lt4, q_4lt, q_le4, q_4le, q_eq4, q_lt6, q_6lt, q_le6, q_6le, q_eq6, q_lt10, q_10lt, q_le10, q_10le, q_eq10, q_lt30, q_30lt, q_le30, q_30le, q_eq30, q_lt40, q_40lt, q_le40, q_40le, q_eq40, q_lt41, q_41lt, q_le41, q_41le, q_eq41, q_lt200, q_200lt, q_le200, q_200le, q_eq200, q_lt400, q_400lt, q_le400, q_400le, q_eq400, q_lt600, q_600lt, q_le600, q_600le, q_eq600, q_lt800, q_800lt, q_le800, q_800le, q_eq800, q_lt900, q_900lt, q_le900, q_900le, q_eq900, q_0eq, q_1eq, q_2eq, q_3eq, q_4eq, q_neg, q_m1, q_m1l, q_s1, nI_1, q_1a, nI_add, q_mul, q_m41, q_41m, q_dn, q_dm10, q_dm11, q_dm12, q_dm13, q_dm14, q_d0m1, q_d01, q_d02, q_d03, q_d04, q_d1m1, q_d10, q_d12, q_d13, q_d14, q_d2m1, q_d20, q_d21, q_d23, q_d24, q_d3m1, q_d30, q_d31, q_d32, q_d34, q_d4m1, q_d40, q_d41, q_d42, q_d43, if_true, if_false, eq_self]
          rw [F_FixityTrees_operand, e_bnd e9, e_el (by decide), e_bnd a1]
          simp only [F_Row_size, fx_bnd, fx_bndx, e_gI, e_pI, e_rz0, e_rz1, e_ret, e_pur, e_thr, e_if, e_el, a2]
        · rw [F_Md_operand, e_bnd d1, e_el (by decide), e_bnd (e_gI _ _), hz', e_el (by rw [q_eq200 (by omega)]; omega), F_Md_operand_J23, e_bnd (m_good0 τ), e_el (by decide), e_bnd (m_add (τ := (va_up τ.1 0 0, τ.2.1, τ.2.2)) (n := n) hz' q 0 (-1) v)]
          rfl
        · rfl
      · refine bad ?_ ?_
        · simp (disch := omega) only [F_Row_takesOperand, fx_bnd, fx_bndx, e_gI, e_pI, e_rz0, e_rz1, e_ret, e_pur, e_thr, e_if, e_el, ef, if_neg q, q_lt, q_le, q_eq, q_lt0, q_0lt, q_le0, q_0le, q_eq0, q_lt1, q_1lt, q_le1, q_1le, q_eq1, q_lt2, q_2lt, q_le2, q_2le, q_eq2, q_lt3, q_3lt, q_le3, q_3le, q_eq3, q_lt4, q_4lt, q_le4, q_4le, q_eq4, q_lt6, q_6lt, q_le6, q_6le, q_eq6, q_lt10, q_10lt, q_le10, q_10le, q_eq10, q_lt30, q_30lt, q_le30, q_30le, q_eq30, q_lt40, q_40lt, q_le40, q_40le, q_eq40, q_lt41, q_41lt, q_le41, q_41le, q_eq41, q_lt200, q_200lt, q_le200, q_200le, q_eq200, q_lt400, q_400lt, q_le400, q_400le, q_eq400, q_lt600, q_600lt, q_le600, q_600le, q_eq600, q_lt800, q_800lt, q_le800, q_800le, q_eq800, q_lt900, q_900lt, q_le900, q_900le, q_eq900, q_0eq, q_1eq, q_2eq, q_3eq, q_4eq, q_neg, q_m1, q_m1l, q_s1, nI_1, q_1a, nI_add, q_mul, q_m41, q_41m, q_dn, q_dm10, q_dm11, q_dm12, q_dm13, q_dm14, q_d0m1, q_d01, q_d02, q_d03, q_d04, q_d1m1, q_d10, q_d12, q_d13, q_d14, q_d2m1, q_d20, q_d21, q_d23, q_d24, q_d3m1, q_d30, q_d31, q_d32, q_d34, q_d4m1, q_d40, q_d41, q_d42, q_d43, if_true, if_false, eq_self]
        · rw [F_Md_operand, e_bnd d1, e_el (by decide), e_bnd (e_gI _ _), hz', e_if (by rw [q_eq200 (by omega)]; omega)]
    · exact absurd d2 c2
  · rcases r_due hz h2 hgr with ⟨-, c2⟩ | ⟨c1, -⟩
    · exact absurd c2 d2
    · refine bad ?_ ?_
      · by_cases q : n < 200
        · simp (disch := omega) only [F_Row_takesOperand, fx_bnd, fx_bndx, e_gI, e_pI, e_rz0, e_rz1, e_ret, e_pur, e_thr, e_if, e_el, ef, if_pos q, c1, q_lt, q_le, q_eq, q_lt0, q_0lt, q_le0, q_0le, q_eq0, q_lt1, q_1lt, q_le1, q_1le, q_eq1, q_lt2, q_2lt, q_le2, q_2le, q_eq2, q_lt3, q_3lt, q_le3, q_3le, q_eq3, q_lt4, q_4lt, q_le4, q_4le, q_eq4, q_lt6, q_6lt, q_le6, q_6le, q_eq6, q_lt10, q_10lt, q_le10, q_10le, q_eq10, q_lt30, q_30lt, q_le30, q_30le, q_eq30, q_lt40, q_40lt, q_le40, q_40le, q_eq40, q_lt41, q_41lt, q_le41, q_41le, q_eq41, q_lt200, q_200lt, q_le200, q_200le, q_eq200, q_lt400, q_400lt, q_le400, q_400le, q_eq400, q_lt600, q_600lt, q_le600, q_600le, q_eq600, q_lt800, q_800lt, q_le800, q_800le, q_eq800, q_lt900, q_900lt, q_le900, q_900le, q_eq900, q_0eq, q_1eq, q_2eq, q_3eq, q_4eq, q_neg, q_m1, q_m1l, q_s1, nI_1, q_1a, nI_add, q_mul, q_m41, q_41m, q_dn, q_dm10, q_dm11, q_dm12, q_dm13, q_dm14, q_d0m1, q_d01, q_d02, q_d03, q_d04, q_d1m1, q_d10, q_d12, q_d13, q_d14, q_d2m1, q_d20, q_d21, q_d23, q_d24, q_d3m1, q_d30, q_d31, q_d32, q_d34, q_d4m1, q_d40, q_d41, q_d42, q_d43, if_true, if_false, eq_self]
        · simp (disch := omega) only [F_Row_takesOperand, fx_bnd, fx_bndx, e_gI, e_pI, e_rz0, e_rz1, e_ret, e_pur, e_thr, e_if, e_el, ef, if_neg q, q_lt, q_le, q_eq, q_lt0, q_0lt, q_le0, q_0le, q_eq0, q_lt1, q_1lt, q_le1, q_1le, q_eq1, q_lt2, q_2lt, q_le2, q_2le, q_eq2, q_lt3, q_3lt, q_le3, q_3le, q_eq3, q_lt4, q_4lt, q_le4, q_4le, q_eq4, q_lt6, q_6lt, q_le6, q_6le, q_eq6, q_lt10, q_10lt, q_le10, q_10le, q_eq10, q_lt30, q_30lt, q_le30, q_30le, q_eq30, q_lt40, q_40lt, q_le40, q_40le, q_eq40, q_lt41, q_41lt, q_le41, q_41le, q_eq41, q_lt200, q_200lt, q_le200, q_200le, q_eq200, q_lt400, q_400lt, q_le400, q_400le, q_eq400, q_lt600, q_600lt, q_le600, q_600le, q_eq600, q_lt800, q_800lt, q_le800, q_800le, q_eq800, q_lt900, q_900lt, q_le900, q_900le, q_eq900, q_0eq, q_1eq, q_2eq, q_3eq, q_4eq, q_neg, q_m1, q_m1l, q_s1, nI_1, q_1a, nI_add, q_mul, q_m41, q_41m, q_dn, q_dm10, q_dm11, q_dm12, q_dm13, q_dm14, q_d0m1, q_d01, q_d02, q_d03, q_d04, q_d1m1, q_d10, q_d12, q_d13, q_d14, q_d2m1, q_d20, q_d21, q_d23, q_d24, q_d3m1, q_d30, q_d31, q_d32, q_d34, q_d4m1, q_d40, q_d41, q_d42, q_d43, if_true, if_false, eq_self]
      · rw [F_Md_operand, e_bnd d1, e_if rfl]
theorem r_full {σ : fx_S} {n : Nat} (hz : σ.1 117 = nI n) (hn : n ≤ 200) : F_Row_isFull σ = some (if n < 200 then 0 else 1, σ) := by
  by_cases q : n < 200
  · simp (disch := omega) only [F_Row_isFull, fx_bnd, fx_bndx, e_gI, e_pI, e_rz0, e_rz1, e_ret, e_pur, e_thr, e_if, e_el, hz, q_lt, q_le, q_eq, q_lt0, q_0lt, q_le0, q_0le, q_eq0, q_lt1, q_1lt, q_le1, q_1le, q_eq1, q_lt2, q_2lt, q_le2, q_2le, q_eq2, q_lt3, q_3lt, q_le3, q_3le, q_eq3, q_lt4, q_4lt, q_le4, q_4le, q_eq4, q_lt6, q_6lt, q_le6, q_6le, q_eq6, q_lt10, q_10lt, q_le10, q_10le, q_eq10, q_lt30, q_30lt, q_le30, q_30le, q_eq30, q_lt40, q_40lt, q_le40, q_40le, q_eq40, q_lt41, q_41lt, q_le41, q_41le, q_eq41, q_lt200, q_200lt, q_le200, q_200le, q_eq200, q_lt400, q_400lt, q_le400, q_400le, q_eq400, q_lt600, q_600lt, q_le600, q_600le, q_eq600, q_lt800, q_800lt, q_le800, q_800le, q_eq800, q_lt900, q_900lt, q_le900, q_900le, q_eq900, q_0eq, q_1eq, q_2eq, q_3eq, q_4eq, q_neg, q_m1, q_m1l, q_s1, nI_1, q_1a, nI_add, q_mul, q_m41, q_41m, q_dn, q_dm10, q_dm11, q_dm12, q_dm13, q_dm14, q_d0m1, q_d01, q_d02, q_d03, q_d04, q_d1m1, q_d10, q_d12, q_d13, q_d14, q_d2m1, q_d20, q_d21, q_d23, q_d24, q_d3m1, q_d30, q_d31, q_d32, q_d34, q_d4m1, q_d40, q_d41, q_d42, q_d43, if_true, if_false, eq_self, if_pos q]
  · simp (disch := omega) only [F_Row_isFull, fx_bnd, fx_bndx, e_gI, e_pI, e_rz0, e_rz1, e_ret, e_pur, e_thr, e_if, e_el, hz, q_lt, q_le, q_eq, q_lt0, q_0lt, q_le0, q_0le, q_eq0, q_lt1, q_1lt, q_le1, q_1le, q_eq1, q_lt2, q_2lt, q_le2, q_2le, q_eq2, q_lt3, q_3lt, q_le3, q_3le, q_eq3, q_lt4, q_4lt, q_le4, q_4le, q_eq4, q_lt6, q_6lt, q_le6, q_6le, q_eq6, q_lt10, q_10lt, q_le10, q_10le, q_eq10, q_lt30, q_30lt, q_le30, q_30le, q_eq30, q_lt40, q_40lt, q_le40, q_40le, q_eq40, q_lt41, q_41lt, q_le41, q_41le, q_eq41, q_lt200, q_200lt, q_le200, q_200le, q_eq200, q_lt400, q_400lt, q_le400, q_400le, q_eq400, q_lt600, q_600lt, q_le600, q_600le, q_eq600, q_lt800, q_800lt, q_le800, q_800le, q_eq800, q_lt900, q_900lt, q_le900, q_900le, q_eq900, q_0eq, q_1eq, q_2eq, q_3eq, q_4eq, q_neg, q_m1, q_m1l, q_s1, nI_1, q_1a, nI_add, q_mul, q_m41, q_41m, q_dn, q_dm10, q_dm11, q_dm12, q_dm13, q_dm14, q_d0m1, q_d01, q_d02, q_d03, q_d04, q_d1m1, q_d10, q_d12, q_d13, q_d14, q_d2m1, q_d20, q_d21, q_d23, q_d24, q_d3m1, q_d30, q_d31, q_d32, q_d34, q_d4m1, q_d40, q_d41, q_d42, q_d43, if_true, if_false, eq_self, if_neg q]
theorem o_operator {σ τ : fx_S} (h : Rel σ τ) (v : Int32) : lw_op Rel [(0, 1), (1, 2)] (F_FixityTrees_operator v) (F_Md_operator v) (fun r b => r = b) σ τ := by
  obtain ⟨n, hC, hR, hp, hp1⟩ := id h.2.1
  obtain ⟨h2, hz, hzo, hdep, hgr, hnk, hrs⟩ := id hC
  obtain ⟨hz', hzo', heq, hoa⟩ := id hR
  have ef := r_full hz h2
  have el := r_last hz h2
  have el' : F_Md_lastKind τ = some (lkA (σ.2.1 8) n, τ) := by
    rw [m_last hz' h2, lkA_cg (fun j hj => (heq j hj).1)]
  have ew : ∀ l : Int32, lkA (σ.2.1 8) n = l → F_Row_wantsBareOperand σ = some (if τ.1 6 = 1 ∧ l = 2 then 1 else 0, σ) := by
    intro l hl
    rw [hl] at el
    rcases hp1 with hp1 | hp1
    · simp only [F_Row_wantsBareOperand, fx_bnd, fx_bndx, e_gI, e_pI, e_rz0, e_rz1, e_ret, e_pur, e_thr, e_if, e_el, hp, hp1, q_lt, q_le, q_eq, q_lt0, q_0lt, q_le0, q_0le, q_eq0, q_lt1, q_1lt, q_le1, q_1le, q_eq1, q_lt2, q_2lt, q_le2, q_2le, q_eq2, q_lt3, q_3lt, q_le3, q_3le, q_eq3, q_lt4, q_4lt, q_le4, q_4le, q_eq4, q_lt6, q_6lt, q_le6, q_6le, q_eq6, q_lt10, q_10lt, q_le10, q_10le, q_eq10, q_lt30, q_30lt, q_le30, q_30le, q_eq30, q_lt40, q_40lt, q_le40, q_40le, q_eq40, q_lt41, q_41lt, q_le41, q_41le, q_eq41, q_lt200, q_200lt, q_le200, q_200le, q_eq200, q_lt400, q_400lt, q_le400, q_400le, q_eq400, q_lt600, q_600lt, q_le600, q_600le, q_eq600, q_lt800, q_800lt, q_le800, q_800le, q_eq800, q_lt900, q_900lt, q_le900, q_900le, q_eq900, q_0eq, q_1eq, q_2eq, q_3eq, q_4eq, q_neg, q_m1, q_m1l, q_s1, nI_1, q_1a, nI_add, q_mul, q_m41, q_41m, q_dn, q_dm10, q_dm11, q_dm12, q_dm13, q_dm14, q_d0m1, q_d01, q_d02, q_d03, q_d04, q_d1m1, q_d10, q_d12, q_d13, q_d14, q_d2m1, q_d20, q_d21, q_d23, q_d24, q_d3m1, q_d30, q_d31, q_d32, q_d34, q_d4m1, q_d40, q_d41, q_d42, q_d43, if_true, if_false, eq_self, false_and]
    · by_cases q : l = 2
      · simp only [F_Row_wantsBareOperand, fx_bnd, fx_bndx, e_gI, e_pI, e_rz0, e_rz1, e_ret, e_pur, e_thr, e_if, e_el, hp, hp1, el, q, q_lt, q_le, q_eq, q_lt0, q_0lt, q_le0, q_0le, q_eq0, q_lt1, q_1lt, q_le1, q_1le, q_eq1, q_lt2, q_2lt, q_le2, q_2le, q_eq2, q_lt3, q_3lt, q_le3, q_3le, q_eq3, q_lt4, q_4lt, q_le4, q_4le, q_eq4, q_lt6, q_6lt, q_le6, q_6le, q_eq6, q_lt10, q_10lt, q_le10, q_10le, q_eq10, q_lt30, q_30lt, q_le30, q_30le, q_eq30, q_lt40, q_40lt, q_le40, q_40le, q_eq40, q_lt41, q_41lt, q_le41, q_41le, q_eq41, q_lt200, q_200lt, q_le200, q_200le, q_eq200, q_lt400, q_400lt, q_le400, q_400le, q_eq400, q_lt600, q_600lt, q_le600, q_600le, q_eq600, q_lt800, q_800lt, q_le800, q_800le, q_eq800, q_lt900, q_900lt, q_le900, q_900le, q_eq900, q_0eq, q_1eq, q_2eq, q_3eq, q_4eq, q_neg, q_m1, q_m1l, q_s1, nI_1, q_1a, nI_add, q_mul, q_m41, q_41m, q_dn, q_dm10, q_dm11, q_dm12, q_dm13, q_dm14, q_d0m1, q_d01, q_d02, q_d03, q_d04, q_d1m1, q_d10, q_d12, q_d13, q_d14, q_d2m1, q_d20, q_d21, q_d23, q_d24, q_d3m1, q_d30, q_d31, q_d32, q_d34, q_d4m1, q_d40, q_d41, q_d42, q_d43, if_true, if_false, eq_self, true_and]
      · simp only [F_Row_wantsBareOperand, fx_bnd, fx_bndx, e_gI, e_pI, e_rz0, e_rz1, e_ret, e_pur, e_thr, e_if, e_el, hp, hp1, el, q, q_lt, q_le, q_eq, q_lt0, q_0lt, q_le0, q_0le, q_eq0, q_lt1, q_1lt, q_le1, q_1le, q_eq1, q_lt2, q_2lt, q_le2, q_2le, q_eq2, q_lt3, q_3lt, q_le3, q_3le, q_eq3, q_lt4, q_4lt, q_le4, q_4le, q_eq4, q_lt6, q_6lt, q_le6, q_6le, q_eq6, q_lt10, q_10lt, q_le10, q_10le, q_eq10, q_lt30, q_30lt, q_le30, q_30le, q_eq30, q_lt40, q_40lt, q_le40, q_40le, q_eq40, q_lt41, q_41lt, q_le41, q_41le, q_eq41, q_lt200, q_200lt, q_le200, q_200le, q_eq200, q_lt400, q_400lt, q_le400, q_400le, q_eq400, q_lt600, q_600lt, q_le600, q_600le, q_eq600, q_lt800, q_800lt, q_le800, q_800le, q_eq800, q_lt900, q_900lt, q_le900, q_900le, q_eq900, q_0eq, q_1eq, q_2eq, q_3eq, q_4eq, q_neg, q_m1, q_m1l, q_s1, nI_1, q_1a, nI_add, q_mul, q_m41, q_41m, q_dn, q_dm10, q_dm11, q_dm12, q_dm13, q_dm14, q_d0m1, q_d01, q_d02, q_d03, q_d04, q_d1m1, q_d10, q_d12, q_d13, q_d14, q_d2m1, q_d20, q_d21, q_d23, q_d24, q_d3m1, q_d30, q_d31, q_d32, q_d34, q_d4m1, q_d40, q_d41, q_d42, q_d43, if_true, if_false, eq_self, true_and]
  -- both decide alike
  have key : (∃ kd t : Int32, ((kd = 1 ∧ t = 0 ∧ (¬ dueA (σ.2.1 8) n ∨ (0 < n ∧ σ.2.1 8 (n - 1) = 3))) ∨ (kd = 2 ∧ t = 1 ∧ v = 0 ∧ dueA (σ.2.1 8) n)) ∧ n < 200 ∧ F_Row_kindIfNext v σ = some (kd, σ) ∧ F_Md_operator v τ = F_Md_operator_J97 v 1 t τ) ∨ (F_Row_kindIfNext v σ = some (-1, σ) ∧ ∃ t, F_Md_operator v τ = F_Md_operator_J97 v 0 t τ) := by
    by_cases q : n < 200
    · have m0 : F_Md_operator v τ = F_Md_operator_J15 v 1 τ := by
        rw [F_Md_operator, e_bnd (e_gI _ _), hz', e_el (by rw [q_200le (by omega)]; omega)]
      rcases m_due hz' h2 (fun j hj => (heq j hj).1) hgr with ⟨d1, d2⟩ | ⟨d1, d2⟩
      · rcases r_due hz h2 hgr with ⟨c1, -⟩ | ⟨-, c2⟩
        · by_cases hv : v = 0
          · subst hv
            have m1 : F_Md_operator 0 τ = F_Md_operator_J32 0 1 1 τ := by
              rw [m0, F_Md_operator_J15, e_bnd d1, e_el (by decide), e_if rfl]
            by_cases hb : τ.1 6 = 1 ∧ lkA (σ.2.1 8) n = 2
            · refine Or.inr ⟨?_, 1, ?_⟩
              · have e9 := ew _ rfl
                rw [if_pos hb] at e9
                simp only [F_Row_kindIfNext, fx_bnd, fx_bndx, e_gI, e_pI, e_rz0, e_rz1, e_ret, e_pur, e_thr, e_if, e_el, ef, if_pos q, c1, e9, q_lt, q_le, q_eq, q_lt0, q_0lt, q_le0, q_0le, q_eq0, q_lt1, q_1lt, q_le1, q_1le, q_eq1, q_lt2, q_2lt, q_le2, q_2le, q_eq2, q_lt3, q_3lt, q_le3, q_3le, q_eq3, q_lt4, q_4lt, q_le4, q_4le, q_eq4, q_lt6, q_6lt, q_le6, q_6le, q_eq6, q_lt10, q_10lt, q_le10, q_10le, q_eq10, q_lt30, q_30lt, q_le30, q_30le, q_eq30, q_lt40, q_40lt, q_le40, q_40le, q_eq40, q_lt41, q_41lt, q_le41, q_41le, q_eq41, q_lt200, q_200lt, q_le200, q_200le, q_eq200, q_lt400, q_400lt, q_le400, q_400le, q_eq400, q_lt600, q_600lt, q_le600, q_600le, q_eq600, q_lt800, q_800lt, q_le800, q_800le, q_eq800, q_lt900, q_900lt, q_le900, q_900le, q_eq900, q_0eq, q_1eq, q_2eq, q_3eq, q_4eq, q_neg, q_m1, q_m1l, q_s1, nI_1, q_1a, nI_add, q_mul, q_m41, q_41m, q_dn, q_dm10, q_dm11, q_dm12, q_dm13, q_dm14, q_d0m1, q_d01, q_d02, q_d03, q_d04, q_d1m1, q_d10, q_d12, q_d13, q_d14, q_d2m1, q_d20, q_d21, q_d23, q_d24, q_d3m1, q_d30, q_d31, q_d32, q_d34, q_d4m1, q_d40, q_d41, q_d42, q_d43, if_true, if_false, eq_self]
              · rw [m1, F_Md_operator_J32, e_el (by decide), e_el (by decide), e_bnd (e_gI _ _), e_el (by rw [hb.1]; decide), e_bnd el', e_if hb.2, F_Md_operator_J60, F_Md_operator_J61]
            · refine Or.inl ⟨2, 1, Or.inr ⟨rfl, rfl, rfl, d2⟩, q, ?_, ?_⟩
              · have e9 := ew _ rfl
                rw [if_neg hb] at e9
                simp only [F_Row_kindIfNext, fx_bnd, fx_bndx, e_gI, e_pI, e_rz0, e_rz1, e_ret, e_pur, e_thr, e_if, e_el, ef, if_pos q, c1, e9, q_lt, q_le, q_eq, q_lt0, q_0lt, q_le0, q_0le, q_eq0, q_lt1, q_1lt, q_le1, q_1le, q_eq1, q_lt2, q_2lt, q_le2, q_2le, q_eq2, q_lt3, q_3lt, q_le3, q_3le, q_eq3, q_lt4, q_4lt, q_le4, q_4le, q_eq4, q_lt6, q_6lt, q_le6, q_6le, q_eq6, q_lt10, q_10lt, q_le10, q_10le, q_eq10, q_lt30, q_30lt, q_le30, q_30le, q_eq30, q_lt40, q_40lt, q_le40, q_40le, q_eq40, q_lt41, q_41lt, q_le41, q_41le, q_eq41, q_lt200, q_200lt, q_le200, q_200le, q_eq200, q_lt400, q_400lt, q_le400, q_400le, q_eq400, q_lt600, q_600lt, q_le600, q_600le, q_eq600, q_lt800, q_800lt, q_le800, q_800le, q_eq800, q_lt900, q_900lt, q_le900, q_900le, q_eq900, q_0eq, q_1eq, q_2eq, q_3eq, q_4eq, q_neg, q_m1, q_m1l, q_s1, nI_1, q_1a, nI_add, q_mul, q_m41, q_41m, q_dn, q_dm10, q_dm11, q_dm12, q_dm13, q_dm14, q_d0m1, q_d01, q_d02, q_d03, q_d04, q_d1m1, q_d10, q_d12, q_d13, q_d14, q_d2m1, q_d20, q_d21, q_d23, q_d24, q_d3m1, q_d30, q_d31, q_d32, q_d34, q_d4m1, q_d40, q_d41, q_d42, q_d43, if_true, if_false, eq_self]
              · rw [m1, F_Md_operator_J32, e_el (by decide), e_el (by decide), e_bnd (e_gI _ _)]
                rcases hp1 with hp1 | hp1
                · rw [e_if hp1, F_Md_operator_J56, F_Md_operator_J61]
                · rw [e_el (by rw [hp1]; decide), e_bnd el', e_el (fun z => hb ⟨hp1, z⟩), F_Md_operator_J56, F_Md_operator_J61]
          · have m1 : F_Md_operator v τ = F_Md_operator_J32 v 1 0 τ := by
              rw [m0, F_Md_operator_J15, e_bnd d1, e_el (by decide), e_el hv, F_Md_operator_J31]
            by_cases hb : τ.1 6 = 0 ∧ lkA (σ.2.1 8) n = 3
            · refine Or.inl ⟨1, 0, Or.inl ⟨rfl, rfl, Or.inr ?_⟩, q, ?_, ?_⟩
              · rcases gr_lk hgr with ⟨g1, -⟩ | ⟨g1, g2, -⟩
                · rw [g1] at hb; exact absurd hb.2 (by decide)
                · exact ⟨g1, by rw [← g2]; exact hb.2⟩
              · rw [hb.2] at el
                simp only [F_Row_kindIfNext, fx_bnd, fx_bndx, e_gI, e_pI, e_rz0, e_rz1, e_ret, e_pur, e_thr, e_if, e_el, ef, if_pos q, c1, hv, el, hp, hb.1, q_lt, q_le, q_eq, q_lt0, q_0lt, q_le0, q_0le, q_eq0, q_lt1, q_1lt, q_le1, q_1le, q_eq1, q_lt2, q_2lt, q_le2, q_2le, q_eq2, q_lt3, q_3lt, q_le3, q_3le, q_eq3, q_lt4, q_4lt, q_le4, q_4le, q_eq4, q_lt6, q_6lt, q_le6, q_6le, q_eq6, q_lt10, q_10lt, q_le10, q_10le, q_eq10, q_lt30, q_30lt, q_le30, q_30le, q_eq30, q_lt40, q_40lt, q_le40, q_40le, q_eq40, q_lt41, q_41lt, q_le41, q_41le, q_eq41, q_lt200, q_200lt, q_le200, q_200le, q_eq200, q_lt400, q_400lt, q_le400, q_400le, q_eq400, q_lt600, q_600lt, q_le600, q_600le, q_eq600, q_lt800, q_800lt, q_le800, q_800le, q_eq800, q_lt900, q_900lt, q_le900, q_900le, q_eq900, q_0eq, q_1eq, q_2eq, q_3eq, q_4eq, q_neg, q_m1, q_m1l, q_s1, nI_1, q_1a, nI_add, q_mul, q_m41, q_41m, q_dn, q_dm10, q_dm11, q_dm12, q_dm13, q_dm14, q_d0m1, q_d01, q_d02, q_d03, q_d04, q_d1m1, q_d10, q_d12, q_d13, q_d14, q_d2m1, q_d20, q_d21, q_d23, q_d24, q_d3m1, q_d30, q_d31, q_d32, q_d34, q_d4m1, q_d40, q_d41, q_d42, q_d43, if_true, if_false, eq_self]
              · rw [m1, F_Md_operator_J32, e_if rfl, e_bnd d1, e_el (by decide), e_el (by decide), e_bnd (e_gI _ _), e_if hb.1, e_bnd el', e_if hb.2, F_Md_operator_J96]
            · refine Or.inr ⟨?_, 0, ?_⟩
              · by_cases h3 : lkA (σ.2.1 8) n = 3
                · have hp0 : ¬ τ.1 6 = 0 := fun z => hb ⟨z, h3⟩
                  rw [h3] at el
                  simp only [F_Row_kindIfNext, fx_bnd, fx_bndx, e_gI, e_pI, e_rz0, e_rz1, e_ret, e_pur, e_thr, e_if, e_el, ef, if_pos q, c1, hv, el, hp, hp0, q_lt, q_le, q_eq, q_lt0, q_0lt, q_le0, q_0le, q_eq0, q_lt1, q_1lt, q_le1, q_1le, q_eq1, q_lt2, q_2lt, q_le2, q_2le, q_eq2, q_lt3, q_3lt, q_le3, q_3le, q_eq3, q_lt4, q_4lt, q_le4, q_4le, q_eq4, q_lt6, q_6lt, q_le6, q_6le, q_eq6, q_lt10, q_10lt, q_le10, q_10le, q_eq10, q_lt30, q_30lt, q_le30, q_30le, q_eq30, q_lt40, q_40lt, q_le40, q_40le, q_eq40, q_lt41, q_41lt, q_le41, q_41le, q_eq41, q_lt200, q_200lt, q_le200, q_200le, q_eq200, q_lt400, q_400lt, q_le400, q_400le, q_eq400, q_lt600, q_600lt, q_le600, q_600le, q_eq600, q_lt800, q_800lt, q_le800, q_800le, q_eq800, q_lt900, q_900lt, q_le900, q_900le, q_eq900, q_0eq, q_1eq, q_2eq, q_3eq, q_4eq, q_neg, q_m1, q_m1l, q_s1, nI_1, q_1a, nI_add, q_mul, q_m41, q_41m, q_dn, q_dm10, q_dm11, q_dm12, q_dm13, q_dm14, q_d0m1, q_d01, q_d02, q_d03, q_d04, q_d1m1, q_d10, q_d12, q_d13, q_d14, q_d2m1, q_d20, q_d21, q_d23, q_d24, q_d3m1, q_d30, q_d31, q_d32, q_d34, q_d4m1, q_d40, q_d41, q_d42, q_d43, if_true, if_false, eq_self]
                · simp only [F_Row_kindIfNext, fx_bnd, fx_bndx, e_gI, e_pI, e_rz0, e_rz1, e_ret, e_pur, e_thr, e_if, e_el, ef, if_pos q, c1, hv, el, h3, q_lt, q_le, q_eq, q_lt0, q_0lt, q_le0, q_0le, q_eq0, q_lt1, q_1lt, q_le1, q_1le, q_eq1, q_lt2, q_2lt, q_le2, q_2le, q_eq2, q_lt3, q_3lt, q_le3, q_3le, q_eq3, q_lt4, q_4lt, q_le4, q_4le, q_eq4, q_lt6, q_6lt, q_le6, q_6le, q_eq6, q_lt10, q_10lt, q_le10, q_10le, q_eq10, q_lt30, q_30lt, q_le30, q_30le, q_eq30, q_lt40, q_40lt, q_le40, q_40le, q_eq40, q_lt41, q_41lt, q_le41, q_41le, q_eq41, q_lt200, q_200lt, q_le200, q_200le, q_eq200, q_lt400, q_400lt, q_le400, q_400le, q_eq400, q_lt600, q_600lt, q_le600, q_600le, q_eq600, q_lt800, q_800lt, q_le800, q_800le, q_eq800, q_lt900, q_900lt, q_le900, q_900le, q_eq900, q_0eq, q_1eq, q_2eq, q_3eq, q_4eq, q_neg, q_m1, q_m1l, q_s1, nI_1, q_1a, nI_add, q_mul, q_m41, q_41m, q_dn, q_dm10, q_dm11, q_dm12, q_dm13, q_dm14, q_d0m1, q_d01, q_d02, q_d03, q_d04, q_d1m1, q_d10, q_d12, q_d13, q_d14, q_d2m1, q_d20, q_d21, q_d23, q_d24, q_d3m1, q_d30, q_d31, q_d32, q_d34, q_d4m1, q_d40, q_d41, q_d42, q_d43, if_true, if_false, eq_self]
              · rw [m1, F_Md_operator_J32, e_if rfl, e_bnd d1, e_el (by decide), e_el (by decide), e_bnd (e_gI _ _)]
                by_cases hp0 : τ.1 6 = 0
                · rw [e_if hp0, e_bnd el', e_el (fun z => hb ⟨hp0, z⟩), F_Md_operator_J95, F_Md_operator_J96]
                · rw [e_el hp0, F_Md_operator_J95, F_Md_operator_J96]
        · exact absurd d2 c2
      · rcases r_due hz h2 hgr with ⟨-, c2⟩ | ⟨c1, -⟩
        · exact absurd c2 d2
        · refine Or.inl ⟨1, 0, Or.inl ⟨rfl, rfl, Or.inl d2⟩, q, ?_, ?_⟩
          · simp only [F_Row_kindIfNext, fx_bnd, fx_bndx, e_gI, e_pI, e_rz0, e_rz1, e_ret, e_pur, e_thr, e_if, e_el, ef, if_pos q, c1, q_lt, q_le, q_eq, q_lt0, q_0lt, q_le0, q_0le, q_eq0, q_lt1, q_1lt, q_le1, q_1le, q_eq1, q_lt2, q_2lt, q_le2, q_2le, q_eq2, q_lt3, q_3lt, q_le3, q_3le, q_eq3, q_lt4, q_4lt, q_le4, q_4le, q_eq4, q_lt6, q_6lt, q_le6, q_6le, q_eq6, q_lt10, q_10lt, q_le10, q_10le, q_eq10, q_lt30, q_30lt, q_le30, q_30le, q_eq30, q_lt40, q_40lt, q_le40, q_40le, q_eq40, q_lt41, q_41lt, q_le41, q_41le, q_eq41, q_lt200, q_200lt, q_le200, q_200le, q_eq200, q_lt400, q_400lt, q_le400, q_400le, q_eq400, q_lt600, q_600lt, q_le600, q_600le, q_eq600, q_lt800, q_800lt, q_le800, q_800le, q_eq800, q_lt900, q_900lt, q_le900, q_900le, q_eq900, q_0eq, q_1eq, q_2eq, q_3eq, q_4eq, q_neg, q_m1, q_m1l, q_s1, nI_1, q_1a, nI_add, q_mul, q_m41, q_41m, q_dn, q_dm10, q_dm11, q_dm12, q_dm13, q_dm14, q_d0m1, q_d01, q_d02, q_d03, q_d04, q_d1m1, q_d10, q_d12, q_d13, q_d14, q_d2m1, q_d20, q_d21, q_d23, q_d24, q_d3m1, q_d30, q_d31, q_d32, q_d34, q_d4m1, q_d40, q_d41, q_d42, q_d43, if_true, if_false, eq_self]
          · rw [m0, F_Md_operator_J15, e_bnd d1, e_if rfl, F_Md_operator_J31, F_Md_operator_J32, e_if rfl, e_bnd d1, e_if rfl]
    · have m0 : F_Md_operator v τ = F_Md_operator_J15 v 0 τ := by
        rw [F_Md_operator, e_bnd (e_gI _ _), hz', e_if (by rw [q_200le (by omega)]; omega)]
      refine Or.inr ⟨?_, ?_⟩
      · simp only [F_Row_kindIfNext, fx_bnd, fx_bndx, e_gI, e_pI, e_rz0, e_rz1, e_ret, e_pur, e_thr, e_if, e_el, ef, if_neg q, q_lt, q_le, q_eq, q_lt0, q_0lt, q_le0, q_0le, q_eq0, q_lt1, q_1lt, q_le1, q_1le, q_eq1, q_lt2, q_2lt, q_le2, q_2le, q_eq2, q_lt3, q_3lt, q_le3, q_3le, q_eq3, q_lt4, q_4lt, q_le4, q_4le, q_eq4, q_lt6, q_6lt, q_le6, q_6le, q_eq6, q_lt10, q_10lt, q_le10, q_10le, q_eq10, q_lt30, q_30lt, q_le30, q_30le, q_eq30, q_lt40, q_40lt, q_le40, q_40le, q_eq40, q_lt41, q_41lt, q_le41, q_41le, q_eq41, q_lt200, q_200lt, q_le200, q_200le, q_eq200, q_lt400, q_400lt, q_le400, q_400le, q_eq400, q_lt600, q_600lt, q_le600, q_600le, q_eq600, q_lt800, q_800lt, q_le800, q_800le, q_eq800, q_lt900, q_900lt, q_le900, q_900le, q_eq900, q_0eq, q_1eq, q_2eq, q_3eq, q_4eq, q_neg, q_m1, q_m1l, q_s1, nI_1, q_1a, nI_add, q_mul, q_m41, q_41m, q_dn, q_dm10, q_dm11, q_dm12, q_dm13, q_dm14, q_d0m1, q_d01, q_d02, q_d03, q_d04, q_d1m1, q_d10, q_d12, q_d13, q_d14, q_d2m1, q_d20, q_d21, q_d23, q_d24, q_d3m1, q_d30, q_d31, q_d32, q_d34, q_d4m1, q_d40, q_d41, q_d42, q_d43, if_true, if_false, eq_self]
      · have m2 : ∃ t, F_Md_operator_J32 v 0 0 τ = F_Md_operator_J97 v 0 t τ := by
          rcases m_due hz' h2 (fun j hj => (heq j hj).1) hgr with ⟨d1, d2⟩ | ⟨d1, d2⟩
          · exact ⟨0, by rw [F_Md_operator_J32, e_if rfl, e_bnd d1, e_el (by decide), e_if rfl, F_Md_operator_J95, F_Md_operator_J96]⟩
          · exact ⟨0, by rw [F_Md_operator_J32, e_if rfl, e_bnd d1, e_if rfl]⟩
        rcases m_due hz' h2 (fun j hj => (heq j hj).1) hgr with ⟨d1, d2⟩ | ⟨d1, d2⟩
        · by_cases hv : v = 0
          · subst hv
            exact ⟨1, by rw [m0, F_Md_operator_J15, e_bnd d1, e_el (by decide), e_if rfl, F_Md_operator_J32, e_el (by decide), e_if rfl, F_Md_operator_J60, F_Md_operator_J61]⟩
          · obtain ⟨t, m3⟩ := m2
            exact ⟨t, by rw [m0, F_Md_operator_J15, e_bnd d1, e_el (by decide), e_el hv, F_Md_operator_J31, m3]⟩
        · obtain ⟨t, m3⟩ := m2
          exact ⟨t, by rw [m0, F_Md_operator_J15, e_bnd d1, e_if rfl, F_Md_operator_J31, m3]⟩
  rcases q_idx v 41 with ⟨o, ho, -, rfl⟩ | hbad
  · have er : F_FixityTrees_requireOperator (nI o) σ = some (.inl (), σ) := by
      simp only [F_FixityTrees_requireOperator, fx_bnd, fx_bndx, e_gI, e_pI, e_rz0, e_rz1, e_ret, e_pur, e_thr, e_if, e_el, s_op ho, q_lt, q_le, q_eq, q_lt0, q_0lt, q_le0, q_0le, q_eq0, q_lt1, q_1lt, q_le1, q_1le, q_eq1, q_lt2, q_2lt, q_le2, q_2le, q_eq2, q_lt3, q_3lt, q_le3, q_3le, q_eq3, q_lt4, q_4lt, q_le4, q_4le, q_eq4, q_lt6, q_6lt, q_le6, q_6le, q_eq6, q_lt10, q_10lt, q_le10, q_10le, q_eq10, q_lt30, q_30lt, q_le30, q_30le, q_eq30, q_lt40, q_40lt, q_le40, q_40le, q_eq40, q_lt41, q_41lt, q_le41, q_41le, q_eq41, q_lt200, q_200lt, q_le200, q_200le, q_eq200, q_lt400, q_400lt, q_le400, q_400le, q_eq400, q_lt600, q_600lt, q_le600, q_600le, q_eq600, q_lt800, q_800lt, q_le800, q_800le, q_eq800, q_lt900, q_900lt, q_le900, q_900le, q_eq900, q_0eq, q_1eq, q_2eq, q_3eq, q_4eq, q_neg, q_m1, q_m1l, q_s1, nI_1, q_1a, nI_add, q_mul, q_m41, q_41m, q_dn, q_dm10, q_dm11, q_dm12, q_dm13, q_dm14, q_d0m1, q_d01, q_d02, q_d03, q_d04, q_d1m1, q_d10, q_d12, q_d13, q_d14, q_d2m1, q_d20, q_d21, q_d23, q_d24, q_d3m1, q_d30, q_d31, q_d32, q_d34, q_d4m1, q_d40, q_d41, q_d42, q_d43, if_true, if_false, eq_self]
    rcases key with ⟨kd, t, hkt, q, k1, k2⟩ | ⟨k1, t, k2⟩
    · have hst : stk (upd (σ.2.1 8) n kd) (n + 1) = stk (σ.2.1 8) n := by
        rw [stk_snoc]
        rcases hkt with ⟨rfl, -⟩ | ⟨rfl, -⟩ <;> rw [if_neg (by decide), if_neg (by decide)]
      obtain ⟨σ', a1, a2, a3⟩ := Rel_add (k := kd) (o := nI o) (v := 0) h hC hR ⟨hp, hp1⟩ q (by
        rcases hkt with ⟨rfl, -, g⟩ | ⟨rfl, -, -, g⟩
        · refine Or.inr (Or.inl ⟨q_us _ _ _, ?_⟩)
          rcases g with g | ⟨g1, g2⟩
          · exact Or.inl (fun z => g (due_upd.mp z))
          · exact Or.inr ⟨g1, by rw [q_un _ _ (by omega)]; exact g2⟩
        · exact Or.inl ⟨Or.inr (Or.inl (q_us _ _ _)), due_upd.mpr g⟩) (by
        rcases hkt with ⟨rfl, -, -⟩ | ⟨rfl, -, g, -⟩
        · exact Or.inr (Or.inl ⟨rfl, ⟨o, ho, rfl⟩, rfl⟩)
        · exact Or.inr (Or.inr (Or.inl ⟨rfl, g, rfl⟩))) (by rw [hst]; exact hdep n (Nat.le_refl _))
      have a4 := a3 (τ.1 10) (τ.2.1 7) (by rw [hst]; exact hzo') (by rw [hst]; exact hoa)
      rw [m_same1 rfl, m_same2 _ rfl] at a4
      refine op_ret (r := nI (n + 1)) (b := nI (n + 1)) (σ' := σ') ?_ ?_ ?_ rfl a4
      · have hkd : ¬ kd = -1 := by rcases hkt with ⟨rfl, -⟩ | ⟨rfl, -⟩ <;> decide
        rw [F_FixityTrees_operator, e_bndx er, e_bnd k1, e_el hkd, e_bnd a1]
        simp only [F_Row_size, fx_bnd, fx_bndx, e_gI, e_pI, e_rz0, e_rz1, e_ret, e_pur, e_thr, e_if, e_el, a2]
      · rw [k2, F_Md_operator_J97, e_bnd (s_iop ho), e_el (by decide), e_el (by decide), F_Md_operator_J118, e_bnd (m_good0 τ), e_el (by decide)]
        rcases hkt with ⟨rfl, rfl, -⟩ | ⟨rfl, rfl, -⟩
        · rw [e_if rfl, F_Md_operator_J136, e_bnd (m_add (τ := (va_up τ.1 0 0, τ.2.1, τ.2.2)) (n := n) hz' q 1 (nI o) 0)]
          rfl
        · rw [e_el (by decide), F_Md_operator_J136, e_bnd (m_add (τ := (va_up τ.1 0 0, τ.2.1, τ.2.2)) (n := n) hz' q 2 (nI o) 0)]
          rfl
      · rfl
    · refine op_thr0 h (b := 0) 1 2 (by simp) ?_ ?_
      · rw [F_FixityTrees_operator, e_bndx er, e_bnd k1, e_if rfl]; rfl
      · rw [k2, F_Md_operator_J97, e_bnd (s_iop ho), e_el (by decide), e_if rfl, F_Md_operator_J118, e_bnd (m_good (by decide) τ), e_if rfl]; rfl
  · have er : F_FixityTrees_requireOperator v σ = some (.inr 0, σ) := by
      simp only [F_FixityTrees_requireOperator, fx_bnd, fx_bndx, e_gI, e_pI, e_rz0, e_rz1, e_ret, e_pur, e_thr, e_if, e_el, s_opn hbad, q_lt, q_le, q_eq, q_lt0, q_0lt, q_le0, q_0le, q_eq0, q_lt1, q_1lt, q_le1, q_1le, q_eq1, q_lt2, q_2lt, q_le2, q_2le, q_eq2, q_lt3, q_3lt, q_le3, q_3le, q_eq3, q_lt4, q_4lt, q_le4, q_4le, q_eq4, q_lt6, q_6lt, q_le6, q_6le, q_eq6, q_lt10, q_10lt, q_le10, q_10le, q_eq10, q_lt30, q_30lt, q_le30, q_30le, q_eq30, q_lt40, q_40lt, q_le40, q_40le, q_eq40, q_lt41, q_41lt, q_le41, q_41le, q_eq41, q_lt200, q_200lt, q_le200, q_200le, q_eq200, q_lt400, q_400lt, q_le400, q_400le, q_eq400, q_lt600, q_600lt, q_le600, q_600le, q_eq600, q_lt800, q_800lt, q_le800, q_800le, q_eq800, q_lt900, q_900lt, q_le900, q_900le, q_eq900, q_0eq, q_1eq, q_2eq, q_3eq, q_4eq, q_neg, q_m1, q_m1l, q_s1, nI_1, q_1a, nI_add, q_mul, q_m41, q_41m, q_dn, q_dm10, q_dm11, q_dm12, q_dm13, q_dm14, q_d0m1, q_d01, q_d02, q_d03, q_d04, q_d1m1, q_d10, q_d12, q_d13, q_d14, q_d2m1, q_d20, q_d21, q_d23, q_d24, q_d3m1, q_d30, q_d31, q_d32, q_d34, q_d4m1, q_d40, q_d41, q_d42, q_d43, if_true, if_false, eq_self]
    refine op_thr0 h (b := 0) 0 1 (by simp) ?_ ?_
    · rw [F_FixityTrees_operator, e_bndt er]
    · have fin : ∀ m t, F_Md_operator_J97 v m t τ = some (0, (va_up τ.1 0 1, τ.2.1, τ.2.2)) := by
        intro m t
        rw [F_Md_operator_J97, e_bnd (s_iopn hbad), e_if rfl, F_Md_operator_J118, e_bnd (m_good (by decide) τ), e_if rfl]; rfl
      rcases key with ⟨kd, t, -, -, -, k2⟩ | ⟨-, t, k2⟩
      · rw [k2, fin]
      · rw [k2, fin]
/-! OPEN, CLOSE -/
theorem stk_3 {K : Nat → Int32} : ∀ {j b : Nat}, b ∈ stk K j → K b = 3
  | 0, b, h => by simp [stk] at h
  | j + 1, b, h => by
    unfold stk at h
    split at h
    · next h3 =>
      rcases List.mem_cons.mp h with rfl | h
      · exact h3
      · exact stk_3 h
    · split at h
      · exact stk_3 (List.mem_of_mem_tail h)
      · exact stk_3 h
theorem r_bare {σ τ : fx_S} {n : Nat} (hz : σ.1 117 = nI n) (hn : n ≤ 200) (hp : σ.1 119 = τ.1 6) (hp1 : τ.1 6 = 0 ∨ τ.1 6 = 1) : F_Row_wantsBareOperand σ = some (if τ.1 6 = 1 ∧ lkA (σ.2.1 8) n = 2 then 1 else 0, σ) := by
  have el := r_last hz hn
  generalize lkA (σ.2.1 8) n = l at el ⊢
  rcases hp1 with hp1 | hp1
  · simp only [F_Row_wantsBareOperand, fx_bnd, fx_bndx, e_gI, e_pI, e_rz0, e_rz1, e_ret, e_pur, e_thr, e_if, e_el, hp, hp1, q_lt, q_le, q_eq, q_lt0, q_0lt, q_le0, q_0le, q_eq0, q_lt1, q_1lt, q_le1, q_1le, q_eq1, q_lt2, q_2lt, q_le2, q_2le, q_eq2, q_lt3, q_3lt, q_le3, q_3le, q_eq3, q_lt4, q_4lt, q_le4, q_4le, q_eq4, q_lt6, q_6lt, q_le6, q_6le, q_eq6, q_lt10, q_10lt, q_le10, q_10le, q_eq10, q_lt30, q_30lt, q_le30, q_30le, q_eq30, q_lt40, q_40lt, q_le40, q_40le, q_eq40, q_lt41, q_41lt, q_le41, q_41le, q_eq41, q_lt200, q_200lt, q_le200, q_200le, q_eq200, q_lt400, q_400lt, q_le400, q_400le, q_eq400, q_lt600, q_600lt, q_le600, q_600le, q_eq600, q_lt800, q_800lt, q_le800, q_800le, q_eq800, q_lt900, q_900lt, q_le900, q_900le, q_eq900, q_0eq, q_1eq, q_2eq, q_3eq, q_4eq, q_neg, q_m1, q_m1l, q_s1, nI_1, q_1a, nI_add, q_mul, q_m41, q_41m, q_dn, q_dm10, q_dm11, q_dm12, q_dm13, q_dm14, q_d0m1, q_d01, q_d02, q_d03, q_d04, q_d1m1, q_d10, q_d12, q_d13, q_d14, q_d2m1, q_d20, q_d21, q_d23, q_d24, q_d3m1, q_d30, q_d31, q_d32, q_d34, q_d4m1, q_d40, q_d41, q_d42, q_d43, if_true, if_false, eq_self, false_and]
  · by_cases q : l = 2
    · simp only [F_Row_wantsBareOperand, fx_bnd, fx_bndx, e_gI, e_pI, e_rz0, e_rz1, e_ret, e_pur, e_thr, e_if, e_el, hp, hp1, el, q, q_lt, q_le, q_eq, q_lt0, q_0lt, q_le0, q_0le, q_eq0, q_lt1, q_1lt, q_le1, q_1le, q_eq1, q_lt2, q_2lt, q_le2, q_2le, q_eq2, q_lt3, q_3lt, q_le3, q_3le, q_eq3, q_lt4, q_4lt, q_le4, q_4le, q_eq4, q_lt6, q_6lt, q_le6, q_6le, q_eq6, q_lt10, q_10lt, q_le10, q_10le, q_eq10, q_lt30, q_30lt, q_le30, q_30le, q_eq30, q_lt40, q_40lt, q_le40, q_40le, q_eq40, q_lt41, q_41lt, q_le41, q_41le, q_eq41, q_lt200, q_200lt, q_le200, q_200le, q_eq200, q_lt400, q_400lt, q_le400, q_400le, q_eq400, q_lt600, q_600lt, q_le600, q_600le, q_eq600, q_lt800, q_800lt, q_le800, q_800le, q_eq800, q_lt900, q_900lt, q_le900, q_900le, q_eq900, q_0eq, q_1eq, q_2eq, q_3eq, q_4eq, q_neg, q_m1, q_m1l, q_s1, nI_1, q_1a, nI_add, q_mul, q_m41, q_41m, q_dn, q_dm10, q_dm11, q_dm12, q_dm13, q_dm14, q_d0m1, q_d01, q_d02, q_d03, q_d04, q_d1m1, q_d10, q_d12, q_d13, q_d14, q_d2m1, q_d20, q_d21, q_d23, q_d24, q_d3m1, q_d30, q_d31, q_d32, q_d34, q_d4m1, q_d40, q_d41, q_d42, q_d43, if_true, if_false, eq_self, true_and]
    · simp only [F_Row_wantsBareOperand, fx_bnd, fx_bndx, e_gI, e_pI, e_rz0, e_rz1, e_ret, e_pur, e_thr, e_if, e_el, hp, hp1, el, q, q_lt, q_le, q_eq, q_lt0, q_0lt, q_le0, q_0le, q_eq0, q_lt1, q_1lt, q_le1, q_1le, q_eq1, q_lt2, q_2lt, q_le2, q_2le, q_eq2, q_lt3, q_3lt, q_le3, q_3le, q_eq3, q_lt4, q_4lt, q_le4, q_4le, q_eq4, q_lt6, q_6lt, q_le6, q_6le, q_eq6, q_lt10, q_10lt, q_le10, q_10le, q_eq10, q_lt30, q_30lt, q_le30, q_30le, q_eq30, q_lt40, q_40lt, q_le40, q_40le, q_eq40, q_lt41, q_41lt, q_le41, q_41le, q_eq41, q_lt200, q_200lt, q_le200, q_200le, q_eq200, q_lt400, q_400lt, q_le400, q_400le, q_eq400, q_lt600, q_600lt, q_le600, q_600le, q_eq600, q_lt800, q_800lt, q_le800, q_800le, q_eq800, q_lt900, q_900lt, q_le900, q_900le, q_eq900, q_0eq, q_1eq, q_2eq, q_3eq, q_4eq, q_neg, q_m1, q_m1l, q_s1, nI_1, q_1a, nI_add, q_mul, q_m41, q_41m, q_dn, q_dm10, q_dm11, q_dm12, q_dm13, q_dm14, q_d0m1, q_d01, q_d02, q_d03, q_d04, q_d1m1, q_d10, q_d12, q_d13, q_d14, q_d2m1, q_d20, q_d21, q_d23, q_d24, q_d3m1, q_d30, q_d31, q_d32, q_d34, q_d4m1, q_d40, q_d41, q_d42, q_d43, if_true, if_false, eq_self, true_and]
theorem r_due' {σ : fx_S} {n : Nat} (hC : rowC (σ.1 117) (σ.1 118) (σ.2.1 8) (σ.2.1 9) (σ.2.1 10) (σ.2.2 11) (σ.2.1 12) n) : F_Row_operandIsDue σ = some (@ite Int32 (dueA (σ.2.1 8) n) (Classical.propDecidable _) 1 0, σ) := by
  rcases r_due hC.2.1 hC.1 hC.2.2.2.2.1 with ⟨h1, h2⟩ | ⟨h1, h2⟩
  · rw [if_pos h2]; exact h1
  · rw [if_neg h2]; exact h1
theorem o_open {σ τ : fx_S} (h : Rel σ τ) : lw_op Rel [(1, 1)] F_FixityTrees_open F_Md_open (fun r b => r = b) σ τ := by
  obtain ⟨n, hC, hR, hp, hp1⟩ := id h.2.1
  obtain ⟨h2, hz, hzo, hdep, hgr, hnk, hrs⟩ := id hC
  obtain ⟨hz', hzo', heq, hoa⟩ := id hR
  have ef := r_full hz h2
  have eb := r_bare hz h2 hp hp1
  have el' : F_Md_lastKind τ = some (lkA (σ.2.1 8) n, τ) := by
    rw [m_last hz' h2, lkA_cg (fun j hj => (heq j hj).1)]
  have hd40 := hdep n (Nat.le_refl _)
  have bad : F_Row_takesOpen σ = some (0, σ) → F_Md_open τ = F_Md_open_J45 τ → lw_op Rel [(1, 1)] F_FixityTrees_open F_Md_open (fun r b => r = b) σ τ := by
    intro b1 b2
    refine op_thr0 h (b := 0) 1 1 (by simp) ?_ ?_
    · rw [F_FixityTrees_open, e_bnd b1, e_if rfl]; rfl
    · rw [b2, F_Md_open_J45, F_Md_open_J46, e_if rfl, F_Md_open_J57, e_bnd (m_good (by decide) τ), e_if rfl]; rfl
  rcases m_due hz' h2 (fun j hj => (heq j hj).1) hgr with ⟨d1, d2⟩ | ⟨d1, d2⟩
  · rcases r_due hz h2 hgr with ⟨c1, -⟩ | ⟨-, c2⟩
    · by_cases q : n < 200
      · have m0 : F_Md_open τ = (if 40 ≤ nI (stk (σ.2.1 8) n).length then F_Md_open_J45 else fx_bnd g_Md_isPattern fun x9 => if x9 = 0 then F_Md_open_J41 else fx_bnd (F_Md_lastKind) fun x10 => if x10 = 2 then F_Md_open_J45 else F_Md_open_J41) τ := by
          rw [F_Md_open, e_bnd d1, e_el (by decide), e_bnd (e_gI _ _), hz', e_el (by rw [q_200le (by omega)]; omega), e_bnd (e_gI _ _), hzo']
        have c0 : F_Row_takesOpen σ = (if 40 ≤ nI (stk (σ.2.1 8) n).length then fx_retz 0 else fx_bnd (F_Row_wantsBareOperand) fun x4 => if x4 = 0 then fx_retz 1 else fx_retz 0) σ := by
          rw [F_Row_takesOpen, e_bnd ef, if_pos q, e_if rfl, e_bnd c1, e_el (by decide), e_bnd (e_gI _ _), hzo]
        by_cases q4 : (stk (σ.2.1 8) n).length < 40
        · rw [e_el (by rw [q_40le (by omega)]; omega)] at m0 c0
          rw [e_bnd eb] at c0
          rw [e_bnd (e_gI _ _)] at m0
          by_cases hb : τ.1 6 = 1 ∧ lkA (σ.2.1 8) n = 2
          · rw [if_pos hb, e_el (by decide)] at c0
            rw [e_el (by rw [hb.1]; decide), e_bnd el', e_if hb.2] at m0
            exact bad c0 m0
          · rw [if_neg hb, e_if rfl] at c0
            have m1 : F_Md_open τ = F_Md_open_J41 τ := by
              rw [m0]
              rcases hp1 with hp1 | hp1
              · rw [e_if hp1]
              · rw [e_el (by rw [hp1]; decide), e_bnd el', e_el (fun z => hb ⟨hp1, z⟩)]
            have hst : stk (upd (σ.2.1 8) n 3) (n + 1) = n :: stk (σ.2.1 8) n := by rw [stk_snoc, if_pos rfl]
            obtain ⟨σ', a1, a2, a3⟩ := Rel_add (k := 3) (o := -1) (v := 0) h hC hR ⟨hp, hp1⟩ q (Or.inl ⟨Or.inr (Or.inr (q_us _ _ _)), due_upd.mpr d2⟩) (Or.inr (Or.inr (Or.inr ⟨Or.inl rfl, rfl, rfl⟩))) (by rw [hst, List.length_cons]; omega)
            have a4 := a3 (nI ((stk (σ.2.1 8) n).length + 1)) (upd (τ.2.1 7) (stk (σ.2.1 8) n).length (nI n)) (by rw [hst, List.length_cons]) (by
              rw [hst]
              intro e b hb
              rcases rev_hd hb with ⟨rfl, rfl⟩ | ⟨h5, h6⟩
              · rw [q_us]
              · rw [q_un _ _ (by omega)]; exact hoa e b h6)
            refine op_ret (r := nI (n + 1)) (b := nI (n + 1)) (σ' := σ') ?_ ?_ ?_ rfl a4
            · have e9 : F_Row_takesOpen σ = some (1, σ) := c0
              rw [F_FixityTrees_open, e_bnd e9, e_el (by decide), e_bnd a1]
              simp only [F_Row_size, fx_bnd, fx_bndx, e_gI, e_pI, e_rz0, e_rz1, e_ret, e_pur, e_thr, e_if, e_el, a2]
            · rw [m1, F_Md_open_J41, F_Md_open_J46, e_el (by decide), F_Md_open_J57, e_bnd (m_good0 τ), e_el (by decide), e_bnd (e_gI _ _), e_bnd (e_gI _ _)]
              have z5 : (va_up τ.1 0 0) 5 = nI n := hz'
              have z10 : (va_up τ.1 0 0) 10 = nI (stk (σ.2.1 8) n).length := hzo'
              show fx_bnd (s_Md_openAt ((va_up τ.1 0 0) 10) ((va_up τ.1 0 0) 5)) _ _ = _
              rw [z5, z10, e_bnd (e_sA (by omega) (by omega)), e_bnd (e_gI _ _)]
              show fx_bnd (fx_pI 10 ((va_up τ.1 0 0) 10 + 1)) _ _ = _
              rw [z10, nI_1, e_bnd (e_pI _ _ _)]
              refine (e_bnd (m_add (n := n) ?_ q 3 (-1) 0)).trans rfl
              exact z5
            · rfl
        · rw [e_if (by rw [q_40le (by omega)]; omega)] at m0 c0
          exact bad c0 m0
      · refine bad ?_ ?_
        · rw [F_Row_takesOpen, e_bnd ef, if_neg q, e_el (by decide)]; rfl
        · rw [F_Md_open, e_bnd d1, e_el (by decide), e_bnd (e_gI _ _), hz', e_if (by rw [q_200le (by omega)]; omega)]
    · exact absurd d2 c2
  · rcases r_due hz h2 hgr with ⟨-, c2⟩ | ⟨c1, -⟩
    · exact absurd c2 d2
    · refine bad ?_ ?_
      · by_cases q : n < 200
        · rw [F_Row_takesOpen, e_bnd ef, if_pos q, e_if rfl, e_bnd c1, e_if rfl]; rfl
        · rw [F_Row_takesOpen, e_bnd ef, if_neg q, e_el (by decide)]; rfl
      · rw [F_Md_open, e_bnd d1, e_if rfl]
theorem o_close {σ τ : fx_S} (h : Rel σ τ) : lw_op Rel [(1, 1)] F_FixityTrees_close F_Md_close (fun r b => r = b) σ τ := by
  obtain ⟨n, hC, hR, hp, hp1⟩ := id h.2.1
  obtain ⟨h2, hz, hzo, hdep, hgr, hnk, hrs⟩ := id hC
  obtain ⟨hz', hzo', heq, hoa⟩ := id hR
  have ef := r_full hz h2
  have el := r_last hz h2
  have el' : F_Md_lastKind τ = some (lkA (σ.2.1 8) n, τ) := by
    rw [m_last hz' h2, lkA_cg (fun j hj => (heq j hj).1)]
  have hd40 := hdep n (Nat.le_refl _)
  have bad : F_Row_takesClose σ = some (0, σ) → F_Md_close τ = F_Md_close_J77 0 τ → lw_op Rel [(1, 1)] F_FixityTrees_close F_Md_close (fun r b => r = b) σ τ := by
    intro b1 b2
    refine op_thr0 h (b := 0) 1 1 (by simp) ?_ ?_
    · rw [F_FixityTrees_close, e_bnd b1, e_if rfl]; rfl
    · rw [b2, F_Md_close_J77, e_if rfl, F_Md_close_J87, e_bnd (m_good (by decide) τ), e_if rfl]; rfl
  by_cases q : n < 200
  · have m0 : F_Md_close τ = (if nI (stk (σ.2.1 8) n).length ≤ 0 then F_Md_close_J21 else F_Md_close_J22 1) τ := by
      rw [F_Md_close, e_bnd (e_gI _ _), hz', e_el (by rw [q_200le (by omega)]; omega), e_bnd (e_gI _ _), hzo']
    by_cases q0 : (stk (σ.2.1 8) n).length = 0
    · rw [e_if (by rw [q_le0 (by omega)]; omega), F_Md_close_J21, F_Md_close_J22, e_if rfl] at m0
      refine bad ?_ m0
      rw [F_Row_takesClose, e_bnd ef, if_pos q, e_if rfl, e_bnd (e_gI _ _), hzo, e_if (by rw [q_le0 (by omega)]; omega)]; rfl
    · obtain ⟨b, s, hbs⟩ : ∃ b s, stk (σ.2.1 8) n = b :: s := by
        cases e : stk (σ.2.1 8) n with
        | nil => rw [e] at q0; exact absurd rfl q0
        | cons b s => exact ⟨b, s, rfl⟩
      have hlen : (stk (σ.2.1 8) n).length = s.length + 1 := by rw [hbs, List.length_cons]
      have hst : stk (upd (σ.2.1 8) n 4) (n + 1) = s := by rw [stk_snoc, if_neg (by decide), if_pos rfl, hbs]; rfl
      have hb3 : σ.2.1 8 b = 3 := stk_3 (K := σ.2.1 8) (j := n) (by rw [hbs]; exact List.mem_cons_self)
      have hbn : b < n := stk_hd hbs
      rw [e_el (by rw [q_le0 (by omega)]; omega)] at m0
      have c0 : F_Row_takesClose σ = (fx_bnd (F_Row_operandIsDue) fun x3 => if x3 = 0 then fx_retz 1 else fx_bnd (F_Row_mayEndLeftSection) fun x4 => if x4 = 0 then fx_retz 0 else fx_retz 1) σ := by
        rw [F_Row_takesClose, e_bnd ef, if_pos q, e_if rfl, e_bnd (e_gI _ _), hzo, e_el (by rw [q_le0 (by omega)]; omega)]
      have good : F_Row_takesClose σ = some (1, σ) → F_Md_close τ = F_Md_close_J77 1 τ → (¬ dueA (σ.2.1 8) n ∨ (0 < n ∧ σ.2.1 8 (n - 1) = 1 ∧ b + 1 < n ∧ ¬ σ.2.1 8 (b + 1) = 1)) → lw_op Rel [(1, 1)] F_FixityTrees_close F_Md_close (fun r b => r = b) σ τ := by
        intro c1 m1 g
        obtain ⟨σ', a1, a2, a3⟩ := Rel_add (k := 4) (o := -1) (v := 0) h hC hR ⟨hp, hp1⟩ q (by
          refine Or.inr (Or.inr ⟨q_us _ _ _, b, s, ?_, ?_⟩)
          · rw [stk_congr (K := σ.2.1 8) (fun i hi => q_un _ _ (by omega))]; exact hbs
          · rcases g with g | ⟨g1, g2, g3, g4⟩
            · exact Or.inl (fun z => g (due_upd.mp z))
            · exact Or.inr ⟨g1, by rw [q_un _ _ (by omega)]; exact g2, by rw [q_un _ _ (by omega)]; exact g4⟩) (Or.inr (Or.inr (Or.inr ⟨Or.inr rfl, rfl, rfl⟩))) (by rw [hst]; omega)
        have a4 := a3 (nI s.length) (τ.2.1 7) (by rw [hst]) (by
          rw [hst]
          intro e b' hb'
          have h5 : e < s.length := by
            have := (List.getElem?_eq_some_iff.mp hb').1
            rwa [List.length_reverse] at this
          exact hoa e b' (by rw [hbs, List.reverse_cons, List.getElem?_append_left (by rw [List.length_reverse]; exact h5)]; exact hb'))
        rw [m_same2 _ rfl] at a4
        refine op_ret (r := nI (n + 1)) (b := nI (n + 1)) (σ' := σ') ?_ ?_ ?_ rfl a4
        · rw [F_FixityTrees_close, e_bnd c1, e_el (by decide), e_bnd a1]
          simp only [F_Row_size, fx_bnd, fx_bndx, e_gI, e_pI, e_rz0, e_rz1, e_ret, e_pur, e_thr, e_if, e_el, a2]
        · rw [m1, F_Md_close_J77, e_el (by decide), F_Md_close_J87, e_bnd (m_good0 τ), e_el (by decide), e_bnd (e_gI _ _)]
          have z5 : (va_up τ.1 0 0) 5 = nI n := hz'
          have z10 : (va_up τ.1 0 0) 10 = nI (stk (σ.2.1 8) n).length := hzo'
          show fx_bnd (fx_pI 10 ((va_up τ.1 0 0) 10 - 1)) _ _ = _
          rw [z10, q_s1 (by omega), e_bnd (e_pI _ _ _), hlen]
          refine (e_bnd (m_add (n := n) ?_ q 4 (-1) 0)).trans rfl
          exact z5
        · rfl
      rcases m_due hz' h2 (fun j hj => (heq j hj).1) hgr with ⟨d1, d2⟩ | ⟨d1, d2⟩
      · rcases r_due hz h2 hgr with ⟨c1, -⟩ | ⟨-, c2⟩
        · have hoab : τ.2.1 7 s.length = nI b := hoa _ _ (by rw [hbs]; exact rev_hd')
          have hrsb : σ.2.1 12 s.length = rsA (σ.2.1 8) n b := hrs _ _ (by rw [hbs]; exact rev_hd')
          rw [e_bnd c1, e_el (by decide)] at c0
          rw [F_Md_close_J22, e_el (by decide), e_bnd d1, e_el (by decide), e_bnd (e_gI _ _), hzo', hlen, q_s1 (by omega), Nat.add_sub_cancel, e_bnd (e_lA (by omega) (by omega)), hoab, nI_1, e_bnd (e_pur _ _), e_bnd (e_gI _ _)] at m0
          rcases hp1 with hp1 | hp1
          · rw [e_if hp1, e_bnd el'] at m0
            by_cases hl : lkA (σ.2.1 8) n = 1
            · have hl1 : 0 < n ∧ σ.2.1 8 (n - 1) = 1 := by
                rcases gr_lk hgr with ⟨g1, -⟩ | ⟨g1, g2, -⟩
                · rw [g1] at hl; exact absurd hl (by decide)
                · exact ⟨g1, by rw [← g2]; exact hl⟩
              have hbn2 : b + 1 < n := by
                by_cases e : b = n - 1
                · rw [← e, hb3] at hl1; exact absurd hl1.2 (by decide)
                · omega
              have e1 : F_Row_mayEndLeftSection σ = some (if σ.2.1 8 (b + 1) = 1 then 0 else 1, σ) := by
                rw [F_Row_mayEndLeftSection, e_bnd (e_gI _ _), e_if (by rw [hp, hp1]), e_bnd el, e_if hl, e_bnd (e_gI _ _), hzo, e_el (by rw [q_le0 (by omega)]; omega), e_bnd (e_gI _ _), hzo, hlen, q_s1 (by omega), Nat.add_sub_cancel, e_bnd (e_lA (by omega) (by omega)), hrsb]
                by_cases g : σ.2.1 8 (b + 1) = 1
                · have g9 : rsA (σ.2.1 8) n b = 1 := by rw [rsA, if_pos ⟨hbn2, g⟩]
                  rw [g9, e_el (by decide), if_pos g]; rfl
                · have g9 : rsA (σ.2.1 8) n b = 0 := by rw [rsA, if_neg (fun z => g z.2)]
                  rw [g9, e_if rfl, if_neg g]; rfl
              have e2 : F_Md_begins (nI (b + 1)) τ = some (if σ.2.1 8 (b + 1) = 1 then 1 else 0, τ) := by
                rw [F_Md_begins, e_bnd (e_lA (by omega) (by omega)), (heq (b + 1) hbn2).1]
                by_cases g : σ.2.1 8 (b + 1) = 1
                · rw [e_if g, if_pos g, e_el (by rw [q_le0 (by omega)]; omega), q_s1 (by omega), Nat.add_sub_cancel, e_bnd (e_lA (by omega) (by omega)), (heq b hbn).1, e_if hb3]; rfl
                · rw [e_el g, if_neg g]; rfl
              rw [e_if hl, e_bnd e2] at m0
              rw [e_bnd e1] at c0
              by_cases g : σ.2.1 8 (b + 1) = 1
              · rw [if_pos g, e_if rfl] at c0
                rw [if_pos g, e_el (by decide), F_Md_close_J75, F_Md_close_J76] at m0
                exact bad c0 m0
              · rw [if_neg g, e_el (by decide)] at c0
                rw [if_neg g, e_if rfl, F_Md_close_J76] at m0
                exact good c0 m0 (Or.inr ⟨hl1.1, hl1.2, hbn2, g⟩)
            · rw [e_el hl, F_Md_close_J75, F_Md_close_J76] at m0
              refine bad ?_ m0
              have e1 : F_Row_mayEndLeftSection σ = some (0, σ) := by
                rw [F_Row_mayEndLeftSection, e_bnd (e_gI _ _), e_if (by rw [hp, hp1]), e_bnd el, e_el hl]; rfl
              rw [c0, e_bnd e1, e_if rfl]; rfl
          · rw [e_el (by rw [hp1]; decide), F_Md_close_J75, F_Md_close_J76] at m0
            refine bad ?_ m0
            have e1 : F_Row_mayEndLeftSection σ = some (0, σ) := by
              rw [F_Row_mayEndLeftSection, e_bnd (e_gI _ _), e_el (by rw [hp, hp1]; decide)]; rfl
            rw [c0, e_bnd e1, e_if rfl]; rfl
        · exact absurd d2 c2
      · rcases r_due hz h2 hgr with ⟨-, c2⟩ | ⟨c1, -⟩
        · exact absurd c2 d2
        · rw [e_bnd c1, e_if rfl] at c0
          rw [F_Md_close_J22, e_el (by decide), e_bnd d1, e_if rfl] at m0
          exact good c0 m0 (Or.inl d2)
  · refine bad ?_ ?_
    · rw [F_Row_takesClose, e_bnd ef, if_neg q, e_el (by decide)]; rfl
    · rw [F_Md_close, e_bnd (e_gI _ _), hz', e_if (by rw [q_200le (by omega)]; omega), F_Md_close_J21, F_Md_close_J22, e_if rfl]
/-! CLASH, NODE, NUMBER, WRITTEN, TOLD -/
theorem m_inz {n j : Nat} (h : j < n) (hn : n < 2 ^ 31) (τ : fx_S) : F_Md_isIn (nI j) 0 (nI n - 1) τ = some (1, τ) := by
  rw [q_s1 (by omega)]
  exact m_in (a := 0) (b := n - 1) (by omega) (by omega) (by omega) τ
theorem m_innz {n : Nat} {v : Int32} (hn : n < 2 ^ 31) (hv : v < 0 ∨ ∃ j, n ≤ j ∧ j < 2 ^ 31 ∧ v = nI j) (τ : fx_S) : F_Md_isIn v 0 (nI n - 1) τ = some (0, τ) := by
  by_cases h0 : n = 0
  · subst h0
    rcases hv with hv | ⟨j, h1, h2, rfl⟩
    · rw [F_Md_isIn, e_if hv]; rfl
    · rw [F_Md_isIn, e_el (q_neg h2), e_if (by rw [show nI 0 - 1 = (-1 : Int32) by decide, Int32.lt_iff_toInt_lt, nI_toInt h2, show ((-1 : Int32)).toInt = -1 by decide]; omega)]; rfl
  · rw [q_s1 (by omega)]
    refine m_inn (by omega) ?_ τ
    rcases hv with hv | ⟨j, h1, h2, rfl⟩
    · exact Or.inl hv
    · exact Or.inr ⟨j, by omega, h2, rfl⟩
theorem t_has {σ : fx_S} {n j : Nat} (h : σ.1 422 = nI n) (hn : n ≤ 200) (hj : j < n) : F_Tree0_has (nI j) σ = some (1, σ) := by
  simp (disch := omega) only [F_Tree0_has, fx_bnd, fx_bndx, e_gI, e_pI, e_rz0, e_rz1, e_ret, e_pur, e_thr, e_if, e_el, h, q_lt, q_le, q_eq, q_lt0, q_0lt, q_le0, q_0le, q_eq0, q_lt1, q_1lt, q_le1, q_1le, q_eq1, q_lt2, q_2lt, q_le2, q_2le, q_eq2, q_lt3, q_3lt, q_le3, q_3le, q_eq3, q_lt4, q_4lt, q_le4, q_4le, q_eq4, q_lt6, q_6lt, q_le6, q_6le, q_eq6, q_lt10, q_10lt, q_le10, q_10le, q_eq10, q_lt30, q_30lt, q_le30, q_30le, q_eq30, q_lt40, q_40lt, q_le40, q_40le, q_eq40, q_lt41, q_41lt, q_le41, q_41le, q_eq41, q_lt200, q_200lt, q_le200, q_200le, q_eq200, q_lt400, q_400lt, q_le400, q_400le, q_eq400, q_lt600, q_600lt, q_le600, q_600le, q_eq600, q_lt800, q_800lt, q_le800, q_800le, q_eq800, q_lt900, q_900lt, q_le900, q_900le, q_eq900, q_0eq, q_1eq, q_2eq, q_3eq, q_4eq, q_neg, q_m1, q_m1l, q_s1, nI_1, q_1a, nI_add, q_mul, q_m41, q_41m, q_dn, q_dm10, q_dm11, q_dm12, q_dm13, q_dm14, q_d0m1, q_d01, q_d02, q_d03, q_d04, q_d1m1, q_d10, q_d12, q_d13, q_d14, q_d2m1, q_d20, q_d21, q_d23, q_d24, q_d3m1, q_d30, q_d31, q_d32, q_d34, q_d4m1, q_d40, q_d41, q_d42, q_d43, if_true, if_false, eq_self]
theorem t_hasn {σ : fx_S} {n : Nat} {v : Int32} (h : σ.1 422 = nI n) (hn : n ≤ 200) (hv : v < 0 ∨ ∃ j, n ≤ j ∧ j < 2 ^ 31 ∧ v = nI j) : F_Tree0_has v σ = some (0, σ) := by
  rcases hv with hv | ⟨j, h1, h2, rfl⟩
  · simp [F_Tree0_has, fx_bnd, fx_bndx, e_gI, e_pI, e_rz0, e_rz1, e_ret, e_pur, e_thr, e_if, e_el, hv]
  · simp (disch := omega) only [F_Tree0_has, fx_bnd, fx_bndx, e_gI, e_pI, e_rz0, e_rz1, e_ret, e_pur, e_thr, e_if, e_el, h, q_lt, q_le, q_eq, q_lt0, q_0lt, q_le0, q_0le, q_eq0, q_lt1, q_1lt, q_le1, q_1le, q_eq1, q_lt2, q_2lt, q_le2, q_2le, q_eq2, q_lt3, q_3lt, q_le3, q_3le, q_eq3, q_lt4, q_4lt, q_le4, q_4le, q_eq4, q_lt6, q_6lt, q_le6, q_6le, q_eq6, q_lt10, q_10lt, q_le10, q_10le, q_eq10, q_lt30, q_30lt, q_le30, q_30le, q_eq30, q_lt40, q_40lt, q_le40, q_40le, q_eq40, q_lt41, q_41lt, q_le41, q_41le, q_eq41, q_lt200, q_200lt, q_le200, q_200le, q_eq200, q_lt400, q_400lt, q_le400, q_400le, q_eq400, q_lt600, q_600lt, q_le600, q_600le, q_eq600, q_lt800, q_800lt, q_le800, q_800le, q_eq800, q_lt900, q_900lt, q_le900, q_900le, q_eq900, q_0eq, q_1eq, q_2eq, q_3eq, q_4eq, q_neg, q_m1, q_m1l, q_s1, nI_1, q_1a, nI_add, q_mul, q_m41, q_41m, q_dn, q_dm10, q_dm11, q_dm12, q_dm13, q_dm14, q_d0m1, q_d01, q_d02, q_d03, q_d04, q_d1m1, q_d10, q_d12, q_d13, q_d14, q_d2m1, q_d20, q_d21, q_d23, q_d24, q_d3m1, q_d30, q_d31, q_d32, q_d34, q_d4m1, q_d40, q_d41, q_d42, q_d43, if_true, if_false, eq_self]
theorem w_has {σ : fx_S} {n j : Nat} (h : σ.1 646 = nI n) (hn : n ≤ 600) (hj : j < n) : F_Written_has (nI j) σ = some (1, σ) := by
  simp (disch := omega) only [F_Written_has, fx_bnd, fx_bndx, e_gI, e_pI, e_rz0, e_rz1, e_ret, e_pur, e_thr, e_if, e_el, h, q_lt, q_le, q_eq, q_lt0, q_0lt, q_le0, q_0le, q_eq0, q_lt1, q_1lt, q_le1, q_1le, q_eq1, q_lt2, q_2lt, q_le2, q_2le, q_eq2, q_lt3, q_3lt, q_le3, q_3le, q_eq3, q_lt4, q_4lt, q_le4, q_4le, q_eq4, q_lt6, q_6lt, q_le6, q_6le, q_eq6, q_lt10, q_10lt, q_le10, q_10le, q_eq10, q_lt30, q_30lt, q_le30, q_30le, q_eq30, q_lt40, q_40lt, q_le40, q_40le, q_eq40, q_lt41, q_41lt, q_le41, q_41le, q_eq41, q_lt200, q_200lt, q_le200, q_200le, q_eq200, q_lt400, q_400lt, q_le400, q_400le, q_eq400, q_lt600, q_600lt, q_le600, q_600le, q_eq600, q_lt800, q_800lt, q_le800, q_800le, q_eq800, q_lt900, q_900lt, q_le900, q_900le, q_eq900, q_0eq, q_1eq, q_2eq, q_3eq, q_4eq, q_neg, q_m1, q_m1l, q_s1, nI_1, q_1a, nI_add, q_mul, q_m41, q_41m, q_dn, q_dm10, q_dm11, q_dm12, q_dm13, q_dm14, q_d0m1, q_d01, q_d02, q_d03, q_d04, q_d1m1, q_d10, q_d12, q_d13, q_d14, q_d2m1, q_d20, q_d21, q_d23, q_d24, q_d3m1, q_d30, q_d31, q_d32, q_d34, q_d4m1, q_d40, q_d41, q_d42, q_d43, if_true, if_false, eq_self]
theorem w_hasn {σ : fx_S} {n : Nat} {v : Int32} (h : σ.1 646 = nI n) (hn : n ≤ 600) (hv : v < 0 ∨ ∃ j, n ≤ j ∧ j < 2 ^ 31 ∧ v = nI j) : F_Written_has v σ = some (0, σ) := by
  rcases hv with hv | ⟨j, h1, h2, rfl⟩
  · simp [F_Written_has, fx_bnd, fx_bndx, e_gI, e_pI, e_rz0, e_rz1, e_ret, e_pur, e_thr, e_if, e_el, hv]
  · simp (disch := omega) only [F_Written_has, fx_bnd, fx_bndx, e_gI, e_pI, e_rz0, e_rz1, e_ret, e_pur, e_thr, e_if, e_el, h, q_lt, q_le, q_eq, q_lt0, q_0lt, q_le0, q_0le, q_eq0, q_lt1, q_1lt, q_le1, q_1le, q_eq1, q_lt2, q_2lt, q_le2, q_2le, q_eq2, q_lt3, q_3lt, q_le3, q_3le, q_eq3, q_lt4, q_4lt, q_le4, q_4le, q_eq4, q_lt6, q_6lt, q_le6, q_6le, q_eq6, q_lt10, q_10lt, q_le10, q_10le, q_eq10, q_lt30, q_30lt, q_le30, q_30le, q_eq30, q_lt40, q_40lt, q_le40, q_40le, q_eq40, q_lt41, q_41lt, q_le41, q_41le, q_eq41, q_lt200, q_200lt, q_le200, q_200le, q_eq200, q_lt400, q_400lt, q_le400, q_400le, q_eq400, q_lt600, q_600lt, q_le600, q_600le, q_eq600, q_lt800, q_800lt, q_le800, q_800le, q_eq800, q_lt900, q_900lt, q_le900, q_900le, q_eq900, q_0eq, q_1eq, q_2eq, q_3eq, q_4eq, q_neg, q_m1, q_m1l, q_s1, nI_1, q_1a, nI_add, q_mul, q_m41, q_41m, q_dn, q_dm10, q_dm11, q_dm12, q_dm13, q_dm14, q_d0m1, q_d01, q_d02, q_d03, q_d04, q_d1m1, q_d10, q_d12, q_d13, q_d14, q_d2m1, q_d20, q_d21, q_d23, q_d24, q_d3m1, q_d30, q_d31, q_d32, q_d34, q_d4m1, q_d40, q_d41, q_d42, q_d43, if_true, if_false, eq_self]
theorem q_ns {n : Nat} {a : Int32} (hb : a < 0 ∨ ∃ j, n ≤ j ∧ j < 2 ^ 31 ∧ a = nI j) {k : Nat} {c : Int32} (hc : c = nI k) (hk : k < n) (hn : n < 2 ^ 31) : ¬ a = c := by
  rw [hc]
  rintro rfl
  rcases hb with hb | ⟨j, h1, h2, h3⟩
  · exact q_neg (by omega) hb
  · rw [q_eq (by omega) h2] at h3; omega
theorem o_clash {σ τ : fx_S} (h : Rel σ τ) (a : Int32) : lw_op Rel [(2, 1)] (F_FixityTrees_clash a) (F_Md_clash a) (fun r b => r = b) σ τ := by
  obtain ⟨c1, c2, c3, c4⟩ := id h.2.2.1
  rcases q_idx a 3 with ⟨w, hw, -, rfl⟩ | hb
  · have m0 : F_Md_clash (nI w) τ = F_Md_clash_J15 (nI w) 0 τ := by
      rw [F_Md_clash, e_bnd (m_in2 hw τ), e_el (by decide)]
    rw [F_Md_clash_J15, e_bnd (m_good0 τ), e_el (by decide)] at m0
    rcases (show w = 0 ∨ w = 1 ∨ w = 2 by omega) with rfl | rfl | rfl
    · exact op_ret0 h (r := σ.1 7) (b := τ.1 22) rfl (by rw [m0]; rfl) c1
    · exact op_ret0 h (r := σ.1 8) (b := τ.1 23) rfl (by rw [m0]; rfl) c2
    · exact op_ret0 h (r := σ.1 9) (b := τ.1 24) rfl (by rw [m0]; rfl) c3
  · refine op_thr0 h (b := 0) 2 1 (by simp) ?_ ?_
    · rw [F_FixityTrees_clash, e_el (q_ns hb (k := 0) (c := 0) rfl (by omega) (by omega)), e_el (q_ns hb (k := 1) (c := 1) rfl (by omega) (by omega)), e_el (q_ns hb (k := 2) (c := 2) rfl (by omega) (by omega))]; rfl
    · rw [F_Md_clash, e_bnd (m_inn2 hb τ), e_if (by decide), F_Md_clash_J15, e_bnd (m_good (by decide) τ), e_if (by decide)]; rfl
theorem o_node {σ τ : fx_S} (h : Rel σ τ) (a b : Int32) : lw_op Rel [(0, 1), (2, 2)] (F_FixityTrees_node a b) (F_Md_node a b) (fun r b => r = b) σ τ := by
  obtain ⟨n, hn, hz, hz', -, hk, -⟩ := id h.2.2.2.1
  rcases q_idx a n with ⟨j, hj, -, rfl⟩ | hbad
  · have eh := t_has hz hn hj
    obtain ⟨k1, k2, k3, k4, k5, -⟩ := hk j hj
    rcases q_idx b 5 with ⟨w, hw, -, rfl⟩ | hb
    · have m0 : F_Md_node (nI j) (nI w) τ = F_Md_node_J33 (nI j) (nI w) 0 τ := by
        rw [F_Md_node, e_bnd (e_gI _ _), hz', e_bnd (m_inz hj (by omega) τ), e_el (by decide), e_bnd (m_in4 hw τ), e_el (by decide)]
      rw [F_Md_node_J33, e_bnd (m_good0 τ), e_el (by decide)] at m0
      rcases (show w = 0 ∨ w = 1 ∨ w = 2 ∨ w = 3 ∨ w = 4 by omega) with rfl | rfl | rfl | rfl | rfl
      · refine op_ret0 h (r := σ.2.1 27 j) (b := τ.2.1 8 j) ?_ ?_ k1.symm
        · rw [F_FixityTrees_node, e_bnd eh, e_el (by decide), e_if (by decide), F_Tree0_kindAt]
          simp (disch := omega) only [fx_bnd, fx_bndx, e_gI, e_pI, e_rz0, e_rz1, e_ret, e_pur, e_thr, e_if, e_el, eh, q_lt, q_le, q_eq, q_lt0, q_0lt, q_le0, q_0le, q_eq0, q_lt1, q_1lt, q_le1, q_1le, q_eq1, q_lt2, q_2lt, q_le2, q_2le, q_eq2, q_lt3, q_3lt, q_le3, q_3le, q_eq3, q_lt4, q_4lt, q_le4, q_4le, q_eq4, q_lt6, q_6lt, q_le6, q_6le, q_eq6, q_lt10, q_10lt, q_le10, q_10le, q_eq10, q_lt30, q_30lt, q_le30, q_30le, q_eq30, q_lt40, q_40lt, q_le40, q_40le, q_eq40, q_lt41, q_41lt, q_le41, q_41le, q_eq41, q_lt200, q_200lt, q_le200, q_200le, q_eq200, q_lt400, q_400lt, q_le400, q_400le, q_eq400, q_lt600, q_600lt, q_le600, q_600le, q_eq600, q_lt800, q_800lt, q_le800, q_800le, q_eq800, q_lt900, q_900lt, q_le900, q_900le, q_eq900, q_0eq, q_1eq, q_2eq, q_3eq, q_4eq, q_neg, q_m1, q_m1l, q_s1, nI_1, q_1a, nI_add, q_mul, q_m41, q_41m, q_dn, q_dm10, q_dm11, q_dm12, q_dm13, q_dm14, q_d0m1, q_d01, q_d02, q_d03, q_d04, q_d1m1, q_d10, q_d12, q_d13, q_d14, q_d2m1, q_d20, q_d21, q_d23, q_d24, q_d3m1, q_d30, q_d31, q_d32, q_d34, q_d4m1, q_d40, q_d41, q_d42, q_d43, if_true, if_false, eq_self, e_lA]
        · rw [m0, e_if (by decide), e_bnd (e_lA (by omega) (by omega))]; rfl
      · refine op_ret0 h (r := σ.2.1 28 j) (b := τ.2.1 9 j) ?_ ?_ k2.symm
        · rw [F_FixityTrees_node, e_bnd eh, e_el (by decide), e_el (by decide), e_if (by decide), F_Tree0_operatorAt]
          simp (disch := omega) only [fx_bnd, fx_bndx, e_gI, e_pI, e_rz0, e_rz1, e_ret, e_pur, e_thr, e_if, e_el, eh, q_lt, q_le, q_eq, q_lt0, q_0lt, q_le0, q_0le, q_eq0, q_lt1, q_1lt, q_le1, q_1le, q_eq1, q_lt2, q_2lt, q_le2, q_2le, q_eq2, q_lt3, q_3lt, q_le3, q_3le, q_eq3, q_lt4, q_4lt, q_le4, q_4le, q_eq4, q_lt6, q_6lt, q_le6, q_6le, q_eq6, q_lt10, q_10lt, q_le10, q_10le, q_eq10, q_lt30, q_30lt, q_le30, q_30le, q_eq30, q_lt40, q_40lt, q_le40, q_40le, q_eq40, q_lt41, q_41lt, q_le41, q_41le, q_eq41, q_lt200, q_200lt, q_le200, q_200le, q_eq200, q_lt400, q_400lt, q_le400, q_400le, q_eq400, q_lt600, q_600lt, q_le600, q_600le, q_eq600, q_lt800, q_800lt, q_le800, q_800le, q_eq800, q_lt900, q_900lt, q_le900, q_900le, q_eq900, q_0eq, q_1eq, q_2eq, q_3eq, q_4eq, q_neg, q_m1, q_m1l, q_s1, nI_1, q_1a, nI_add, q_mul, q_m41, q_41m, q_dn, q_dm10, q_dm11, q_dm12, q_dm13, q_dm14, q_d0m1, q_d01, q_d02, q_d03, q_d04, q_d1m1, q_d10, q_d12, q_d13, q_d14, q_d2m1, q_d20, q_d21, q_d23, q_d24, q_d3m1, q_d30, q_d31, q_d32, q_d34, q_d4m1, q_d40, q_d41, q_d42, q_d43, if_true, if_false, eq_self, e_lA]
        · rw [m0, e_el (by decide), e_if (by decide), e_bnd (e_lA (by omega) (by omega))]; rfl
      · refine op_ret0 h (r := σ.2.1 29 j) (b := τ.2.1 10 j) ?_ ?_ k3.symm
        · rw [F_FixityTrees_node, e_bnd eh, e_el (by decide), e_el (by decide), e_el (by decide), e_if (by decide), F_Tree0_firstAt]
          simp (disch := omega) only [fx_bnd, fx_bndx, e_gI, e_pI, e_rz0, e_rz1, e_ret, e_pur, e_thr, e_if, e_el, eh, q_lt, q_le, q_eq, q_lt0, q_0lt, q_le0, q_0le, q_eq0, q_lt1, q_1lt, q_le1, q_1le, q_eq1, q_lt2, q_2lt, q_le2, q_2le, q_eq2, q_lt3, q_3lt, q_le3, q_3le, q_eq3, q_lt4, q_4lt, q_le4, q_4le, q_eq4, q_lt6, q_6lt, q_le6, q_6le, q_eq6, q_lt10, q_10lt, q_le10, q_10le, q_eq10, q_lt30, q_30lt, q_le30, q_30le, q_eq30, q_lt40, q_40lt, q_le40, q_40le, q_eq40, q_lt41, q_41lt, q_le41, q_41le, q_eq41, q_lt200, q_200lt, q_le200, q_200le, q_eq200, q_lt400, q_400lt, q_le400, q_400le, q_eq400, q_lt600, q_600lt, q_le600, q_600le, q_eq600, q_lt800, q_800lt, q_le800, q_800le, q_eq800, q_lt900, q_900lt, q_le900, q_900le, q_eq900, q_0eq, q_1eq, q_2eq, q_3eq, q_4eq, q_neg, q_m1, q_m1l, q_s1, nI_1, q_1a, nI_add, q_mul, q_m41, q_41m, q_dn, q_dm10, q_dm11, q_dm12, q_dm13, q_dm14, q_d0m1, q_d01, q_d02, q_d03, q_d04, q_d1m1, q_d10, q_d12, q_d13, q_d14, q_d2m1, q_d20, q_d21, q_d23, q_d24, q_d3m1, q_d30, q_d31, q_d32, q_d34, q_d4m1, q_d40, q_d41, q_d42, q_d43, if_true, if_false, eq_self, e_lA]
        · rw [m0, e_el (by decide), e_el (by decide), e_if (by decide), e_bnd (e_lA (by omega) (by omega))]; rfl
      · refine op_ret0 h (r := σ.2.1 30 j) (b := τ.2.1 11 j) ?_ ?_ k4.symm
        · rw [F_FixityTrees_node, e_bnd eh, e_el (by decide), e_el (by decide), e_el (by decide), e_el (by decide), e_if (by decide), F_Tree0_secondAt]
          simp (disch := omega) only [fx_bnd, fx_bndx, e_gI, e_pI, e_rz0, e_rz1, e_ret, e_pur, e_thr, e_if, e_el, eh, q_lt, q_le, q_eq, q_lt0, q_0lt, q_le0, q_0le, q_eq0, q_lt1, q_1lt, q_le1, q_1le, q_eq1, q_lt2, q_2lt, q_le2, q_2le, q_eq2, q_lt3, q_3lt, q_le3, q_3le, q_eq3, q_lt4, q_4lt, q_le4, q_4le, q_eq4, q_lt6, q_6lt, q_le6, q_6le, q_eq6, q_lt10, q_10lt, q_le10, q_10le, q_eq10, q_lt30, q_30lt, q_le30, q_30le, q_eq30, q_lt40, q_40lt, q_le40, q_40le, q_eq40, q_lt41, q_41lt, q_le41, q_41le, q_eq41, q_lt200, q_200lt, q_le200, q_200le, q_eq200, q_lt400, q_400lt, q_le400, q_400le, q_eq400, q_lt600, q_600lt, q_le600, q_600le, q_eq600, q_lt800, q_800lt, q_le800, q_800le, q_eq800, q_lt900, q_900lt, q_le900, q_900le, q_eq900, q_0eq, q_1eq, q_2eq, q_3eq, q_4eq, q_neg, q_m1, q_m1l, q_s1, nI_1, q_1a, nI_add, q_mul, q_m41, q_41m, q_dn, q_dm10, q_dm11, q_dm12, q_dm13, q_dm14, q_d0m1, q_d01, q_d02, q_d03, q_d04, q_d1m1, q_d10, q_d12, q_d13, q_d14, q_d2m1, q_d20, q_d21, q_d23, q_d24, q_d3m1, q_d30, q_d31, q_d32, q_d34, q_d4m1, q_d40, q_d41, q_d42, q_d43, if_true, if_false, eq_self, e_lA]
        · rw [m0, e_el (by decide), e_el (by decide), e_el (by decide), e_if (by decide), e_bnd (e_lA (by omega) (by omega))]; rfl
      · refine op_ret0 h (r := σ.2.1 31 j) (b := τ.2.1 12 j) ?_ ?_ k5.symm
        · rw [F_FixityTrees_node, e_bnd eh, e_el (by decide), e_el (by decide), e_el (by decide), e_el (by decide), e_el (by decide), e_if (by decide), F_Tree0_placeAt]
          simp (disch := omega) only [fx_bnd, fx_bndx, e_gI, e_pI, e_rz0, e_rz1, e_ret, e_pur, e_thr, e_if, e_el, eh, q_lt, q_le, q_eq, q_lt0, q_0lt, q_le0, q_0le, q_eq0, q_lt1, q_1lt, q_le1, q_1le, q_eq1, q_lt2, q_2lt, q_le2, q_2le, q_eq2, q_lt3, q_3lt, q_le3, q_3le, q_eq3, q_lt4, q_4lt, q_le4, q_4le, q_eq4, q_lt6, q_6lt, q_le6, q_6le, q_eq6, q_lt10, q_10lt, q_le10, q_10le, q_eq10, q_lt30, q_30lt, q_le30, q_30le, q_eq30, q_lt40, q_40lt, q_le40, q_40le, q_eq40, q_lt41, q_41lt, q_le41, q_41le, q_eq41, q_lt200, q_200lt, q_le200, q_200le, q_eq200, q_lt400, q_400lt, q_le400, q_400le, q_eq400, q_lt600, q_600lt, q_le600, q_600le, q_eq600, q_lt800, q_800lt, q_le800, q_800le, q_eq800, q_lt900, q_900lt, q_le900, q_900le, q_eq900, q_0eq, q_1eq, q_2eq, q_3eq, q_4eq, q_neg, q_m1, q_m1l, q_s1, nI_1, q_1a, nI_add, q_mul, q_m41, q_41m, q_dn, q_dm10, q_dm11, q_dm12, q_dm13, q_dm14, q_d0m1, q_d01, q_d02, q_d03, q_d04, q_d1m1, q_d10, q_d12, q_d13, q_d14, q_d2m1, q_d20, q_d21, q_d23, q_d24, q_d3m1, q_d30, q_d31, q_d32, q_d34, q_d4m1, q_d40, q_d41, q_d42, q_d43, if_true, if_false, eq_self, e_lA]
        · rw [m0, e_el (by decide), e_el (by decide), e_el (by decide), e_el (by decide), e_bnd (e_lA (by omega) (by omega))]; rfl
    · refine op_thr0 h (b := 0) 2 2 (by simp) ?_ ?_
      · rw [F_FixityTrees_node, e_bnd eh, e_el (by decide), e_el (q_ns hb (k := 0) (c := 0) rfl (by omega) (by omega)), e_el (q_ns hb (k := 1) (c := 1) rfl (by omega) (by omega)), e_el (q_ns hb (k := 2) (c := 2) rfl (by omega) (by omega)), e_el (q_ns hb (k := 3) (c := 3) rfl (by omega) (by omega)), e_el (q_ns hb (k := 4) (c := 4) rfl (by omega) (by omega))]; rfl
      · rw [F_Md_node, e_bnd (e_gI _ _), hz', e_bnd (m_inz hj (by omega) τ), e_el (by decide), e_bnd (m_inn4 hb τ), e_if (by decide), F_Md_node_J33, e_bnd (m_good (by decide) τ), e_if (by decide)]; rfl
  · refine op_thr0 h (b := 0) 0 1 (by simp) ?_ ?_
    · rw [F_FixityTrees_node, e_bnd (t_hasn hz hn hbad), e_if (by decide)]; rfl
    · rw [F_Md_node, e_bnd (e_gI _ _), hz', e_bnd (m_innz (by omega) hbad τ), e_if (by decide), F_Md_node_J33, e_bnd (m_good (by decide) τ), e_if (by decide)]; rfl
theorem t_kind {σ : fx_S} {n j : Nat} (h : σ.1 422 = nI n) (hn : n ≤ 200) (hj : j < n) : F_Tree0_kindAt (nI j) σ = some (σ.2.1 27 j, σ) := by
  simp (disch := omega) only [F_Tree0_kindAt, fx_bnd, fx_bndx, e_gI, e_pI, e_rz0, e_rz1, e_ret, e_pur, e_thr, e_if, e_el, t_has h hn hj, q_lt, q_le, q_eq, q_lt0, q_0lt, q_le0, q_0le, q_eq0, q_lt1, q_1lt, q_le1, q_1le, q_eq1, q_lt2, q_2lt, q_le2, q_2le, q_eq2, q_lt3, q_3lt, q_le3, q_3le, q_eq3, q_lt4, q_4lt, q_le4, q_4le, q_eq4, q_lt6, q_6lt, q_le6, q_6le, q_eq6, q_lt10, q_10lt, q_le10, q_10le, q_eq10, q_lt30, q_30lt, q_le30, q_30le, q_eq30, q_lt40, q_40lt, q_le40, q_40le, q_eq40, q_lt41, q_41lt, q_le41, q_41le, q_eq41, q_lt200, q_200lt, q_le200, q_200le, q_eq200, q_lt400, q_400lt, q_le400, q_400le, q_eq400, q_lt600, q_600lt, q_le600, q_600le, q_eq600, q_lt800, q_800lt, q_le800, q_800le, q_eq800, q_lt900, q_900lt, q_le900, q_900le, q_eq900, q_0eq, q_1eq, q_2eq, q_3eq, q_4eq, q_neg, q_m1, q_m1l, q_s1, nI_1, q_1a, nI_add, q_mul, q_m41, q_41m, q_dn, q_dm10, q_dm11, q_dm12, q_dm13, q_dm14, q_d0m1, q_d01, q_d02, q_d03, q_d04, q_d1m1, q_d10, q_d12, q_d13, q_d14, q_d2m1, q_d20, q_d21, q_d23, q_d24, q_d3m1, q_d30, q_d31, q_d32, q_d34, q_d4m1, q_d40, q_d41, q_d42, q_d43, if_true, if_false, eq_self, e_lA]
theorem t_num {σ : fx_S} {n j : Nat} (h : σ.1 422 = nI n) (hn : n ≤ 200) (hj : j < n) : F_Tree0_numberAt (nI j) σ = some (σ.2.2 32 j, σ) := by
  simp (disch := omega) only [F_Tree0_numberAt, fx_bnd, fx_bndx, e_gI, e_pI, e_rz0, e_rz1, e_ret, e_pur, e_thr, e_if, e_el, t_has h hn hj, q_lt, q_le, q_eq, q_lt0, q_0lt, q_le0, q_0le, q_eq0, q_lt1, q_1lt, q_le1, q_1le, q_eq1, q_lt2, q_2lt, q_le2, q_2le, q_eq2, q_lt3, q_3lt, q_le3, q_3le, q_eq3, q_lt4, q_4lt, q_le4, q_4le, q_eq4, q_lt6, q_6lt, q_le6, q_6le, q_eq6, q_lt10, q_10lt, q_le10, q_10le, q_eq10, q_lt30, q_30lt, q_le30, q_30le, q_eq30, q_lt40, q_40lt, q_le40, q_40le, q_eq40, q_lt41, q_41lt, q_le41, q_41le, q_eq41, q_lt200, q_200lt, q_le200, q_200le, q_eq200, q_lt400, q_400lt, q_le400, q_400le, q_eq400, q_lt600, q_600lt, q_le600, q_600le, q_eq600, q_lt800, q_800lt, q_le800, q_800le, q_eq800, q_lt900, q_900lt, q_le900, q_900le, q_eq900, q_0eq, q_1eq, q_2eq, q_3eq, q_4eq, q_neg, q_m1, q_m1l, q_s1, nI_1, q_1a, nI_add, q_mul, q_m41, q_41m, q_dn, q_dm10, q_dm11, q_dm12, q_dm13, q_dm14, q_d0m1, q_d01, q_d02, q_d03, q_d04, q_d1m1, q_d10, q_d12, q_d13, q_d14, q_d2m1, q_d20, q_d21, q_d23, q_d24, q_d3m1, q_d30, q_d31, q_d32, q_d34, q_d4m1, q_d40, q_d41, q_d42, q_d43, if_true, if_false, eq_self, e_lL]
theorem t_opr {σ : fx_S} {n j : Nat} (h : σ.1 422 = nI n) (hn : n ≤ 200) (hj : j < n) : F_Tree0_operatorAt (nI j) σ = some (σ.2.1 28 j, σ) := by
  simp (disch := omega) only [F_Tree0_operatorAt, fx_bnd, fx_bndx, e_gI, e_pI, e_rz0, e_rz1, e_ret, e_pur, e_thr, e_if, e_el, t_has h hn hj, q_lt, q_le, q_eq, q_lt0, q_0lt, q_le0, q_0le, q_eq0, q_lt1, q_1lt, q_le1, q_1le, q_eq1, q_lt2, q_2lt, q_le2, q_2le, q_eq2, q_lt3, q_3lt, q_le3, q_3le, q_eq3, q_lt4, q_4lt, q_le4, q_4le, q_eq4, q_lt6, q_6lt, q_le6, q_6le, q_eq6, q_lt10, q_10lt, q_le10, q_10le, q_eq10, q_lt30, q_30lt, q_le30, q_30le, q_eq30, q_lt40, q_40lt, q_le40, q_40le, q_eq40, q_lt41, q_41lt, q_le41, q_41le, q_eq41, q_lt200, q_200lt, q_le200, q_200le, q_eq200, q_lt400, q_400lt, q_le400, q_400le, q_eq400, q_lt600, q_600lt, q_le600, q_600le, q_eq600, q_lt800, q_800lt, q_le800, q_800le, q_eq800, q_lt900, q_900lt, q_le900, q_900le, q_eq900, q_0eq, q_1eq, q_2eq, q_3eq, q_4eq, q_neg, q_m1, q_m1l, q_s1, nI_1, q_1a, nI_add, q_mul, q_m41, q_41m, q_dn, q_dm10, q_dm11, q_dm12, q_dm13, q_dm14, q_d0m1, q_d01, q_d02, q_d03, q_d04, q_d1m1, q_d10, q_d12, q_d13, q_d14, q_d2m1, q_d20, q_d21, q_d23, q_d24, q_d3m1, q_d30, q_d31, q_d32, q_d34, q_d4m1, q_d40, q_d41, q_d42, q_d43, if_true, if_false, eq_self, e_lA]
theorem t_fst {σ : fx_S} {n j : Nat} (h : σ.1 422 = nI n) (hn : n ≤ 200) (hj : j < n) : F_Tree0_firstAt (nI j) σ = some (σ.2.1 29 j, σ) := by
  simp (disch := omega) only [F_Tree0_firstAt, fx_bnd, fx_bndx, e_gI, e_pI, e_rz0, e_rz1, e_ret, e_pur, e_thr, e_if, e_el, t_has h hn hj, q_lt, q_le, q_eq, q_lt0, q_0lt, q_le0, q_0le, q_eq0, q_lt1, q_1lt, q_le1, q_1le, q_eq1, q_lt2, q_2lt, q_le2, q_2le, q_eq2, q_lt3, q_3lt, q_le3, q_3le, q_eq3, q_lt4, q_4lt, q_le4, q_4le, q_eq4, q_lt6, q_6lt, q_le6, q_6le, q_eq6, q_lt10, q_10lt, q_le10, q_10le, q_eq10, q_lt30, q_30lt, q_le30, q_30le, q_eq30, q_lt40, q_40lt, q_le40, q_40le, q_eq40, q_lt41, q_41lt, q_le41, q_41le, q_eq41, q_lt200, q_200lt, q_le200, q_200le, q_eq200, q_lt400, q_400lt, q_le400, q_400le, q_eq400, q_lt600, q_600lt, q_le600, q_600le, q_eq600, q_lt800, q_800lt, q_le800, q_800le, q_eq800, q_lt900, q_900lt, q_le900, q_900le, q_eq900, q_0eq, q_1eq, q_2eq, q_3eq, q_4eq, q_neg, q_m1, q_m1l, q_s1, nI_1, q_1a, nI_add, q_mul, q_m41, q_41m, q_dn, q_dm10, q_dm11, q_dm12, q_dm13, q_dm14, q_d0m1, q_d01, q_d02, q_d03, q_d04, q_d1m1, q_d10, q_d12, q_d13, q_d14, q_d2m1, q_d20, q_d21, q_d23, q_d24, q_d3m1, q_d30, q_d31, q_d32, q_d34, q_d4m1, q_d40, q_d41, q_d42, q_d43, if_true, if_false, eq_self, e_lA]
theorem t_snd {σ : fx_S} {n j : Nat} (h : σ.1 422 = nI n) (hn : n ≤ 200) (hj : j < n) : F_Tree0_secondAt (nI j) σ = some (σ.2.1 30 j, σ) := by
  simp (disch := omega) only [F_Tree0_secondAt, fx_bnd, fx_bndx, e_gI, e_pI, e_rz0, e_rz1, e_ret, e_pur, e_thr, e_if, e_el, t_has h hn hj, q_lt, q_le, q_eq, q_lt0, q_0lt, q_le0, q_0le, q_eq0, q_lt1, q_1lt, q_le1, q_1le, q_eq1, q_lt2, q_2lt, q_le2, q_2le, q_eq2, q_lt3, q_3lt, q_le3, q_3le, q_eq3, q_lt4, q_4lt, q_le4, q_4le, q_eq4, q_lt6, q_6lt, q_le6, q_6le, q_eq6, q_lt10, q_10lt, q_le10, q_10le, q_eq10, q_lt30, q_30lt, q_le30, q_30le, q_eq30, q_lt40, q_40lt, q_le40, q_40le, q_eq40, q_lt41, q_41lt, q_le41, q_41le, q_eq41, q_lt200, q_200lt, q_le200, q_200le, q_eq200, q_lt400, q_400lt, q_le400, q_400le, q_eq400, q_lt600, q_600lt, q_le600, q_600le, q_eq600, q_lt800, q_800lt, q_le800, q_800le, q_eq800, q_lt900, q_900lt, q_le900, q_900le, q_eq900, q_0eq, q_1eq, q_2eq, q_3eq, q_4eq, q_neg, q_m1, q_m1l, q_s1, nI_1, q_1a, nI_add, q_mul, q_m41, q_41m, q_dn, q_dm10, q_dm11, q_dm12, q_dm13, q_dm14, q_d0m1, q_d01, q_d02, q_d03, q_d04, q_d1m1, q_d10, q_d12, q_d13, q_d14, q_d2m1, q_d20, q_d21, q_d23, q_d24, q_d3m1, q_d30, q_d31, q_d32, q_d34, q_d4m1, q_d40, q_d41, q_d42, q_d43, if_true, if_false, eq_self, e_lA]
theorem o_number {σ τ : fx_S} (h : Rel σ τ) (a : Int32) : lw_op Rel [(0, 1)] (F_FixityTrees_number a) (F_Md_number a) (fun r b => r = b) σ τ := by
  obtain ⟨n, hn, hz, hz', -, hk, -⟩ := id h.2.2.2.1
  have bad : F_Md_number a τ = F_Md_number_J27 a τ → F_FixityTrees_number a σ = some (.inr 0, σ) → lw_op Rel [(0, 1)] (F_FixityTrees_number a) (F_Md_number a) (fun r b => r = b) σ τ := by
    intro b1 b2
    refine op_thr0 h (b := 0) 0 1 (by simp) b2 ?_
    rw [b1, F_Md_number_J27, F_Md_number_J28, e_if (by decide), F_Md_number_J39, e_bnd (m_good (by decide) τ), e_if (by decide)]; rfl
  rcases q_idx a n with ⟨j, hj, -, rfl⟩ | hbad
  · obtain ⟨k1, k2, k3, k4, k5, k6⟩ := hk j hj
    by_cases q : σ.2.1 27 j = 0
    · refine op_ret0 h (r := σ.2.2 32 j) (b := τ.2.2 14 j) ?_ ?_ k6.symm
      · rw [F_FixityTrees_number, e_bnd (t_kind hz hn hj), e_if q, e_bnd (t_num hz hn hj)]; rfl
      · rw [F_Md_number, e_bnd (e_gI _ _), hz', e_bnd (m_inz hj (by omega) τ), e_el (by decide), e_bnd (e_lA (by omega) (by omega)), e_if (by rw [k1]; exact q), F_Md_number_J28, e_el (by decide), F_Md_number_J39, e_bnd (m_good0 τ), e_el (by decide), e_bnd (e_lL (by omega) (by omega))]; rfl
    · refine bad ?_ ?_
      · rw [F_Md_number, e_bnd (e_gI _ _), hz', e_bnd (m_inz hj (by omega) τ), e_el (by decide), e_bnd (e_lA (by omega) (by omega)), e_el (by rw [k1]; exact q)]
      · rw [F_FixityTrees_number, e_bnd (t_kind hz hn hj), e_el q]; rfl
  · refine bad ?_ ?_
    · rw [F_Md_number, e_bnd (e_gI _ _), hz', e_bnd (m_innz (by omega) hbad τ), e_if (by decide)]
    · have e9 : F_Tree0_kindAt a σ = some (-1, σ) := by
        rw [F_Tree0_kindAt, e_bnd (t_hasn hz hn hbad), e_if (by decide)]; rfl
      rw [F_FixityTrees_number, e_bnd e9, e_el (by decide)]; rfl
theorem w_kind {σ : fx_S} {n j : Nat} (h : σ.1 646 = nI n) (hn : n ≤ 600) (hj : j < n) : F_Written_kindAt (nI j) σ = some (σ.2.1 41 j, σ) := by
  simp (disch := omega) only [F_Written_kindAt, fx_bnd, fx_bndx, e_gI, e_pI, e_rz0, e_rz1, e_ret, e_pur, e_thr, e_if, e_el, w_has h hn hj, q_lt, q_le, q_eq, q_lt0, q_0lt, q_le0, q_0le, q_eq0, q_lt1, q_1lt, q_le1, q_1le, q_eq1, q_lt2, q_2lt, q_le2, q_2le, q_eq2, q_lt3, q_3lt, q_le3, q_3le, q_eq3, q_lt4, q_4lt, q_le4, q_4le, q_eq4, q_lt6, q_6lt, q_le6, q_6le, q_eq6, q_lt10, q_10lt, q_le10, q_10le, q_eq10, q_lt30, q_30lt, q_le30, q_30le, q_eq30, q_lt40, q_40lt, q_le40, q_40le, q_eq40, q_lt41, q_41lt, q_le41, q_41le, q_eq41, q_lt200, q_200lt, q_le200, q_200le, q_eq200, q_lt400, q_400lt, q_le400, q_400le, q_eq400, q_lt600, q_600lt, q_le600, q_600le, q_eq600, q_lt800, q_800lt, q_le800, q_800le, q_eq800, q_lt900, q_900lt, q_le900, q_900le, q_eq900, q_0eq, q_1eq, q_2eq, q_3eq, q_4eq, q_neg, q_m1, q_m1l, q_s1, nI_1, q_1a, nI_add, q_mul, q_m41, q_41m, q_dn, q_dm10, q_dm11, q_dm12, q_dm13, q_dm14, q_d0m1, q_d01, q_d02, q_d03, q_d04, q_d1m1, q_d10, q_d12, q_d13, q_d14, q_d2m1, q_d20, q_d21, q_d23, q_d24, q_d3m1, q_d30, q_d31, q_d32, q_d34, q_d4m1, q_d40, q_d41, q_d42, q_d43, if_true, if_false, eq_self, e_lA]
theorem w_opr {σ : fx_S} {n j : Nat} (h : σ.1 646 = nI n) (hn : n ≤ 600) (hj : j < n) : F_Written_operatorAt (nI j) σ = some (σ.2.1 42 j, σ) := by
  simp (disch := omega) only [F_Written_operatorAt, fx_bnd, fx_bndx, e_gI, e_pI, e_rz0, e_rz1, e_ret, e_pur, e_thr, e_if, e_el, w_has h hn hj, q_lt, q_le, q_eq, q_lt0, q_0lt, q_le0, q_0le, q_eq0, q_lt1, q_1lt, q_le1, q_1le, q_eq1, q_lt2, q_2lt, q_le2, q_2le, q_eq2, q_lt3, q_3lt, q_le3, q_3le, q_eq3, q_lt4, q_4lt, q_le4, q_4le, q_eq4, q_lt6, q_6lt, q_le6, q_6le, q_eq6, q_lt10, q_10lt, q_le10, q_10le, q_eq10, q_lt30, q_30lt, q_le30, q_30le, q_eq30, q_lt40, q_40lt, q_le40, q_40le, q_eq40, q_lt41, q_41lt, q_le41, q_41le, q_eq41, q_lt200, q_200lt, q_le200, q_200le, q_eq200, q_lt400, q_400lt, q_le400, q_400le, q_eq400, q_lt600, q_600lt, q_le600, q_600le, q_eq600, q_lt800, q_800lt, q_le800, q_800le, q_eq800, q_lt900, q_900lt, q_le900, q_900le, q_eq900, q_0eq, q_1eq, q_2eq, q_3eq, q_4eq, q_neg, q_m1, q_m1l, q_s1, nI_1, q_1a, nI_add, q_mul, q_m41, q_41m, q_dn, q_dm10, q_dm11, q_dm12, q_dm13, q_dm14, q_d0m1, q_d01, q_d02, q_d03, q_d04, q_d1m1, q_d10, q_d12, q_d13, q_d14, q_d2m1, q_d20, q_d21, q_d23, q_d24, q_d3m1, q_d30, q_d31, q_d32, q_d34, q_d4m1, q_d40, q_d41, q_d42, q_d43, if_true, if_false, eq_self, e_lA]
theorem w_node {σ : fx_S} {n j : Nat} (h : σ.1 646 = nI n) (hn : n ≤ 600) (hj : j < n) : F_Written_nodeAt (nI j) σ = some (σ.2.1 43 j, σ) := by
  simp (disch := omega) only [F_Written_nodeAt, fx_bnd, fx_bndx, e_gI, e_pI, e_rz0, e_rz1, e_ret, e_pur, e_thr, e_if, e_el, w_has h hn hj, q_lt, q_le, q_eq, q_lt0, q_0lt, q_le0, q_0le, q_eq0, q_lt1, q_1lt, q_le1, q_1le, q_eq1, q_lt2, q_2lt, q_le2, q_2le, q_eq2, q_lt3, q_3lt, q_le3, q_3le, q_eq3, q_lt4, q_4lt, q_le4, q_4le, q_eq4, q_lt6, q_6lt, q_le6, q_6le, q_eq6, q_lt10, q_10lt, q_le10, q_10le, q_eq10, q_lt30, q_30lt, q_le30, q_30le, q_eq30, q_lt40, q_40lt, q_le40, q_40le, q_eq40, q_lt41, q_41lt, q_le41, q_41le, q_eq41, q_lt200, q_200lt, q_le200, q_200le, q_eq200, q_lt400, q_400lt, q_le400, q_400le, q_eq400, q_lt600, q_600lt, q_le600, q_600le, q_eq600, q_lt800, q_800lt, q_le800, q_800le, q_eq800, q_lt900, q_900lt, q_le900, q_900le, q_eq900, q_0eq, q_1eq, q_2eq, q_3eq, q_4eq, q_neg, q_m1, q_m1l, q_s1, nI_1, q_1a, nI_add, q_mul, q_m41, q_41m, q_dn, q_dm10, q_dm11, q_dm12, q_dm13, q_dm14, q_d0m1, q_d01, q_d02, q_d03, q_d04, q_d1m1, q_d10, q_d12, q_d13, q_d14, q_d2m1, q_d20, q_d21, q_d23, q_d24, q_d3m1, q_d30, q_d31, q_d32, q_d34, q_d4m1, q_d40, q_d41, q_d42, q_d43, if_true, if_false, eq_self, e_lA]
theorem w_num {σ : fx_S} {n j : Nat} (h : σ.1 646 = nI n) (hn : n ≤ 600) (hj : j < n) : F_Written_numberAt (nI j) σ = some (σ.2.2 44 j, σ) := by
  simp (disch := omega) only [F_Written_numberAt, fx_bnd, fx_bndx, e_gI, e_pI, e_rz0, e_rz1, e_ret, e_pur, e_thr, e_if, e_el, w_has h hn hj, q_lt, q_le, q_eq, q_lt0, q_0lt, q_le0, q_0le, q_eq0, q_lt1, q_1lt, q_le1, q_1le, q_eq1, q_lt2, q_2lt, q_le2, q_2le, q_eq2, q_lt3, q_3lt, q_le3, q_3le, q_eq3, q_lt4, q_4lt, q_le4, q_4le, q_eq4, q_lt6, q_6lt, q_le6, q_6le, q_eq6, q_lt10, q_10lt, q_le10, q_10le, q_eq10, q_lt30, q_30lt, q_le30, q_30le, q_eq30, q_lt40, q_40lt, q_le40, q_40le, q_eq40, q_lt41, q_41lt, q_le41, q_41le, q_eq41, q_lt200, q_200lt, q_le200, q_200le, q_eq200, q_lt400, q_400lt, q_le400, q_400le, q_eq400, q_lt600, q_600lt, q_le600, q_600le, q_eq600, q_lt800, q_800lt, q_le800, q_800le, q_eq800, q_lt900, q_900lt, q_le900, q_900le, q_eq900, q_0eq, q_1eq, q_2eq, q_3eq, q_4eq, q_neg, q_m1, q_m1l, q_s1, nI_1, q_1a, nI_add, q_mul, q_m41, q_41m, q_dn, q_dm10, q_dm11, q_dm12, q_dm13, q_dm14, q_d0m1, q_d01, q_d02, q_d03, q_d04, q_d1m1, q_d10, q_d12, q_d13, q_d14, q_d2m1, q_d20, q_d21, q_d23, q_d24, q_d3m1, q_d30, q_d31, q_d32, q_d34, q_d4m1, q_d40, q_d41, q_d42, q_d43, if_true, if_false, eq_self, e_lL]
theorem o_written {σ τ : fx_S} (h : Rel σ τ) (a b : Int32) : lw_op Rel [(0, 1), (2, 2)] (F_FixityTrees_written a b) (F_Md_written a b) (fun r b => r = b) σ τ := by
  obtain ⟨n, hn, hz, hz', hw, hk, -⟩ := id h.2.2.2.2
  have bad : F_Md_written a b τ = F_Md_written_J22 a b τ → F_Written_has a σ = some (0, σ) → lw_op Rel [(0, 1), (2, 2)] (F_FixityTrees_written a b) (F_Md_written a b) (fun r b => r = b) σ τ := by
    intro b1 b2
    refine op_thr0 h (b := 0) 0 1 (by simp) ?_ ?_
    · rw [F_FixityTrees_written, e_bnd b2, e_if (by decide)]; rfl
    · rw [b1, F_Md_written_J22, F_Md_written_J40, e_bnd (m_good (by decide) τ), e_if (by decide)]; rfl
  rcases hw with ⟨w0, rfl⟩ | ⟨w1, hn0⟩
  · refine bad ?_ (w_hasn hz hn ?_)
    · rw [F_Md_written, e_bnd (e_gI _ _), e_if w0]
    · by_cases q : a < 0
      · exact Or.inl q
      · obtain ⟨j, hj, rfl⟩ := q_nat q
        exact Or.inr ⟨j, by omega, hj, rfl⟩
  · rcases q_idx a n with ⟨j, hj, -, rfl⟩ | hbad
    · obtain ⟨k1, k2, k3, k4⟩ := hk j hj
      have eh := w_has hz hn hj
      have m9 : F_Md_written (nI j) b τ = (fx_bnd (F_Md_isIn b 0 2) fun x8 => if x8 = 0 then F_Md_written_J40 (nI j) b 2 else F_Md_written_J40 (nI j) b 0) τ := by
        rw [F_Md_written, e_bnd (e_gI _ _), w1, e_el (by decide), e_bnd (e_gI _ _), hz', e_bnd (m_inz hj (by omega) τ), e_el (by decide)]
      rcases q_idx b 3 with ⟨w, hw, -, rfl⟩ | hb
      · rw [e_bnd (m_in2 hw τ), e_el (by decide), F_Md_written_J40, e_bnd (m_good0 τ), e_el (by decide)] at m9
        rcases (show w = 0 ∨ w = 1 ∨ w = 2 by omega) with rfl | rfl | rfl
        · refine op_ret0 h (r := σ.2.1 41 j) (b := τ.2.1 23 j) ?_ ?_ k1.symm
          · rw [F_FixityTrees_written, e_bnd eh, e_el (by decide), e_if (by decide), e_bnd (w_kind hz hn hj)]; rfl
          · rw [m9, e_if (by decide), e_bnd (e_lA (by omega) (by omega))]; rfl
        · refine op_ret0 h (r := σ.2.1 42 j) (b := τ.2.1 24 j) ?_ ?_ k2.symm
          · rw [F_FixityTrees_written, e_bnd eh, e_el (by decide), e_el (by decide), e_if (by decide), e_bnd (w_opr hz hn hj)]; rfl
          · rw [m9, e_el (by decide), e_if (by decide), e_bnd (e_lA (by omega) (by omega))]; rfl
        · refine op_ret0 h (r := σ.2.1 43 j) (b := τ.2.1 25 j) ?_ ?_ k3.symm
          · rw [F_FixityTrees_written, e_bnd eh, e_el (by decide), e_el (by decide), e_el (by decide), e_if (by decide), e_bnd (w_node hz hn hj)]; rfl
          · rw [m9, e_el (by decide), e_el (by decide), e_bnd (e_lA (by omega) (by omega))]; rfl
      · refine op_thr0 h (b := 0) 2 2 (by simp) ?_ ?_
        · rw [F_FixityTrees_written, e_bnd eh, e_el (by decide), e_el (q_ns hb (k := 0) (c := 0) rfl (by omega) (by omega)), e_el (q_ns hb (k := 1) (c := 1) rfl (by omega) (by omega)), e_el (q_ns hb (k := 2) (c := 2) rfl (by omega) (by omega))]; rfl
        · rw [m9, e_bnd (m_inn2 hb τ), e_if (by decide), F_Md_written_J40, e_bnd (m_good (by decide) τ), e_if (by decide)]; rfl
    · refine bad ?_ (w_hasn hz hn hbad)
      rw [F_Md_written, e_bnd (e_gI _ _), w1, e_el (by decide), e_bnd (e_gI _ _), hz', e_bnd (m_innz (by omega) hbad τ), e_if (by decide)]
theorem o_told {σ τ : fx_S} (h : Rel σ τ) (a : Int32) : lw_op Rel [(2, 1)] (F_FixityTrees_told a) (F_Md_told a) (fun r b => r = b) σ τ := by
  obtain ⟨⟨s, HS⟩, ⟨n, hC, hR, hp⟩, HC, ⟨t, HT⟩, HW⟩ := id h
  rcases q_idx a 7 with ⟨w, hw, -, rfl⟩ | hb
  · have m0 : F_Md_told (nI w) τ = F_Md_told_J16 (nI w) 0 τ := by
      rw [F_Md_told, e_bnd (m_in6 hw τ), e_el (by decide)]
    rw [F_Md_told_J16, e_bnd (m_good0 τ), e_el (by decide)] at m0
    rcases (show w = 0 ∨ w = 1 ∨ w = 2 ∨ w = 3 ∨ w = 4 ∨ w = 5 ∨ w = 6 by omega) with rfl | rfl | rfl | rfl | rfl | rfl | rfl
    · exact op_ret0 h (r := σ.1 117) (b := τ.1 5) rfl (by rw [m0]; rfl) (by rw [hC.2.1, hR.1])
    · exact op_ret0 h (r := σ.1 118) (b := τ.1 10) rfl (by rw [m0]; rfl) (by rw [hC.2.2.1, hR.2.1])
    · rw [e_el (by decide), e_el (by decide), e_if (by decide)] at m0
      have hz9 : (va_up τ.1 0 0, τ.2.1, τ.2.2).1 5 = nI n := hR.1
      rcases m_due (τ := (va_up τ.1 0 0, τ.2.1, τ.2.2)) hz9 hC.1 (fun j hj => (hR.2.2.1 j hj).1) hC.2.2.2.2.1 with ⟨d1, d2⟩ | ⟨d1, d2⟩
      · rcases r_due hC.2.1 hC.1 hC.2.2.2.2.1 with ⟨c1, -⟩ | ⟨-, c2⟩
        · refine op_ret0 h (r := 1) (b := 1) ?_ ?_ rfl
          · rw [F_FixityTrees_told, e_el (by decide), e_el (by decide), e_if (by decide), e_bnd c1, e_el (by decide)]; rfl
          · rw [m0, e_bnd d1, e_el (by decide)]; rfl
        · exact absurd d2 c2
      · rcases r_due hC.2.1 hC.1 hC.2.2.2.2.1 with ⟨-, c2⟩ | ⟨c1, -⟩
        · exact absurd c2 d2
        · refine op_ret0 h (r := 0) (b := 0) ?_ ?_ rfl
          · rw [F_FixityTrees_told, e_el (by decide), e_el (by decide), e_if (by decide), e_bnd c1, e_if (by decide)]; rfl
          · rw [m0, e_bnd d1, e_if (by decide)]; rfl
    · exact op_ret0 h (r := σ.1 18) (b := τ.1 1) rfl (by rw [m0]; rfl) (by rw [HS.2.2.1, HS.2.2.2.1])
    · exact op_ret0 h (r := σ.1 422) (b := τ.1 12) rfl (by rw [m0]; rfl) (by rw [HT.2.1, HT.2.2.1])
    · exact op_ret0 h (r := σ.1 10) (b := τ.1 25) rfl (by rw [m0]; rfl) HC.2.2.2
    · refine op_ret0 h (r := σ.1 423) (b := if t = 0 then 0 else τ.1 21) rfl ?_ HT.2.2.2.1
      rw [m0, e_el (by decide), e_el (by decide), e_el (by decide), e_el (by decide), e_el (by decide), e_el (by decide), e_bnd (e_gI _ _)]
      have z12 : (va_up τ.1 0 0) 12 = nI t := HT.2.2.1
      show (if (va_up τ.1 0 0) 12 = 0 then _ else _ : fx_M Int32) _ = _
      rw [z12]
      have := HT.1
      by_cases q : t = 0
      · rw [e_if (by rw [q]; rfl), if_pos q]; rfl
      · rw [e_el (nI_ne0 (by omega) (by omega)), if_neg q]; rfl
  · refine op_thr0 h (b := 0) 2 1 (by simp) ?_ ?_
    · rw [F_FixityTrees_told, e_el (q_ns hb (k := 0) (c := 0) rfl (by omega) (by omega)), e_el (q_ns hb (k := 1) (c := 1) rfl (by omega) (by omega)), e_el (q_ns hb (k := 2) (c := 2) rfl (by omega) (by omega)), e_el (q_ns hb (k := 3) (c := 3) rfl (by omega) (by omega)), e_el (q_ns hb (k := 4) (c := 4) rfl (by omega) (by omega)), e_el (q_ns hb (k := 5) (c := 5) rfl (by omega) (by omega)), e_el (q_ns hb (k := 6) (c := 6) rfl (by omega) (by omega))]; rfl
    · rw [F_Md_told, e_bnd (m_inn6 hb τ), e_if (by decide), F_Md_told_J16, e_bnd (m_good (by decide) τ), e_if (by decide)]; rfl
