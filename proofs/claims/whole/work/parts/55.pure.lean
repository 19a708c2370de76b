/-! NUMBERING: one node, on the class's side -/
theorem SP_fit {K : Nat → Int32} {rk sd : Nat → Nat} {T : Nat → Nat → Int32} : ∀ {f a b p z h : Nat} {ts : List Nat} (g : Nat), b + 1 - a ≤ g → SP K rk sd T f a b p z h ts → SP K rk sd T g a b p z h ts
  | 0, _, _, _, _, _, _, _, _, H => H.elim
  | f + 1, a, b, p, z, h, ts, 0, hg, H => by have := SP_io H; omega
  | f + 1, a, b, p, z, h, ts, g + 1, hg, H => by
    have io := SP_io H
    unfold SP at H ⊢
    rcases H with H | ⟨h1, h2, h3, h4, H⟩ | ⟨h1, h2, h3, q, z1, h1', t, H, h4⟩ | ⟨h1, h2, h3, q1, z1, h1', t1, q2, z2, h2', t2, H1, H2, h4⟩
    · exact Or.inl H
    · refine Or.inr (Or.inl ⟨h1, h2, h3, h4, ?_⟩)
      rcases H with ⟨g1, g2, t, H⟩ | ⟨g1, g2, q, z1, h1', t, H, h4⟩ | ⟨g1, g2, g3, q, z1, h1', t, H, h4⟩
      · exact Or.inl ⟨g1, g2, t, SP_fit g (by omega) H⟩
      · exact Or.inr (Or.inl ⟨g1, g2, q, z1, h1', t, SP_fit g (by omega) H, h4⟩)
      · exact Or.inr (Or.inr ⟨g1, g2, g3, q, z1, h1', t, SP_fit g (by omega) H, h4⟩)
    · exact Or.inr (Or.inr (Or.inl ⟨h1, h2, h3, q, z1, h1', t, SP_fit g (by omega) H, h4⟩))
    · exact Or.inr (Or.inr (Or.inr ⟨h1, h2, h3, q1, z1, h1', t1, q2, z2, h2', t2, SP_fit g (by omega) H1, SP_fit g (by omega) H2, h4⟩))
theorem vu {g : Nat → Nat → Int32} {u : Nat → Int32} {b k a i : Nat} {v : Int32} (h : g b = u) (hi : i ≠ k) : va_up g b (upd u k v) a i = g a i := by
  by_cases e : a = b
  · subst e; rw [va_up_self, q_un _ _ hi, h]
  · rw [va_up_ne _ _ e]
theorem vuL {g : Nat → Nat → Int64} {u : Nat → Int64} {b k a i : Nat} {v : Int64} (h : g b = u) (hi : i ≠ k) : va_up g b (vp_updL u k v) a i = g a i := by
  by_cases e : a = b
  · subst e; rw [va_up_self, q_unL _ _ hi, h]
  · rw [va_up_ne _ _ e]
theorem c_num {K O : Nat → Int32} {n : Nat} {pt : Int32} {rk sd : Nat → Nat} {σ : fx_S} (X : cxC K O n pt rk sd σ) {j : Nat} (hj : j < n) : F_Row_numberAt (nI j) σ = some (σ.2.2 11 j, σ) := by
  have hn := X.1
  rw [F_Row_numberAt, e_bnd (c_has X hj), e_el (by decide), e_bnd (e_lL (by omega) (by omega))]; rfl
theorem n_first {σ : fx_S} {p : Nat} (hp : p < 200) : F_Resolver_firstOf (nI p) σ = some (σ.2.1 22 p, σ) := by
  rw [F_Resolver_firstOf, e_bnd (c_place hp σ), e_el (by decide), e_bnd (e_lA hp (by omega))]; rfl
theorem n_second {σ : fx_S} {p : Nat} (hp : p < 200) : F_Resolver_secondOf (nI p) σ = some (σ.2.1 23 p, σ) := by
  rw [F_Resolver_secondOf, e_bnd (c_place hp σ), e_el (by decide), e_bnd (e_lA hp (by omega))]; rfl
/-- one node of numberInto -/
def STC (bk rg : Nat) (CB : (Int32 → fx_M Unit) → Int32 → fx_M Unit) : Prop :=
  ∀ (K O : Nat → Int32) (n : Nat) (pt : Int32) (rk sd : Nat → Nat) (V : Nat → Int64) (σ : fx_S) (k p z1 : Nat) (U ch : List Nat) (k38 : Int32 → fx_M Unit) (x y : Int32),
    cxC K O n pt rk sd σ → σ.2.2 11 = V → σ.1 rg = nI k → k < 200 → SK (σ.1 321) (σ.2.1 21) (p :: U) → U.length < 200 → U.length + ch.length ≤ 200 → p < n → σ.2.1 22 p = x → σ.2.1 23 p = y →
    ((ch = [] ∧ x = -1 ∧ y = -1) ∨ (∃ q, ch = [q] ∧ q < 200 ∧ x = nI q ∧ y = -1) ∨ (∃ q1 q2, ch = [q1, q2] ∧ q1 < 200 ∧ q2 < 200 ∧ x = nI q1 ∧ y = nI q2 ∧ σ.2.1 24 q1 = nI z1)) →
    ∃ σ', CB k38 (nI k) σ = k38 (nI (k + 1)) σ' ∧ σ'.1 rg = nI (k + 1) ∧ SK (σ'.1 321) (σ'.2.1 21) (ch ++ U) ∧
      (σ'.2.1 bk k = nkA K n p ∧ σ'.2.1 (bk + 1) k = O p ∧ σ'.2.1 (bk + 2) k = (if x = -1 then -1 else nI (k + 1)) ∧ σ'.2.1 (bk + 3) k = (if y = -1 then -1 else nI (k + 1 + z1)) ∧ σ'.2.1 (bk + 4) k = nI p ∧ σ'.2.2 (bk + 5) k = V p) ∧
      (∀ a i, i ≠ k → a ≠ 21 → σ'.2.1 a i = σ.2.1 a i) ∧ (∀ a, a ≠ 21 → a < bk ∨ bk + 4 < a → σ'.2.1 a = σ.2.1 a) ∧ (∀ a i, i ≠ k → σ'.2.2 a i = σ.2.2 a i) ∧ (∀ a, a ≠ bk + 5 → σ'.2.2 a = σ.2.2 a) ∧ (∀ r, r ≠ 321 → r ≠ rg → σ'.1 r = σ.1 r)
theorem n_add0 {σ : fx_S} {k : Nat} (hz : σ.1 422 = nI k) (hk : k < 200) (a b c : Int32) (v : Int64) : F_Tree0_add a b v c σ = some ((), (va_up σ.1 422 (nI (k + 1)), va_up (va_up (va_up (va_up (va_up σ.2.1 27 (upd (σ.2.1 27) k a)) 28 (upd (σ.2.1 28) k b)) 31 (upd (σ.2.1 31) k c)) 29 (upd (σ.2.1 29) k (-1))) 30 (upd (σ.2.1 30) k (-1)), va_up σ.2.2 32 (vp_updL (σ.2.2 32) k v))) := by
  rw [F_Tree0_add, e_bnd (e_gI _ _), hz, e_el (by rw [q_200le (by omega)]; omega), e_bnd (e_gI _ _), hz, e_bnd (e_sA hk (by omega)), e_bnd (e_gI _ _)]
  refine (?_ : fx_bnd (s_Tree0_operators (σ.1 422) b) _ _ = _)
  rw [hz, e_bnd (e_sA hk (by omega)), e_bnd (e_gI _ _)]
  refine (?_ : fx_bnd (s_Tree0_numbers (σ.1 422) v) _ _ = _)
  rw [hz, e_bnd (e_sL hk (by omega)), e_bnd (e_gI _ _)]
  refine (?_ : fx_bnd (s_Tree0_places (σ.1 422) c) _ _ = _)
  rw [hz, e_bnd (e_sA hk (by omega)), e_bnd (e_gI _ _)]
  refine (?_ : fx_bnd (s_Tree0_firsts (σ.1 422) (-1)) _ _ = _)
  rw [hz, e_bnd (e_sA hk (by omega)), e_bnd (e_gI _ _)]
  refine (?_ : fx_bnd (s_Tree0_seconds (σ.1 422) (-1)) _ _ = _)
  rw [hz, e_bnd (e_sA hk (by omega)), e_bnd (e_gI _ _)]
  refine (?_ : fx_bnd (fx_pI 422 (σ.1 422 + 1)) _ _ = _)
  rw [hz, nI_1]
  rfl
theorem n_join0 {σ : fx_S} {k m : Nat} (hz : σ.1 422 = nI m) (hk : k < m) (hm : m ≤ 200) (a b : Int32) : F_Tree0_join (nI k) a b σ = some ((), (σ.1, va_up (va_up σ.2.1 29 (upd (σ.2.1 29) k a)) 30 (upd (σ.2.1 30) k b), σ.2.2)) := by
  have h : F_Tree0_has (nI k) σ = some (1, σ) := by
    rw [F_Tree0_has, e_el (q_neg (by omega)), e_bnd (e_gI _ _), hz, e_el (by rw [q_le (by omega) (by omega)]; omega), e_el (by rw [q_200le (by omega)]; omega)]; rfl
  rw [F_Tree0_join, e_bnd h, e_el (by decide), e_bnd (e_sA (by omega) (by omega)), e_bnd (e_sA (by omega) (by omega))]; rfl
theorem n_step0 : STC 27 422 F_Resolver_numberInto_Tree0_B38 := by
  intro K O n pt rk sd V σ k p z1 U ch k38 x y X hV hrg hk hS hUl hU hp hx hy hch
  have hn := X.1
  let σ1 : fx_S := (va_up σ.1 321 (nI U.length), σ.2.1, σ.2.2)
  have X1 : cxC K O n pt rk sd σ1 := cxC_fr X ⟨fun r hr => va_up_ne _ _ (by omega), fun _ _ => rfl, rfl⟩
  have hrg1 : σ1.1 422 = nI k := hrg
  let σ2 : fx_S := (va_up σ1.1 422 (nI (k + 1)), va_up (va_up (va_up (va_up (va_up σ1.2.1 27 (upd (σ1.2.1 27) k (nkA K n p))) 28 (upd (σ1.2.1 28) k (O p))) 31 (upd (σ1.2.1 31) k (nI p))) 29 (upd (σ1.2.1 29) k (-1))) 30 (upd (σ1.2.1 30) k (-1)), va_up σ1.2.2 32 (vp_updL (σ1.2.2 32) k (V p)))
  obtain ⟨fv, hfv⟩ : ∃ fv : Int32, fv = if x = -1 then -1 else nI (k + 1) := ⟨_, rfl⟩
  obtain ⟨sv, hsv⟩ : ∃ sv : Int32, sv = if y = -1 then -1 else nI (k + 1 + z1) := ⟨_, rfl⟩
  let σ3 : fx_S := (σ2.1, va_up (va_up σ2.2.1 29 (upd (σ2.2.1 29) k fv)) 30 (upd (σ2.2.1 30) k sv), σ2.2.2)
  have head : F_Resolver_numberInto_Tree0_B38 k38 (nI k) σ = F_Resolver_numberInto_Tree0_J148 k38 (nI k) x y sv fv (nI k) σ2 := by
    have ez : F_IntStack3_size σ = some (nI (U.length + 1), σ) := by
      rw [F_IntStack3_size, e_bnd (e_gI _ _), hS.1, List.length_cons]; rfl
    have ea : F_Tree0_add (nkA K n p) (O p) (V p) (nI p) σ1 = some ((), σ2) := n_add0 hrg1 hk _ _ _ _
    have ex : F_Resolver_firstOf (nI p) σ1 = some (x, σ1) := by
      rw [n_first (by omega)]
      show some (σ.2.1 22 p, σ1) = _
      rw [hx]
    have ey : F_Resolver_secondOf (nI p) σ1 = some (y, σ1) := by
      rw [n_second (by omega)]
      show some (σ.2.1 23 p, σ1) = _
      rw [hy]
    have en : F_Row_numberAt (nI p) σ1 = some (V p, σ1) := by
      rw [c_num X1 hp]
      show some (σ.2.2 11 p, σ1) = _
      rw [hV]
    have e1 : F_Resolver_numberInto_Tree0_B38 k38 (nI k) σ = (if x = (-1) then F_Resolver_numberInto_Tree0_J128 k38 (nI k) x y (-1) (nI k) else F_Resolver_numberInto_Tree0_J128 k38 (nI k) x y (nI k + 1) (nI k)) σ2 := by
      rw [F_Resolver_numberInto_Tree0_B38, e_el (by rw [q_200le (by omega)]; omega), e_bnd ez, e_el (by rw [q_le0 (by omega)]; omega), e_bnd (k_pop3 hS hUl)]
      refine (e_bnd ex).trans ?_
      refine (e_bnd ey).trans ?_
      refine (e_bnd (c_nk X1 hp)).trans ?_
      refine (e_bnd (c_op X1 hp)).trans ?_
      refine (e_bnd en).trans ?_
      exact (e_bnd ea)
    rw [e1]
    rcases hch with ⟨-, rfl, rfl⟩ | ⟨q, -, hq, rfl, rfl⟩ | ⟨q1, q2, -, hq1, hq2, rfl, rfl, hz⟩
    · rw [if_pos rfl] at hfv hsv
      rw [e_if rfl, F_Resolver_numberInto_Tree0_J128, e_if rfl, hfv, hsv]
    · rw [if_neg (q_m1 (by omega))] at hfv
      rw [if_pos rfl] at hsv
      rw [e_el (q_m1 (by omega)), F_Resolver_numberInto_Tree0_J128, e_if rfl, hfv, hsv, nI_1]
    · rw [if_neg (q_m1 (by omega))] at hfv hsv
      have es : F_Resolver_sizeOf (nI q1) σ2 = some (nI z1, σ2) := by
        rw [c_size hq1]
        show some (σ.2.1 24 q1, σ2) = _
        rw [hz]
      rw [e_el (q_m1 (by omega)), F_Resolver_numberInto_Tree0_J128, e_el (q_m1 (by omega)), e_bnd es, hfv, hsv, nI_1, nI_add]
  have ej : F_Tree0_join (nI k) fv sv σ2 = some ((), σ3) := n_join0 (m := k + 1) rfl (by omega) (by omega) _ _
  have S3 : SK (σ3.1 321) (σ3.2.1 21) U := (SK_pop hS).1
  -- the end, whatever is pushed
  have fin : ∀ σ' : fx_S, (∀ r, r ≠ 321 → σ'.1 r = σ3.1 r) → (∀ a, a ≠ 21 → σ'.2.1 a = σ3.2.1 a) → σ'.2.2 = σ3.2.2 → SK (σ'.1 321) (σ'.2.1 21) (ch ++ U) → F_Resolver_numberInto_Tree0_B38 k38 (nI k) σ = k38 (nI (k + 1)) σ' →
      ∃ σ', F_Resolver_numberInto_Tree0_B38 k38 (nI k) σ = k38 (nI (k + 1)) σ' ∧ σ'.1 422 = nI (k + 1) ∧ SK (σ'.1 321) (σ'.2.1 21) (ch ++ U) ∧
      (σ'.2.1 27 k = nkA K n p ∧ σ'.2.1 (27 + 1) k = O p ∧ σ'.2.1 (27 + 2) k = (if x = -1 then -1 else nI (k + 1)) ∧ σ'.2.1 (27 + 3) k = (if y = -1 then -1 else nI (k + 1 + z1)) ∧ σ'.2.1 (27 + 4) k = nI p ∧ σ'.2.2 (27 + 5) k = V p) ∧
      (∀ a i, i ≠ k → a ≠ 21 → σ'.2.1 a i = σ.2.1 a i) ∧ (∀ a, a ≠ 21 → a < 27 ∨ 27 + 4 < a → σ'.2.1 a = σ.2.1 a) ∧ (∀ a i, i ≠ k → σ'.2.2 a i = σ.2.2 a i) ∧ (∀ a, a ≠ 27 + 5 → σ'.2.2 a = σ.2.2 a) ∧ (∀ r, r ≠ 321 → r ≠ 422 → σ'.1 r = σ.1 r) := by
    intro σ' f1 f2 f3 f4 f5
    refine ⟨σ', f5, by rw [f1 422 (by omega)]; rfl, f4, ⟨?_, ?_, ?_, ?_, ?_, ?_⟩, fun a i hi ha => ?_, fun a ha hb => ?_, fun a i hi => ?_, fun a ha => ?_, fun r h1 h2 => ?_⟩
    · rw [f2 27 (by omega)]; exact q_us _ _ _
    · rw [f2 (27 + 1) (by omega)]; exact q_us _ _ _
    · rw [f2 (27 + 2) (by omega), ← hfv]; exact q_us _ _ _
    · rw [f2 (27 + 3) (by omega), ← hsv]; exact q_us _ _ _
    · rw [f2 (27 + 4) (by omega)]; exact q_us _ _ _
    · rw [f3]; exact q_usL _ _ _
    · rw [f2 a ha]
      refine (vu rfl hi).trans ?_
      refine (vu rfl hi).trans ?_
      refine (vu rfl hi).trans ?_
      refine (vu rfl hi).trans ?_
      refine (vu rfl hi).trans ?_
      refine (vu rfl hi).trans ?_
      exact vu rfl hi
    · rw [f2 a ha]
      show va_up (va_up (va_up (va_up (va_up (va_up (va_up σ.2.1 27 _) 28 _) 31 _) 29 _) 30 _) 29 _) 30 _ a = _
      rw [va_up_ne _ _ (by omega), va_up_ne _ _ (by omega), va_up_ne _ _ (by omega), va_up_ne _ _ (by omega), va_up_ne _ _ (by omega), va_up_ne _ _ (by omega), va_up_ne _ _ (by omega)]
    · rw [f3]; exact vuL rfl hi
    · rw [f3]; exact va_up_ne _ _ ha
    · rw [f1 r h1]
      show va_up (va_up σ.1 321 _) 422 _ r = _
      rw [va_up_ne _ _ h2, va_up_ne _ _ h1]
  have J : F_Resolver_numberInto_Tree0_B38 k38 (nI k) σ = (if y = (-1) then F_Resolver_numberInto_Tree0_J166 k38 (nI k) x else (fx_bnd (F_IntStack3_push y) fun _ => F_Resolver_numberInto_Tree0_J166 k38 (nI k) x)) σ3 := by
    rw [head, F_Resolver_numberInto_Tree0_J148, e_bnd ej]
  rcases hch with ⟨rfl, rfl, rfl⟩ | ⟨q, rfl, hq, rfl, rfl⟩ | ⟨q1, q2, rfl, hq1, hq2, rfl, rfl, hz⟩
  · refine fin σ3 (fun _ _ => rfl) (fun _ _ => rfl) rfl S3 ?_
    rw [J, e_if rfl, F_Resolver_numberInto_Tree0_J166, e_if rfl, F_Resolver_numberInto_Tree0_J181, e_bnd (e_pur _ _), nI_1]
  · refine fin (va_up σ3.1 321 (nI (U.length + 1)), va_up σ3.2.1 21 (upd (σ3.2.1 21) U.length (nI q)), σ3.2.2) (fun r hr => va_up_ne _ _ hr) (fun a ha => va_up_ne _ _ ha) rfl (SK_push S3 q) ?_
    rw [J, e_if rfl, F_Resolver_numberInto_Tree0_J166, e_el (q_m1 (by omega)), e_bnd (k_push3 S3 hUl q), F_Resolver_numberInto_Tree0_J181, e_bnd (e_pur _ _), nI_1]
  · let σ4 : fx_S := (va_up σ3.1 321 (nI (U.length + 1)), va_up σ3.2.1 21 (upd (σ3.2.1 21) U.length (nI q2)), σ3.2.2)
    have S4 : SK (σ4.1 321) (σ4.2.1 21) (q2 :: U) := SK_push S3 q2
    have hl : (q2 :: U).length < 200 := by
      simp only [List.length_cons, List.length_nil] at hU ⊢; omega
    refine fin (va_up σ4.1 321 (nI ((q2 :: U).length + 1)), va_up σ4.2.1 21 (upd (σ4.2.1 21) (q2 :: U).length (nI q1)), σ4.2.2) (fun r hr => ?_) (fun a ha => ?_) rfl (SK_push S4 q1) ?_
    · show va_up (va_up σ3.1 321 _) 321 _ r = _
      rw [va_up_ne _ _ hr, va_up_ne _ _ hr]
    · show va_up (va_up σ3.2.1 21 _) 21 _ a = _
      rw [va_up_ne _ _ ha, va_up_ne _ _ ha]
    · rw [J, e_el (q_m1 (by omega)), e_bnd (k_push3 S3 hUl q2), F_Resolver_numberInto_Tree0_J166, e_el (q_m1 (by omega))]
      refine (e_bnd (k_push3 S4 hl q1)).trans ?_
      rw [F_Resolver_numberInto_Tree0_J181, e_bnd (e_pur _ _), nI_1]
theorem n_add1 {σ : fx_S} {k : Nat} (hz : σ.1 534 = nI k) (hk : k < 200) (a b c : Int32) (v : Int64) : F_Tree1_add a b v c σ = some ((), (va_up σ.1 534 (nI (k + 1)), va_up (va_up (va_up (va_up (va_up σ.2.1 34 (upd (σ.2.1 34) k a)) 35 (upd (σ.2.1 35) k b)) 38 (upd (σ.2.1 38) k c)) 36 (upd (σ.2.1 36) k (-1))) 37 (upd (σ.2.1 37) k (-1)), va_up σ.2.2 39 (vp_updL (σ.2.2 39) k v))) := by
  rw [F_Tree1_add, e_bnd (e_gI _ _), hz, e_el (by rw [q_200le (by omega)]; omega), e_bnd (e_gI _ _), hz, e_bnd (e_sA hk (by omega)), e_bnd (e_gI _ _)]
  refine (?_ : fx_bnd (s_Tree1_operators (σ.1 534) b) _ _ = _)
  rw [hz, e_bnd (e_sA hk (by omega)), e_bnd (e_gI _ _)]
  refine (?_ : fx_bnd (s_Tree1_numbers (σ.1 534) v) _ _ = _)
  rw [hz, e_bnd (e_sL hk (by omega)), e_bnd (e_gI _ _)]
  refine (?_ : fx_bnd (s_Tree1_places (σ.1 534) c) _ _ = _)
  rw [hz, e_bnd (e_sA hk (by omega)), e_bnd (e_gI _ _)]
  refine (?_ : fx_bnd (s_Tree1_firsts (σ.1 534) (-1)) _ _ = _)
  rw [hz, e_bnd (e_sA hk (by omega)), e_bnd (e_gI _ _)]
  refine (?_ : fx_bnd (s_Tree1_seconds (σ.1 534) (-1)) _ _ = _)
  rw [hz, e_bnd (e_sA hk (by omega)), e_bnd (e_gI _ _)]
  refine (?_ : fx_bnd (fx_pI 534 (σ.1 534 + 1)) _ _ = _)
  rw [hz, nI_1]
  rfl
theorem n_join1 {σ : fx_S} {k m : Nat} (hz : σ.1 534 = nI m) (hk : k < m) (hm : m ≤ 200) (a b : Int32) : F_Tree1_join (nI k) a b σ = some ((), (σ.1, va_up (va_up σ.2.1 36 (upd (σ.2.1 36) k a)) 37 (upd (σ.2.1 37) k b), σ.2.2)) := by
  have h : F_Tree1_has (nI k) σ = some (1, σ) := by
    rw [F_Tree1_has, e_el (q_neg (by omega)), e_bnd (e_gI _ _), hz, e_el (by rw [q_le (by omega) (by omega)]; omega), e_el (by rw [q_200le (by omega)]; omega)]; rfl
  rw [F_Tree1_join, e_bnd h, e_el (by decide), e_bnd (e_sA (by omega) (by omega)), e_bnd (e_sA (by omega) (by omega))]; rfl
theorem n_step1 : STC 34 534 F_Resolver_numberInto_Tree1_B38 := by
  intro K O n pt rk sd V σ k p z1 U ch k38 x y X hV hrg hk hS hUl hU hp hx hy hch
  have hn := X.1
  let σ1 : fx_S := (va_up σ.1 321 (nI U.length), σ.2.1, σ.2.2)
  have X1 : cxC K O n pt rk sd σ1 := cxC_fr X ⟨fun r hr => va_up_ne _ _ (by omega), fun _ _ => rfl, rfl⟩
  have hrg1 : σ1.1 534 = nI k := hrg
  let σ2 : fx_S := (va_up σ1.1 534 (nI (k + 1)), va_up (va_up (va_up (va_up (va_up σ1.2.1 34 (upd (σ1.2.1 34) k (nkA K n p))) 35 (upd (σ1.2.1 35) k (O p))) 38 (upd (σ1.2.1 38) k (nI p))) 36 (upd (σ1.2.1 36) k (-1))) 37 (upd (σ1.2.1 37) k (-1)), va_up σ1.2.2 39 (vp_updL (σ1.2.2 39) k (V p)))
  obtain ⟨fv, hfv⟩ : ∃ fv : Int32, fv = if x = -1 then -1 else nI (k + 1) := ⟨_, rfl⟩
  obtain ⟨sv, hsv⟩ : ∃ sv : Int32, sv = if y = -1 then -1 else nI (k + 1 + z1) := ⟨_, rfl⟩
  let σ3 : fx_S := (σ2.1, va_up (va_up σ2.2.1 36 (upd (σ2.2.1 36) k fv)) 37 (upd (σ2.2.1 37) k sv), σ2.2.2)
  have head : F_Resolver_numberInto_Tree1_B38 k38 (nI k) σ = F_Resolver_numberInto_Tree1_J148 k38 (nI k) x y sv fv (nI k) σ2 := by
    have ez : F_IntStack3_size σ = some (nI (U.length + 1), σ) := by
      rw [F_IntStack3_size, e_bnd (e_gI _ _), hS.1, List.length_cons]; rfl
    have ea : F_Tree1_add (nkA K n p) (O p) (V p) (nI p) σ1 = some ((), σ2) := n_add1 hrg1 hk _ _ _ _
    have ex : F_Resolver_firstOf (nI p) σ1 = some (x, σ1) := by
      rw [n_first (by omega)]
      show some (σ.2.1 22 p, σ1) = _
      rw [hx]
    have ey : F_Resolver_secondOf (nI p) σ1 = some (y, σ1) := by
      rw [n_second (by omega)]
      show some (σ.2.1 23 p, σ1) = _
      rw [hy]
    have en : F_Row_numberAt (nI p) σ1 = some (V p, σ1) := by
      rw [c_num X1 hp]
      show some (σ.2.2 11 p, σ1) = _
      rw [hV]
    have e1 : F_Resolver_numberInto_Tree1_B38 k38 (nI k) σ = (if x = (-1) then F_Resolver_numberInto_Tree1_J128 k38 (nI k) x y (-1) (nI k) else F_Resolver_numberInto_Tree1_J128 k38 (nI k) x y (nI k + 1) (nI k)) σ2 := by
      rw [F_Resolver_numberInto_Tree1_B38, e_el (by rw [q_200le (by omega)]; omega), e_bnd ez, e_el (by rw [q_le0 (by omega)]; omega), e_bnd (k_pop3 hS hUl)]
      refine (e_bnd ex).trans ?_
      refine (e_bnd ey).trans ?_
      refine (e_bnd (c_nk X1 hp)).trans ?_
      refine (e_bnd (c_op X1 hp)).trans ?_
      refine (e_bnd en).trans ?_
      exact (e_bnd ea)
    rw [e1]
    rcases hch with ⟨-, rfl, rfl⟩ | ⟨q, -, hq, rfl, rfl⟩ | ⟨q1, q2, -, hq1, hq2, rfl, rfl, hz⟩
    · rw [if_pos rfl] at hfv hsv
      rw [e_if rfl, F_Resolver_numberInto_Tree1_J128, e_if rfl, hfv, hsv]
    · rw [if_neg (q_m1 (by omega))] at hfv
      rw [if_pos rfl] at hsv
      rw [e_el (q_m1 (by omega)), F_Resolver_numberInto_Tree1_J128, e_if rfl, hfv, hsv, nI_1]
    · rw [if_neg (q_m1 (by omega))] at hfv hsv
      have es : F_Resolver_sizeOf (nI q1) σ2 = some (nI z1, σ2) := by
        rw [c_size hq1]
        show some (σ.2.1 24 q1, σ2) = _
        rw [hz]
      rw [e_el (q_m1 (by omega)), F_Resolver_numberInto_Tree1_J128, e_el (q_m1 (by omega)), e_bnd es, hfv, hsv, nI_1, nI_add]
  have ej : F_Tree1_join (nI k) fv sv σ2 = some ((), σ3) := n_join1 (m := k + 1) rfl (by omega) (by omega) _ _
  have S3 : SK (σ3.1 321) (σ3.2.1 21) U := (SK_pop hS).1
  -- the end, whatever is pushed
  have fin : ∀ σ' : fx_S, (∀ r, r ≠ 321 → σ'.1 r = σ3.1 r) → (∀ a, a ≠ 21 → σ'.2.1 a = σ3.2.1 a) → σ'.2.2 = σ3.2.2 → SK (σ'.1 321) (σ'.2.1 21) (ch ++ U) → F_Resolver_numberInto_Tree1_B38 k38 (nI k) σ = k38 (nI (k + 1)) σ' →
      ∃ σ', F_Resolver_numberInto_Tree1_B38 k38 (nI k) σ = k38 (nI (k + 1)) σ' ∧ σ'.1 534 = nI (k + 1) ∧ SK (σ'.1 321) (σ'.2.1 21) (ch ++ U) ∧
      (σ'.2.1 34 k = nkA K n p ∧ σ'.2.1 (34 + 1) k = O p ∧ σ'.2.1 (34 + 2) k = (if x = -1 then -1 else nI (k + 1)) ∧ σ'.2.1 (34 + 3) k = (if y = -1 then -1 else nI (k + 1 + z1)) ∧ σ'.2.1 (34 + 4) k = nI p ∧ σ'.2.2 (34 + 5) k = V p) ∧
      (∀ a i, i ≠ k → a ≠ 21 → σ'.2.1 a i = σ.2.1 a i) ∧ (∀ a, a ≠ 21 → a < 34 ∨ 34 + 4 < a → σ'.2.1 a = σ.2.1 a) ∧ (∀ a i, i ≠ k → σ'.2.2 a i = σ.2.2 a i) ∧ (∀ a, a ≠ 34 + 5 → σ'.2.2 a = σ.2.2 a) ∧ (∀ r, r ≠ 321 → r ≠ 534 → σ'.1 r = σ.1 r) := by
    intro σ' f1 f2 f3 f4 f5
    refine ⟨σ', f5, by rw [f1 534 (by omega)]; rfl, f4, ⟨?_, ?_, ?_, ?_, ?_, ?_⟩, fun a i hi ha => ?_, fun a ha hb => ?_, fun a i hi => ?_, fun a ha => ?_, fun r h1 h2 => ?_⟩
    · rw [f2 34 (by omega)]; exact q_us _ _ _
    · rw [f2 (34 + 1) (by omega)]; exact q_us _ _ _
    · rw [f2 (34 + 2) (by omega), ← hfv]; exact q_us _ _ _
    · rw [f2 (34 + 3) (by omega), ← hsv]; exact q_us _ _ _
    · rw [f2 (34 + 4) (by omega)]; exact q_us _ _ _
    · rw [f3]; exact q_usL _ _ _
    · rw [f2 a ha]
      refine (vu rfl hi).trans ?_
      refine (vu rfl hi).trans ?_
      refine (vu rfl hi).trans ?_
      refine (vu rfl hi).trans ?_
      refine (vu rfl hi).trans ?_
      refine (vu rfl hi).trans ?_
      exact vu rfl hi
    · rw [f2 a ha]
      show va_up (va_up (va_up (va_up (va_up (va_up (va_up σ.2.1 34 _) 35 _) 38 _) 36 _) 37 _) 36 _) 37 _ a = _
      rw [va_up_ne _ _ (by omega), va_up_ne _ _ (by omega), va_up_ne _ _ (by omega), va_up_ne _ _ (by omega), va_up_ne _ _ (by omega), va_up_ne _ _ (by omega), va_up_ne _ _ (by omega)]
    · rw [f3]; exact vuL rfl hi
    · rw [f3]; exact va_up_ne _ _ ha
    · rw [f1 r h1]
      show va_up (va_up σ.1 321 _) 534 _ r = _
      rw [va_up_ne _ _ h2, va_up_ne _ _ h1]
  have J : F_Resolver_numberInto_Tree1_B38 k38 (nI k) σ = (if y = (-1) then F_Resolver_numberInto_Tree1_J166 k38 (nI k) x else (fx_bnd (F_IntStack3_push y) fun _ => F_Resolver_numberInto_Tree1_J166 k38 (nI k) x)) σ3 := by
    rw [head, F_Resolver_numberInto_Tree1_J148, e_bnd ej]
  rcases hch with ⟨rfl, rfl, rfl⟩ | ⟨q, rfl, hq, rfl, rfl⟩ | ⟨q1, q2, rfl, hq1, hq2, rfl, rfl, hz⟩
  · refine fin σ3 (fun _ _ => rfl) (fun _ _ => rfl) rfl S3 ?_
    rw [J, e_if rfl, F_Resolver_numberInto_Tree1_J166, e_if rfl, F_Resolver_numberInto_Tree1_J181, e_bnd (e_pur _ _), nI_1]
  · refine fin (va_up σ3.1 321 (nI (U.length + 1)), va_up σ3.2.1 21 (upd (σ3.2.1 21) U.length (nI q)), σ3.2.2) (fun r hr => va_up_ne _ _ hr) (fun a ha => va_up_ne _ _ ha) rfl (SK_push S3 q) ?_
    rw [J, e_if rfl, F_Resolver_numberInto_Tree1_J166, e_el (q_m1 (by omega)), e_bnd (k_push3 S3 hUl q), F_Resolver_numberInto_Tree1_J181, e_bnd (e_pur _ _), nI_1]
  · let σ4 : fx_S := (va_up σ3.1 321 (nI (U.length + 1)), va_up σ3.2.1 21 (upd (σ3.2.1 21) U.length (nI q2)), σ3.2.2)
    have S4 : SK (σ4.1 321) (σ4.2.1 21) (q2 :: U) := SK_push S3 q2
    have hl : (q2 :: U).length < 200 := by
      simp only [List.length_cons, List.length_nil] at hU ⊢; omega
    refine fin (va_up σ4.1 321 (nI ((q2 :: U).length + 1)), va_up σ4.2.1 21 (upd (σ4.2.1 21) (q2 :: U).length (nI q1)), σ4.2.2) (fun r hr => ?_) (fun a ha => ?_) rfl (SK_push S4 q1) ?_
    · show va_up (va_up σ3.1 321 _) 321 _ r = _
      rw [va_up_ne _ _ hr, va_up_ne _ _ hr]
    · show va_up (va_up σ3.2.1 21 _) 21 _ a = _
      rw [va_up_ne _ _ ha, va_up_ne _ _ ha]
    · rw [J, e_el (q_m1 (by omega)), e_bnd (k_push3 S3 hUl q2), F_Resolver_numberInto_Tree1_J166, e_el (q_m1 (by omega))]
      refine (e_bnd (k_push3 S4 hl q1)).trans ?_
      rw [F_Resolver_numberInto_Tree1_J181, e_bnd (e_pur _ _), nI_1]
/-! NUMBERING, IN STEP -/
abbrev pE : Type := Nat × Nat × Nat × Int32 × Int32 × Nat × Nat × Nat
def eP (e : pE) : Nat := e.1
def eA (e : pE) : Nat := e.2.1
def eB (e : pE) : Nat := e.2.2.1
def eR (e : pE) : Int32 := e.2.2.2.1
def eS (e : pE) : Int32 := e.2.2.2.2.1
def eZ (e : pE) : Nat := e.2.2.2.2.2.1
def eH (e : pE) : Nat := e.2.2.2.2.2.2.1
def eD (e : pE) : Nat := e.2.2.2.2.2.2.2
def szL : List pE → Nat
  | [] => 0
  | e :: L => eZ e + szL L
def mxL : List pE → Nat
  | [] => 0
  | e :: L => max (eD e - 1 + eH e) (mxL L)
def mxN (dp : Nat → Nat) : Nat → Nat
  | 0 => 0
  | k + 1 => max (mxN dp k) (dp k)
def updN (f : Nat → Nat) (k v : Nat) : Nat → Nat := fun i => if i = k then v else f i
theorem updN_s (f : Nat → Nat) (k v : Nat) : updN f k v k = v := by simp [updN]
theorem updN_n (f : Nat → Nat) {k i : Nat} (v : Nat) (h : i ≠ k) : updN f k v i = f i := by simp [updN, h]
theorem mxN_cg {dp dp' : Nat → Nat} : ∀ {k : Nat}, (∀ i, i < k → dp' i = dp i) → mxN dp' k = mxN dp k
  | 0, _ => rfl
  | k + 1, h => by
    have ih := mxN_cg (dp := dp) (dp' := dp') (k := k) (fun i hi => h i (by omega))
    simp only [mxN, ih, h k (by omega)]
theorem mxN_le {dp : Nat → Nat} : ∀ {k i : Nat}, i < k → dp i ≤ mxN dp k
  | 0, i, h => by omega
  | k + 1, i, h => by
    simp only [mxN]
    by_cases e : i = k
    · subst e; omega
    · have := mxN_le (dp := dp) (show i < k by omega); omega
/-- what is due, with the number it will get -/
def pdAt : List pE → Nat → Nat → pE → Prop
  | [], _, _, _ => False
  | e0 :: L, k, x, e => (x = k ∧ e = e0) ∨ pdAt L (k + eZ e0) x e
/-- the reference's pile of parts -/
def PA (τ : fx_S) (L : List pE) : Prop := τ.1 38 = nI L.length ∧ ∀ i e, L.reverse[i]? = some e → τ.2.1 19 i = nI (eA e) ∧ τ.2.1 20 i = nI (eB e) ∧ τ.2.1 21 i = eR e ∧ τ.2.1 22 i = eS e
theorem rev_hdG {α : Type} {s : List α} {b b' : α} {e : Nat} (h : (b :: s).reverse[e]? = some b') : (e = s.length ∧ b' = b) ∨ (e < s.length ∧ s.reverse[e]? = some b') := by
  rw [List.reverse_cons] at h
  have hl := (List.getElem?_eq_some_iff.mp h).1
  simp only [List.length_append, List.length_reverse, List.length_cons, List.length_nil] at hl
  by_cases q : e < s.length
  · rw [List.getElem?_append_left (by rw [List.length_reverse]; exact q)] at h
    exact Or.inr ⟨q, h⟩
  · have : e = s.length := by omega
    subst this
    rw [List.getElem?_append_right (by rw [List.length_reverse]; omega)] at h
    simp only [List.length_reverse, Nat.sub_self, List.getElem?_cons_zero, Option.some.injEq] at h
    exact Or.inl ⟨rfl, h.symm⟩
theorem rev_hdG' {α : Type} {s : List α} {b : α} : (b :: s).reverse[s.length]? = some b := by
  rw [List.reverse_cons, List.getElem?_append_right (by rw [List.length_reverse]; omega)]
  simp
theorem rev_tlG {α : Type} {s : List α} {b b' : α} {e : Nat} (h : s.reverse[e]? = some b') : (b :: s).reverse[e]? = some b' := by
  have h5 : e < s.length := by
    have := (List.getElem?_eq_some_iff.mp h).1
    rwa [List.length_reverse] at this
  rw [List.reverse_cons, List.getElem?_append_left (by rw [List.length_reverse]; exact h5)]; exact h
theorem PA_push {τ : fx_S} {L : List pE} (h : PA τ L) (e : pE) : PA (prS τ L.length (nI (eA e)) (nI (eB e)) (eR e) (eS e)) (e :: L) := by
  refine ⟨rfl, fun i e' he => ?_⟩
  show upd (τ.2.1 19) L.length (nI (eA e)) i = _ ∧ upd (τ.2.1 20) L.length (nI (eB e)) i = _ ∧ upd (τ.2.1 21) L.length (eR e) i = _ ∧ upd (τ.2.1 22) L.length (eS e) i = _
  rcases rev_hdG he with ⟨rfl, rfl⟩ | ⟨h5, h6⟩
  · rw [q_us, q_us, q_us, q_us]; exact ⟨rfl, rfl, rfl, rfl⟩
  · rw [q_un _ _ (by omega), q_un _ _ (by omega), q_un _ _ (by omega), q_un _ _ (by omega)]; exact h.2 i e' h6
/-- the reference takes a part: up to its root -/
theorem g_head {τ : fx_S} {B k s : Nat} {e : pE} {L : List pE} {dp : Nat → Nat} (hP : PA τ (e :: L)) (hl : L.length < 400) (hk : B + k < 400) (hpar : (eR e = -1 ∧ eD e = 1) ∨ ∃ j, j < k ∧ eR e = nI j ∧ eD e = dp j + 1 ∧ τ.2.1 13 (B + j) = nI (dp j) ∧ (eS e = 0 ∨ eS e = 1)) (k20 : Int32 → Int32 → Int32 → fx_M Int32) :
    ∃ τ3, F_Md_grow_B20 k20 (nI s) (nI B) (nI k) τ = (fx_bnd (F_Md_root (nI s) (nI B) (nI k) (nI (eA e)) (nI (eB e))) fun _ => fx_bnd (fx_pur (nI k + 1)) fun x13 => k20 (nI s) (nI B) x13) τ3 ∧ τ3.1 38 = nI L.length ∧ (∀ r, r ≠ 38 → τ3.1 r = τ.1 r) ∧ (∀ a, a ≠ 10 → a ≠ 11 → a ≠ 13 → τ3.2.1 a = τ.2.1 a) ∧ τ3.2.2 = τ.2.2 ∧ τ3.2.1 13 (B + k) = nI (eD e) ∧ (∀ i, i ≠ B + k → τ3.2.1 13 i = τ.2.1 13 i) ∧ τ3.2.1 10 (B + k) = -1 ∧ τ3.2.1 11 (B + k) = -1 ∧
      (∀ i, i ≠ B + k → (∀ j, i = B + j → ¬ (j < k ∧ eR e = nI j ∧ eS e = 0)) → τ3.2.1 10 i = τ.2.1 10 i) ∧ (∀ i, i ≠ B + k → (∀ j, i = B + j → ¬ (j < k ∧ eR e = nI j ∧ eS e = 1)) → τ3.2.1 11 i = τ.2.1 11 i) ∧ (∀ j, j < k → eR e = nI j → eS e = 0 → τ3.2.1 10 (B + j) = nI k) ∧ (∀ j, j < k → eR e = nI j → eS e = 1 → τ3.2.1 11 (B + j) = nI k) := by
  obtain ⟨h38, hp⟩ := hP
  rw [List.length_cons] at h38
  obtain ⟨p1, p2, p3, p4⟩ := hp L.length e rev_hdG'
  let τ1 : fx_S := (va_up τ.1 38 (nI L.length), τ.2.1, τ.2.2)
  let τ2 : fx_S := (τ1.1, va_up (va_up τ1.2.1 10 (upd (τ1.2.1 10) (B + k) (-1))) 11 (upd (τ1.2.1 11) (B + k) (-1)), τ1.2.2)
  have z1 : τ1.1 38 = nI L.length := rfl
  have head : F_Md_grow_B20 k20 (nI s) (nI B) (nI k) τ = (if eR e = (-1) then F_Md_grow_J127 k20 (nI s) (nI B) (nI k) (nI (eA e)) (nI (eB e)) (eR e) (eS e) 1 (nI (B + k)) else (fx_bnd (l_Md_nodeDeep (nI B + eR e)) fun x12 => F_Md_grow_J127 k20 (nI s) (nI B) (nI k) (nI (eA e)) (nI (eB e)) (eR e) (eS e) (x12 + 1) (nI (B + k)))) τ2 := by
    rw [F_Md_grow_B20, e_bnd (e_gI _ _), h38, e_el (by rw [q_le0 (by omega)]; omega), e_bnd (e_gI _ _), h38, q_s1 (by omega), Nat.add_sub_cancel, e_bnd (e_pI _ _ _)]
    refine (?_ : fx_bnd g_Md_parts _ τ1 = _)
    rw [e_bnd (e_gI _ _), z1, e_bnd (e_lA (show L.length < 400 by omega) (by omega)), e_bnd (e_gI _ _), z1, e_bnd (e_lA (show L.length < 400 by omega) (by omega)), e_bnd (e_gI _ _), z1, e_bnd (e_lA (show L.length < 400 by omega) (by omega)), e_bnd (e_gI _ _), z1, e_bnd (e_lA (show L.length < 400 by omega) (by omega)), nI_add, e_bnd (e_sA hk (by omega)), e_bnd (e_sA hk (by omega))]
    show (if τ.2.1 21 L.length = (-1) then F_Md_grow_J127 k20 (nI s) (nI B) (nI k) (τ.2.1 19 L.length) (τ.2.1 20 L.length) (τ.2.1 21 L.length) (τ.2.1 22 L.length) 1 (nI (B + k)) else _) τ2 = _
    rw [p1, p2, p3, p4]
  let τ2' : fx_S := (τ2.1, va_up τ2.2.1 13 (upd (τ2.2.1 13) (B + k) (nI (eD e))), τ2.2.2)
  have b10 : ∀ i, i ≠ B + k → τ2'.2.1 10 i = τ.2.1 10 i := fun i hi => q_un _ _ hi
  have b11 : ∀ i, i ≠ B + k → τ2'.2.1 11 i = τ.2.1 11 i := fun i hi => q_un _ _ hi
  have b13 : ∀ i, i ≠ B + k → τ2'.2.1 13 i = τ.2.1 13 i := fun i hi => q_un _ _ hi
  have s10 : τ2'.2.1 10 (B + k) = -1 := q_us _ _ _
  have s11 : τ2'.2.1 11 (B + k) = -1 := q_us _ _ _
  have s13 : τ2'.2.1 13 (B + k) = nI (eD e) := q_us _ _ _
  have oth : ∀ a, a ≠ 10 → a ≠ 11 → a ≠ 13 → τ2'.2.1 a = τ.2.1 a := fun a g1 g2 g3 => by
    show va_up (va_up (va_up τ.2.1 10 _) 11 _) 13 _ a = _
    rw [va_up_ne _ _ g3, va_up_ne _ _ g2, va_up_ne _ _ g1]
  have reg : ∀ r, r ≠ 38 → τ2'.1 r = τ.1 r := fun r hr => va_up_ne _ _ hr
  rcases hpar with ⟨hr, hd⟩ | ⟨j, hj, hr, hd, h13, hs⟩
  · have nr : ∀ j, j < k → ¬ eR e = nI j := fun j hj z => q_m1 (show j < 2 ^ 31 by omega) (z.symm.trans hr)
    refine ⟨τ2', ?_, rfl, reg, oth, rfl, s13, b13, s10, s11, fun i hi _ => b10 i hi, fun i hi _ => b11 i hi, fun j hj z => absurd z (nr j hj), fun j hj z => absurd z (nr j hj)⟩
    rw [head, e_if hr, F_Md_grow_J127, e_bnd (e_sA hk (by omega)), e_if hr, F_Md_grow_J152, e_if hr, F_Md_grow_J168]
    show _ = (fx_bnd (F_Md_root (nI s) (nI B) (nI k) (nI (eA e)) (nI (eB e))) fun _ => fx_bnd (fx_pur (nI k + 1)) fun x13 => k20 (nI s) (nI B) x13) (τ2.1, va_up τ2.2.1 13 (upd (τ2.2.1 13) (B + k) (nI (eD e))), τ2.2.2)
    rw [hd]; rfl
  · have hne : ¬ eR e = -1 := by rw [hr]; exact q_m1 (by omega)
    have e13 : l_Md_nodeDeep (nI (B + j)) τ2 = some (nI (dp j), τ2) := by
      rw [l_Md_nodeDeep, e_lA (by omega) (by omega)]
      show some (τ.2.1 13 (B + j), τ2) = _
      rw [h13]
    have mid : F_Md_grow_B20 k20 (nI s) (nI B) (nI k) τ = (if eS e = 0 then (fx_bnd (s_Md_nodeFirst (nI (B + j)) (nI k)) fun _ => F_Md_grow_J168 k20 (nI s) (nI B) (nI k) (nI (eA e)) (nI (eB e))) else F_Md_grow_J152 k20 (nI s) (nI B) (nI k) (nI (eA e)) (nI (eB e)) (eR e)) τ2' := by
      rw [head, e_el hne, hr, nI_add, e_bnd e13, nI_1, ← hd, F_Md_grow_J127, e_bnd (e_sA hk (by omega)), ← hr, e_el hne, hr, nI_add]
    have jeq : ∀ j', j' < k → eR e = nI j' → j' = j := fun j' h1 h2 => by
      rw [hr, q_eq (by omega) (by omega)] at h2; exact h2.symm
    have h01 : ¬ (0 : Int32) = 1 := by decide
    rcases hs with hs | hs
    · refine ⟨(τ2'.1, va_up τ2'.2.1 10 (upd (τ2'.2.1 10) (B + j) (nI k)), τ2'.2.2), ?_, rfl, reg, fun a g1 g2 g3 => ?_, rfl, s13, b13, ?_, s11, fun i hi hn => ?_, fun i hi _ => b11 i hi, fun j' h1 h2 _ => ?_, fun j' h1 h2 h3 => absurd (hs.symm.trans h3) h01⟩
      · rw [mid, e_if hs, e_bnd (e_sA (by omega) (by omega)), F_Md_grow_J168]
      · show va_up τ2'.2.1 10 _ a = _
        rw [va_up_ne _ _ g1]; exact oth a g1 g2 g3
      · show upd (τ2'.2.1 10) (B + j) (nI k) (B + k) = -1
        rw [q_un _ _ (by omega)]; exact s10
      · show upd (τ2'.2.1 10) (B + j) (nI k) i = _
        rw [q_un _ _ (fun z => hn j z ⟨hj, hr, hs⟩)]; exact b10 i hi
      · show upd (τ2'.2.1 10) (B + j) (nI k) (B + j') = _
        rw [jeq j' h1 h2, q_us]
    · have hs0 : ¬ eS e = 0 := fun z => h01 (z.symm.trans hs)
      refine ⟨(τ2'.1, va_up τ2'.2.1 11 (upd (τ2'.2.1 11) (B + j) (nI k)), τ2'.2.2), ?_, rfl, reg, fun a g1 g2 g3 => ?_, rfl, s13, b13, s10, ?_, fun i hi _ => b10 i hi, fun i hi hn => ?_, fun j' h1 h2 h3 => absurd h3 hs0, fun j' h1 h2 _ => ?_⟩
      · rw [mid, e_el hs0, F_Md_grow_J152, e_el hne, hr, nI_add, e_bnd (e_sA (by omega) (by omega)), F_Md_grow_J168]
      · show va_up τ2'.2.1 11 _ a = _
        rw [va_up_ne _ _ g2]; exact oth a g1 g2 g3
      · show upd (τ2'.2.1 11) (B + j) (nI k) (B + k) = -1
        rw [q_un _ _ (by omega)]; exact s11
      · show upd (τ2'.2.1 11) (B + j) (nI k) i = _
        rw [q_un _ _ (fun z => hn j z ⟨hj, hr, hs⟩)]; exact b11 i hi
      · show upd (τ2'.2.1 11) (B + j) (nI k) (B + j') = _
        rw [jeq j' h1 h2, q_us]
/-! NUMBERING: the loop -/
def slA (τ : fx_S) (B k : Nat) (L : List pE) (zz : Nat → Nat) (bank : Nat) (side : Int32) (i x z : Nat) : Prop := (x < k ∧ zz x = z ∧ τ.2.1 bank (B + i) = nI x) ∨ (∃ e, pdAt L k x e ∧ eZ e = z ∧ eR e = nI i ∧ eS e = side)
/-- node i, when k nodes are numbered -/
def NDI (bk B k N : Nat) (L : List pE) (zz : Nat → Nat) (σ τ : fx_S) (i : Nat) : Prop :=
  i + zz i ≤ N ∧ (τ.2.1 8 (B + i) = σ.2.1 bk i ∧ τ.2.1 9 (B + i) = σ.2.1 (bk + 1) i ∧ τ.2.1 12 (B + i) = σ.2.1 (bk + 4) i ∧ τ.2.2 14 (B + i) = σ.2.2 (bk + 5) i) ∧
  ((σ.2.1 bk i = 0 ∧ σ.2.1 (bk + 1) i = -1 ∧ σ.2.1 (bk + 2) i = -1 ∧ σ.2.1 (bk + 3) i = -1 ∧ τ.2.1 10 (B + i) = -1 ∧ τ.2.1 11 (B + i) = -1 ∧ zz i = 1) ∨
   ((∃ o : Nat, o < 41 ∧ σ.2.1 (bk + 1) i = nI o ∧ (σ.2.1 bk i = 2 → o = 0)) ∧ σ.2.2 (bk + 5) i = 0 ∧ σ.2.1 (bk + 2) i = nI (i + 1) ∧
    (((σ.2.1 bk i = 2 ∨ σ.2.1 bk i = 3 ∨ σ.2.1 bk i = 4) ∧ σ.2.1 (bk + 3) i = -1 ∧ τ.2.1 11 (B + i) = -1 ∧ ∃ z1, slA τ B k L zz 10 0 i (i + 1) z1 ∧ zz i = 1 + z1) ∨
     (σ.2.1 bk i = 1 ∧ ∃ z1 z2, σ.2.1 (bk + 3) i = nI (i + 1 + z1) ∧ slA τ B k L zz 10 0 i (i + 1) z1 ∧ slA τ B k L zz 11 1 i (i + 1 + z1) z2 ∧ zz i = 1 + z1 + z2))))
/-- a part that is due -/
def PDE (K : Nat → Int32) (rk sd : Nat → Nat) (n bk B k : Nat) (dp : Nat → Nat) (σ τ : fx_S) (e : pE) : Prop :=
  (∃ t, TR K rk sd σ.2.1 (eA e) (eB e) (eP e) (eZ e) (eH e) t) ∧ eB e < n ∧ ((eR e = -1 ∧ eD e = 1) ∨ ∃ j, j < k ∧ eR e = nI j ∧ eD e = dp j + 1 ∧ ((eS e = 0 ∧ τ.2.1 10 (B + j) = -1 ∧ ¬ σ.2.1 (bk + 2) j = -1) ∨ (eS e = 1 ∧ τ.2.1 11 (B + j) = -1 ∧ ¬ σ.2.1 (bk + 3) j = -1)))
def NIv (K : Nat → Int32) (rk sd : Nat → Nat) (n bk rg B N H : Nat) (L : List pE) (k : Nat) (σ τ : fx_S) (zz dp : Nat → Nat) : Prop :=
  szL L + k = N ∧ SK (σ.1 321) (σ.2.1 21) (L.map eP) ∧ σ.1 rg = nI k ∧ PA τ L ∧ (∀ e ∈ L, PDE K rk sd n bk B k dp σ τ e) ∧ L.Pairwise (fun e e' => ¬ (eR e = eR e' ∧ eS e = eS e')) ∧
  (∀ i, i < k → NDI bk B k N L zz σ τ i) ∧ (∀ i, i < k → τ.2.1 13 (B + i) = nI (dp i) ∧ 1 ≤ dp i) ∧ max (mxN dp k) (mxL L) = H ∧ (k = 0 → ∃ e, L = [e] ∧ eZ e = N) ∧ (0 < k → zz 0 = N)
def nF (bk rg : Nat) (σ σ' : fx_S) : Prop := (∀ r, r ≠ 321 → r ≠ rg → σ'.1 r = σ.1 r) ∧ (∀ a, a ≠ 21 → a < bk ∨ bk + 4 < a → σ'.2.1 a = σ.2.1 a) ∧ (∀ a, a ≠ bk + 5 → σ'.2.2 a = σ.2.2 a)
def gF (B : Nat) (τ τ' : fx_S) : Prop := (∀ r, r ≠ 38 → τ'.1 r = τ.1 r) ∧ (∀ a, a < 8 ∨ (13 < a ∧ a < 19) ∨ 22 < a → τ'.2.1 a = τ.2.1 a) ∧ (∀ a i, i < B → 8 ≤ a → a ≤ 13 → τ'.2.1 a i = τ.2.1 a i) ∧ (∀ a, a ≠ 14 → τ'.2.2 a = τ.2.2 a) ∧ (∀ i, i < B → τ'.2.2 14 i = τ.2.2 14 i)
theorem nF_tr {bk rg : Nat} {σ σ' σ'' : fx_S} (h : nF bk rg σ σ') (g : nF bk rg σ' σ'') : nF bk rg σ σ'' := ⟨fun r a b => (g.1 r a b).trans (h.1 r a b), fun a p q => (g.2.1 a p q).trans (h.2.1 a p q), fun a p => (g.2.2 a p).trans (h.2.2 a p)⟩
theorem gF_tr {B : Nat} {σ σ' σ'' : fx_S} (h : gF B σ σ') (g : gF B σ' σ'') : gF B σ σ'' := ⟨fun r a => (g.1 r a).trans (h.1 r a), fun a p => (g.2.1 a p).trans (h.2.1 a p), fun a i p q r => (g.2.2.1 a i p q r).trans (h.2.2.1 a i p q r), fun a p => (g.2.2.2.1 a p).trans (h.2.2.2.1 a p), fun i p => (g.2.2.2.2 i p).trans (h.2.2.2.2 i p)⟩
/-- what root tells, and leaves -/
def tF (τ τ' : fx_S) (i : Nat) (kd : Int32) (p : Nat) : Prop := (∀ r, r ≠ 38 → τ'.1 r = τ.1 r) ∧ (∀ a, a < 8 ∨ a = 10 ∨ a = 11 ∨ (12 < a ∧ a < 19) ∨ 22 < a → τ'.2.1 a = τ.2.1 a) ∧ (∀ a i', i' ≠ i → a = 8 ∨ a = 9 ∨ a = 12 → τ'.2.1 a i' = τ.2.1 a i') ∧ (τ'.2.1 8 i = kd ∧ τ'.2.1 9 i = τ.2.1 5 p ∧ τ'.2.1 12 i = nI p ∧ τ'.2.2 14 i = τ.2.2 6 p) ∧ (∀ i', i' ≠ i → τ'.2.2 14 i' = τ.2.2 14 i') ∧ (∀ a, a ≠ 14 → τ'.2.2 a = τ.2.2 a)
theorem tF_tl (τ : fx_S) (i : Nat) (kd : Int32) (p : Nat) : tF τ (tlS τ i kd p) i kd p := by
  refine ⟨fun _ _ => rfl, fun a ha => ?_, fun a i' hi ha => ?_, ⟨q_us _ _ _, q_us _ _ _, q_us _ _ _, q_usL _ _ _⟩, fun i' hi => q_unL _ _ hi, fun a ha => va_up_ne _ _ ha⟩
  · show va_up (va_up (va_up τ.2.1 8 _) 12 _) 9 _ a = _
    rw [va_up_ne _ _ (by omega), va_up_ne _ _ (by omega), va_up_ne _ _ (by omega)]
  · rcases ha with rfl | rfl | rfl
    · exact q_un _ _ hi
    · exact q_un _ _ hi
    · exact q_un _ _ hi
theorem tF_pr {τ τ' : fx_S} {i : Nat} {kd : Int32} {p : Nat} (h : tF τ τ' i kd p) (m : Nat) (a b c d : Int32) : tF τ (prS τ' m a b c d) i kd p := by
  obtain ⟨h1, h2, h3, h4, h5, h6⟩ := h
  have e : ∀ x, x < 19 ∨ 22 < x → (prS τ' m a b c d).2.1 x = τ'.2.1 x := fun x hx => by
    show va_up (va_up (va_up (va_up τ'.2.1 19 _) 20 _) 21 _) 22 _ x = _
    rw [va_up_ne _ _ (by omega), va_up_ne _ _ (by omega), va_up_ne _ _ (by omega), va_up_ne _ _ (by omega)]
  exact ⟨fun r hr => (va_up_ne _ _ hr).trans (h1 r hr), fun x hx => (e x (by omega)).trans (h2 x hx), fun x i' hi hx => by rw [e x (by omega)]; exact h3 x i' hi hx, ⟨by rw [e 8 (by omega)]; exact h4.1, by rw [e 9 (by omega)]; exact h4.2.1, by rw [e 12 (by omega)]; exact h4.2.2.1, h4.2.2.2⟩, h5, h6⟩
theorem PA_cg {τ τ' : fx_S} {L : List pE} (h : PA τ L) (h38 : τ'.1 38 = nI L.length) (e : ∀ a, 19 ≤ a → a ≤ 22 → τ'.2.1 a = τ.2.1 a) : PA τ' L := by
  refine ⟨h38, ?_⟩
  rw [e 19 (by omega) (by omega), e 20 (by omega) (by omega), e 21 (by omega) (by omega), e 22 (by omega) (by omega)]
  exact h.2
theorem PA_tl {τ : fx_S} {e : pE} {L : List pE} (h : PA τ (e :: L)) (h38 : τ.1 38 = nI L.length) : PA τ L := ⟨h38, fun i e' he => h.2 i e' (rev_tlG he)⟩
theorem gi_nk {K O : Nat → Int32} {V : Nat → Int64} {n p : Nat} (hg : gi (K p) (O p) (V p)) : (nkA K n p = 0 → O p = -1) ∧ (nkA K n p = 1 ∨ nkA K n p = 2 ∨ nkA K n p = 3 ∨ nkA K n p = 4 → (∃ o : Nat, o < 41 ∧ O p = nI o ∧ (nkA K n p = 2 → o = 0)) ∧ V p = 0) := by
  have key : ∀ x : Int32, nkA K n p = x → (x = 0 → K p = 0) ∧ (x = 1 ∨ x = 2 ∨ x = 3 ∨ x = 4 → K p = 1 ∨ K p = 2) ∧ (x = 2 → K p = 2) := by
    intro x hx
    unfold nkA at hx
    split at hx
    · subst hx; exact ⟨fun h => absurd h (by decide), fun h => absurd h (by decide), fun h => absurd h (by decide)⟩
    · next h34 =>
      split at hx
      · next h => subst hx; exact ⟨fun h => absurd h (by decide), fun _ => Or.inl h.1, fun h => absurd h (by decide)⟩
      · split at hx
        · next h => subst hx; exact ⟨fun h => absurd h (by decide), fun _ => Or.inl h.1, fun h => absurd h (by decide)⟩
        · subst hx
          refine ⟨id, fun h => ?_, id⟩
          rcases h with h | h | h | h
          · exact Or.inl h
          · exact Or.inr h
          · exact absurd (Or.inl h) h34
          · exact absurd (Or.inr h) h34
  obtain ⟨k1, k2, k3⟩ := key _ rfl
  constructor
  · intro h
    have h0 := k1 h
    rcases hg with ⟨-, h⟩ | ⟨h, -⟩ | ⟨h, -⟩ | ⟨h | h, -⟩
    · exact h
    all_goals (rw [h0] at h; exact absurd h (by decide))
  · intro h
    rcases hg with ⟨g, -⟩ | ⟨g, ⟨o, ho, ho2⟩, gv⟩ | ⟨g, go, gv⟩ | ⟨g | g, -⟩
    · rcases k2 h with q | q <;> rw [q] at g <;> exact absurd g (by decide)
    · refine ⟨⟨o, ho, ho2, fun z => ?_⟩, gv⟩
      have := k3 z
      rw [g] at this; exact absurd this (by decide)
    · exact ⟨⟨0, by omega, go, fun _ => rfl⟩, gv⟩
    · rcases k2 h with q | q <;> rw [q] at g <;> exact absurd g (by decide)
    · rcases k2 h with q | q <;> rw [q] at g <;> exact absurd g (by decide)
section NLOOP
variable {K O : Nat → Int32} {V : Nat → Int64} {n : Nat} {pt : Int32} {rk sd : Nat → Nat} {s bk rg B N H : Nat} {CB : (Int32 → fx_M Unit) → Int32 → fx_M Unit}
theorem szL_app : ∀ (C L : List pE), szL (C ++ L) = szL C + szL L
  | [], L => by simp [szL]
  | e :: C, L => by simp only [List.cons_append, szL, szL_app C L]; omega
theorem mxL_app : ∀ (C L : List pE), mxL (C ++ L) = max (mxL C) (mxL L)
  | [], L => by simp [mxL]
  | e :: C, L => by simp only [List.cons_append, mxL, mxL_app C L]; omega
theorem pdAt_app {x : Nat} {e : pE} : ∀ {C L : List pE} {k : Nat}, pdAt L (k + szL C) x e → pdAt (C ++ L) k x e
  | [], L, k, h => h
  | c :: C, L, k, h => Or.inr (pdAt_app (C := C) (k := k + eZ c) (by simp only [szL] at h; rw [show k + eZ c + szL C = k + (eZ c + szL C) by omega]; exact h))
/-- one node more -/
theorem n_one (hbk : 26 ≤ bk) (hrg : 400 < rg) (hg : gr K O V n) {L : List pE} {e : pE} {k : Nat} {σ τ τ3 τ4 σ' : fx_S} {zz dp : Nat → Nat} {C : List pE} {x y : Int32} {z1 : Nat}
    (I : NIv K rk sd n bk rg B N H (e :: L) k σ τ zz dp) (hpn : eP e < n) (hN : N ≤ 200) (hH : 1 ≤ eD e)
    (g1 : τ3.2.1 13 (B + k) = nI (eD e)) (g2 : ∀ i, i ≠ B + k → τ3.2.1 13 i = τ.2.1 13 i) (g3 : τ3.2.1 10 (B + k) = -1) (g4 : τ3.2.1 11 (B + k) = -1)
    (g5 : ∀ i, i ≠ B + k → (∀ j, i = B + j → ¬ (j < k ∧ eR e = nI j ∧ eS e = 0)) → τ3.2.1 10 i = τ.2.1 10 i) (g6 : ∀ i, i ≠ B + k → (∀ j, i = B + j → ¬ (j < k ∧ eR e = nI j ∧ eS e = 1)) → τ3.2.1 11 i = τ.2.1 11 i) (g7 : ∀ j, j < k → eR e = nI j → eS e = 0 → τ3.2.1 10 (B + j) = nI k) (g8 : ∀ j, j < k → eR e = nI j → eS e = 1 → τ3.2.1 11 (B + j) = nI k)
    (g9 : ∀ a, a ≠ 10 → a ≠ 11 → a ≠ 13 → τ3.2.1 a = τ.2.1 a) (g10 : τ3.2.2 = τ.2.2)
    (t : tF τ3 τ4 (B + k) (nkA K n (eP e)) (eP e)) (hop : τ.2.1 5 (eP e) = O (eP e)) (hnu : τ.2.2 6 (eP e) = V (eP e)) (hPA : PA τ4 (C ++ L))
    (s1 : σ'.1 rg = nI (k + 1)) (s2 : SK (σ'.1 321) (σ'.2.1 21) (C.map eP ++ L.map eP))
    (s3 : σ'.2.1 bk k = nkA K n (eP e) ∧ σ'.2.1 (bk + 1) k = O (eP e) ∧ σ'.2.1 (bk + 2) k = (if x = -1 then -1 else nI (k + 1)) ∧ σ'.2.1 (bk + 3) k = (if y = -1 then -1 else nI (k + 1 + z1)) ∧ σ'.2.1 (bk + 4) k = nI (eP e) ∧ σ'.2.2 (bk + 5) k = V (eP e))
    (s4 : ∀ a i, i ≠ k → a ≠ 21 → σ'.2.1 a i = σ.2.1 a i) (s5 : ∀ a, a ≠ 21 → a < bk ∨ bk + 4 < a → σ'.2.1 a = σ.2.1 a) (s6 : ∀ a i, i ≠ k → σ'.2.2 a i = σ.2.2 a i)
    (hC : (C = [] ∧ x = -1 ∧ y = -1 ∧ nkA K n (eP e) = 0 ∧ eZ e = 1 ∧ eH e = 1) ∨
      (∃ c q, C = [c] ∧ x = nI q ∧ q < 200 ∧ y = -1 ∧ (nkA K n (eP e) = 2 ∨ nkA K n (eP e) = 3 ∨ nkA K n (eP e) = 4) ∧ eR c = nI k ∧ eS c = 0 ∧ eD c = eD e + 1 ∧ eZ e = 1 + eZ c ∧ eH e = 1 + eH c ∧ 1 ≤ eZ c ∧ eB c < n ∧ ∃ t, TR K rk sd σ.2.1 (eA c) (eB c) (eP c) (eZ c) (eH c) t) ∨
      (∃ c1 c2 q1 q2, C = [c1, c2] ∧ x = nI q1 ∧ q1 < 200 ∧ y = nI q2 ∧ q2 < 200 ∧ nkA K n (eP e) = 1 ∧ z1 = eZ c1 ∧ eR c1 = nI k ∧ eS c1 = 0 ∧ eR c2 = nI k ∧ eS c2 = 1 ∧ eD c1 = eD e + 1 ∧ eD c2 = eD e + 1 ∧ eZ e = 1 + eZ c1 + eZ c2 ∧ eH e = 1 + max (eH c1) (eH c2) ∧ 1 ≤ eZ c1 ∧ 1 ≤ eZ c2 ∧ eB c1 < n ∧ eB c2 < n ∧ (∃ t, TR K rk sd σ.2.1 (eA c1) (eB c1) (eP c1) (eZ c1) (eH c1) t) ∧ ∃ t, TR K rk sd σ.2.1 (eA c2) (eB c2) (eP c2) (eZ c2) (eH c2) t)) :
    NIv K rk sd n bk rg B N H (C ++ L) (k + 1) σ' τ4 (updN zz k (eZ e)) (updN dp k (eD e)) := by
  obtain ⟨i1, i2, i3, i4, i5, i6, i7, i8, i9, i10, i11⟩ := I
  simp only [szL] at i1
  simp only [mxL] at i9
  obtain ⟨i6a, i6b⟩ := List.pairwise_cons.mp i6
  have hkN : k < 200 := by
    have : 1 ≤ eZ e := by
      rcases hC with ⟨-, -, -, -, h, -⟩ | ⟨c, q, -, -, -, -, -, -, -, -, h, -⟩ | ⟨c1, c2, q1, q2, -, -, -, -, -, -, -, -, -, -, -, -, -, h, -⟩ <;> omega
    omega
  have hgi := gi_nk (n := n) (hg (eP e) hpn).2
  have hzC : eZ e = 1 + szL C := by
    rcases hC with ⟨rfl, -, -, -, h, -⟩ | ⟨c, q, rfl, -, -, -, -, -, -, -, h, -⟩ | ⟨c1, c2, q1, q2, rfl, -, -, -, -, -, -, -, -, -, -, -, -, h, -⟩ <;> simp only [szL] <;> omega
  have hmC : max (eD e) (mxL C) = eD e - 1 + eH e := by
    rcases hC with ⟨rfl, -, -, -, -, h⟩ | ⟨c, q, rfl, -, -, -, -, -, -, hd, -, h, -⟩ | ⟨c1, c2, q1, q2, rfl, -, -, -, -, -, -, -, -, -, -, hd1, hd2, -, h, -⟩ <;> simp only [mxL] <;> omega
  have T : ∀ a, 22 ≤ a → a ≤ 25 → σ'.2.1 a = σ.2.1 a := fun a h1 h2 => s5 a (by omega) (by omega)
  have TRc : ∀ {a b p z h : Nat} {ts : List Nat}, TR K rk sd σ.2.1 a b p z h ts → TR K rk sd σ'.2.1 a b p z h ts := fun h => TR_cg (fun i _ _ => by
    unfold agT
    rw [T 22 (by omega) (by omega), T 23 (by omega) (by omega), T 24 (by omega) (by omega), T 25 (by omega) (by omega)]
    exact ⟨rfl, rfl, rfl, rfl⟩) h
  have p10 : τ4.2.1 10 = τ3.2.1 10 := t.2.1 10 (by omega)
  have p11 : τ4.2.1 11 = τ3.2.1 11 := t.2.1 11 (by omega)
  have p13 : τ4.2.1 13 = τ3.2.1 13 := t.2.1 13 (by omega)
  have hRC : ∀ c ∈ C, eR c = nI k := by
    intro c hc
    rcases hC with ⟨rfl, -⟩ | ⟨c', q, rfl, -, -, -, -, h, -⟩ | ⟨c1, c2, q1, q2, rfl, -, -, -, -, -, -, h1, -, h2, -⟩
    · simp at hc
    · rw [List.mem_singleton.mp hc]; exact h
    · rcases List.mem_cons.mp hc with rfl | hc
      · exact h1
      · rw [List.mem_singleton.mp hc]; exact h2
  -- the parts that were due
  have hRL : ∀ e' ∈ L, ∀ j, eR e' = nI j → j < 2 ^ 31 → j < k := by
    intro e' he' j hj hj2
    rcases (i5 e' (List.mem_cons_of_mem _ he')).2.2 with ⟨h, -⟩ | ⟨j', h1, h2, -⟩
    · exact absurd (hj.symm.trans h) (q_m1 hj2)
    · rw [h2, q_eq (by omega) hj2] at hj; omega
  have PL : ∀ e' ∈ L, PDE K rk sd n bk B (k + 1) (updN dp k (eD e)) σ' τ4 e' := by
    intro e' he'
    obtain ⟨⟨t', h1⟩, h2, h3⟩ := i5 e' (List.mem_cons_of_mem _ he')
    refine ⟨⟨t', TRc h1⟩, h2, ?_⟩
    rcases h3 with h3 | ⟨j, h4, h5, h6, h7⟩
    · exact Or.inl h3
    · have hne := i6a e' he'
      refine Or.inr ⟨j, by omega, h5, by rw [updN_n _ _ (by omega)]; exact h6, ?_⟩
      rcases h7 with ⟨h7, h8, h9⟩ | ⟨h7, h8, h9⟩
      · refine Or.inl ⟨h7, ?_, by rw [s4 (bk + 2) j (by omega) (by omega)]; exact h9⟩
        rw [p10, g5 (B + j) (by omega)]
        · exact h8
        · rintro j' hj' ⟨z1, z2, z3⟩
          have : j' = j := by omega
          subst this
          exact hne ⟨z2.trans h5.symm, z3.trans h7.symm⟩
      · refine Or.inr ⟨h7, ?_, by rw [s4 (bk + 3) j (by omega) (by omega)]; exact h9⟩
        rw [p11, g6 (B + j) (by omega)]
        · exact h8
        · rintro j' hj' ⟨z1, z2, z3⟩
          have : j' = j := by omega
          subst this
          exact hne ⟨z2.trans h5.symm, z3.trans h7.symm⟩
  have PC : ∀ c ∈ C, PDE K rk sd n bk B (k + 1) (updN dp k (eD e)) σ' τ4 c := by
    intro c hc
    have f1 : τ4.2.1 10 (B + k) = -1 := by rw [p10]; exact g3
    have f2 : τ4.2.1 11 (B + k) = -1 := by rw [p11]; exact g4
    rcases hC with ⟨rfl, -⟩ | ⟨c', q, rfl, hx, hq, -, -, h1, h2, h3, -, -, -, h4, t', h5⟩ | ⟨c1, c2, q1, q2, rfl, hx, hq1, hy, hq2, -, hz1, a1, a2, a3, a4, a5, a6, hz, -, -, -, a7, a8, ⟨t1, a9⟩, t2, a10⟩
    · simp at hc
    · rw [List.mem_singleton.mp hc]
      refine ⟨⟨t', TRc h5⟩, h4, Or.inr ⟨k, by omega, h1, by rw [updN_s]; exact h3, Or.inl ⟨h2, f1, ?_⟩⟩⟩
      rw [s3.2.2.1, hx, if_neg (q_m1 (by omega))]; exact q_m1 (by omega)
    · rcases List.mem_cons.mp hc with rfl | hc
      · refine ⟨⟨t1, TRc a9⟩, a7, Or.inr ⟨k, by omega, a1, by rw [updN_s]; exact a5, Or.inl ⟨a2, f1, ?_⟩⟩⟩
        rw [s3.2.2.1, hx, if_neg (q_m1 (by omega))]; exact q_m1 (by omega)
      · rw [List.mem_singleton.mp hc]
        refine ⟨⟨t2, TRc a10⟩, a8, Or.inr ⟨k, by omega, a3, by rw [updN_s]; exact a6, Or.inr ⟨a4, f2, ?_⟩⟩⟩
        rw [s3.2.2.2.1, hy, if_neg (q_m1 (by omega))]
        exact q_m1 (by omega)
  refine ⟨by rw [szL_app]; omega, by rw [List.map_append]; exact s2, s1, hPA, fun e' he' => ?_, List.pairwise_append.mpr ⟨?_, i6b, fun c hc e' he' hh => ?_⟩, fun i hi => ?_, fun i hi => ?_, ?_, fun h => by omega, fun _ => ?_⟩
  · rcases List.mem_append.mp he' with h | h
    · exact PC e' h
    · exact PL e' h
  · rcases hC with ⟨rfl, -⟩ | ⟨c', q, rfl, -⟩ | ⟨c1, c2, q1, q2, rfl, -, -, -, -, -, -, -, a2, -, a4, -⟩
    · exact List.Pairwise.nil
    · exact List.pairwise_cons.mpr ⟨fun x hx => by simp at hx, List.Pairwise.nil⟩
    · refine List.pairwise_cons.mpr ⟨fun x hx hh => ?_, List.pairwise_cons.mpr ⟨fun x hx => by simp at hx, List.Pairwise.nil⟩⟩
      rw [List.mem_singleton.mp hx, a2, a4] at hh
      exact absurd hh.2 (by decide)
  · have := hRL e' he' k (hh.1.symm.trans (hRC c hc)) (by omega)
    omega
  · by_cases hik : i = k
    · -- the new node
      subst hik
      have q8 : τ4.2.1 8 (B + i) = σ'.2.1 bk i := by rw [s3.1]; exact t.2.2.2.1.1
      have q9 : τ4.2.1 9 (B + i) = σ'.2.1 (bk + 1) i := by rw [s3.2.1, t.2.2.2.1.2.1, g9 5 (by omega) (by omega) (by omega)]; exact hop
      have q12 : τ4.2.1 12 (B + i) = σ'.2.1 (bk + 4) i := by rw [s3.2.2.2.2.1]; exact t.2.2.2.1.2.2.1
      have q14 : τ4.2.2 14 (B + i) = σ'.2.2 (bk + 5) i := by rw [s3.2.2.2.2.2, t.2.2.2.1.2.2.2, g10]; exact hnu
      refine ⟨by rw [updN_s]; omega, ⟨q8, q9, q12, q14⟩, ?_⟩
      rcases hC with ⟨rfl, hx, hy, hk0, hz, -⟩ | ⟨c, q, rfl, hx, hq, hy, hk0, h1, h2, h3, hz, -, -⟩ | ⟨c1, c2, q1, q2, rfl, hx, hq1, hy, hq2, hk0, hz1, a1, a2, a3, a4, a5, a6, hz, -⟩
      · refine Or.inl ⟨by rw [s3.1]; exact hk0, by rw [s3.2.1]; exact hgi.1 hk0, by rw [s3.2.2.1, if_pos hx], by rw [s3.2.2.2.1, if_pos hy], by rw [p10]; exact g3, by rw [p11]; exact g4, by rw [updN_s]; exact hz⟩
      · obtain ⟨⟨o, ho, ho2, ho3⟩, hv⟩ := hgi.2 (Or.inr hk0)
        refine Or.inr ⟨⟨o, ho, by rw [s3.2.1]; exact ho2, by rw [s3.1]; exact ho3⟩, by rw [s3.2.2.2.2.2]; exact hv, by rw [s3.2.2.1, hx, if_neg (q_m1 (by omega))], Or.inl ⟨by rw [s3.1]; exact hk0, by rw [s3.2.2.2.1, if_pos hy], by rw [p11]; exact g4, eZ c, Or.inr ⟨c, Or.inl ⟨rfl, rfl⟩, rfl, h1, h2⟩, by rw [updN_s]; exact hz⟩⟩
      · obtain ⟨⟨o, ho, ho2, ho3⟩, hv⟩ := hgi.2 (Or.inl hk0)
        refine Or.inr ⟨⟨o, ho, by rw [s3.2.1]; exact ho2, by rw [s3.1]; exact ho3⟩, by rw [s3.2.2.2.2.2]; exact hv, by rw [s3.2.2.1, hx, if_neg (q_m1 (by omega))], Or.inr ⟨by rw [s3.1]; exact hk0, eZ c1, eZ c2, by rw [s3.2.2.2.1, hy, if_neg (q_m1 (by omega)), hz1], Or.inr ⟨c1, Or.inl ⟨rfl, rfl⟩, rfl, a1, a2⟩, Or.inr ⟨c2, Or.inr (Or.inl ⟨rfl, rfl⟩), rfl, a3, a4⟩, by rw [updN_s]; exact hz⟩⟩
    · -- an older node
      have hik' : i < k := by omega
      obtain ⟨n1, ⟨n2, n3, n4, n5⟩, n6⟩ := i7 i hik'
      have c0 := s4 bk i hik (by omega)
      have c1 := s4 (bk + 1) i hik (by omega)
      have c2 := s4 (bk + 2) i hik (by omega)
      have c3 := s4 (bk + 3) i hik (by omega)
      have c4 := s4 (bk + 4) i hik (by omega)
      have c5 := s6 (bk + 5) i hik
      have d8 : τ4.2.1 8 (B + i) = τ.2.1 8 (B + i) := by rw [t.2.2.1 8 (B + i) (by omega) (by omega), g9 8 (by omega) (by omega) (by omega)]
      have d9 : τ4.2.1 9 (B + i) = τ.2.1 9 (B + i) := by rw [t.2.2.1 9 (B + i) (by omega) (by omega), g9 9 (by omega) (by omega) (by omega)]
      have d12 : τ4.2.1 12 (B + i) = τ.2.1 12 (B + i) := by rw [t.2.2.1 12 (B + i) (by omega) (by omega), g9 12 (by omega) (by omega) (by omega)]
      have d14 : τ4.2.2 14 (B + i) = τ.2.2 14 (B + i) := by rw [t.2.2.2.2.1 (B + i) (by omega), g10]
      have pe := (i5 e (by simp)).2.2
      -- a pointer that is there stays
      have k10 : ¬ (eR e = nI i ∧ eS e = 0) → τ4.2.1 10 (B + i) = τ.2.1 10 (B + i) := fun hn => by
        rw [p10]
        exact g5 (B + i) (by omega) (fun j hj z => hn ⟨by rw [show i = j by omega]; exact z.2.1, z.2.2⟩)
      have k11 : ¬ (eR e = nI i ∧ eS e = 1) → τ4.2.1 11 (B + i) = τ.2.1 11 (B + i) := fun hn => by
        rw [p11]
        exact g6 (B + i) (by omega) (fun j hj z => hn ⟨by rw [show i = j by omega]; exact z.2.1, z.2.2⟩)
      have e10 : eR e = nI i → eS e = 0 → τ.2.1 10 (B + i) = -1 ∧ ¬ σ.2.1 (bk + 2) i = -1 := fun z1 z2 => by
        rcases pe with ⟨h, -⟩ | ⟨j, h1, h2, -, h3⟩
        · exact absurd (z1.symm.trans h) (q_m1 (by omega))
        · rw [h2, q_eq (by omega) (by omega)] at z1
          subst z1
          rcases h3 with h3 | h3
          · exact h3.2
          · rw [z2] at h3; exact absurd h3.1 (by decide)
      have e11 : eR e = nI i → eS e = 1 → τ.2.1 11 (B + i) = -1 ∧ ¬ σ.2.1 (bk + 3) i = -1 := fun z1 z2 => by
        rcases pe with ⟨h, -⟩ | ⟨j, h1, h2, -, h3⟩
        · exact absurd (z1.symm.trans h) (q_m1 (by omega))
        · rw [h2, q_eq (by omega) (by omega)] at z1
          subst z1
          rcases h3 with h3 | h3
          · rw [z2] at h3; exact absurd h3.1 (by decide)
          · exact h3.2
      have sl10 : ∀ xx zc, slA τ B k (e :: L) zz 10 0 i xx zc → slA τ4 B (k + 1) (C ++ L) (updN zz k (eZ e)) 10 0 i xx zc := by
        rintro xx zc (⟨h1, h2, h3⟩ | ⟨e', h1, h2, h3, h4⟩)
        · refine Or.inl ⟨by omega, by rw [updN_n _ _ (by omega)]; exact h2, ?_⟩
          rw [k10 (fun z => ?_)]
          · exact h3
          · have := (e10 z.1 z.2).1
            rw [h3] at this; exact q_m1 (by omega) this
        · rcases h1 with ⟨rfl, rfl⟩ | h1
          · refine Or.inl ⟨by omega, by rw [updN_s]; exact h2, ?_⟩
            rw [p10]; exact g7 i hik' h3 h4
          · refine Or.inr ⟨e', pdAt_app ?_, h2, h3, h4⟩
            rw [show k + 1 + szL C = k + eZ e by omega]; exact h1
      have sl11 : ∀ xx zc, slA τ B k (e :: L) zz 11 1 i xx zc → slA τ4 B (k + 1) (C ++ L) (updN zz k (eZ e)) 11 1 i xx zc := by
        rintro xx zc (⟨h1, h2, h3⟩ | ⟨e', h1, h2, h3, h4⟩)
        · refine Or.inl ⟨by omega, by rw [updN_n _ _ (by omega)]; exact h2, ?_⟩
          rw [k11 (fun z => ?_)]
          · exact h3
          · have := (e11 z.1 z.2).1
            rw [h3] at this; exact q_m1 (by omega) this
        · rcases h1 with ⟨rfl, rfl⟩ | h1
          · refine Or.inl ⟨by omega, by rw [updN_s]; exact h2, ?_⟩
            rw [p11]; exact g8 i hik' h3 h4
          · refine Or.inr ⟨e', pdAt_app ?_, h2, h3, h4⟩
            rw [show k + 1 + szL C = k + eZ e by omega]; exact h1
      refine ⟨by rw [updN_n _ _ hik]; exact n1, ⟨by rw [d8, c0]; exact n2, by rw [d9, c1]; exact n3, by rw [d12, c4]; exact n4, by rw [d14, c5]; exact n5⟩, ?_⟩
      rw [c0, c1, c2, c3, c5, updN_n _ _ hik]
      rcases n6 with ⟨m1, m2, m3, m4, m5, m6, m7⟩ | ⟨m1, m2, m3, m4⟩
      · refine Or.inl ⟨m1, m2, m3, m4, ?_, ?_, m7⟩
        · rw [k10 (fun z => (e10 z.1 z.2).2 m3)]; exact m5
        · rw [k11 (fun z => (e11 z.1 z.2).2 m4)]; exact m6
      · refine Or.inr ⟨m1, m2, m3, ?_⟩
        rcases m4 with ⟨m4, m5, m6, zc, m7, m8⟩ | ⟨m4, za, zb, m5, m6, m7, m8⟩
        · refine Or.inl ⟨m4, m5, ?_, zc, sl10 _ _ m7, m8⟩
          rw [k11 (fun z => (e11 z.1 z.2).2 m5)]; exact m6
        · exact Or.inr ⟨m4, za, zb, m5, sl10 _ _ m6, sl11 _ _ m7, m8⟩
  · by_cases hik : i = k
    · subst hik
      rw [updN_s, p13]; exact ⟨g1, hH⟩
    · rw [updN_n _ _ hik, p13, g2 (B + i) (by omega)]; exact i8 i (by omega)
  · rw [mxL_app, mxN, updN_s, mxN_cg (dp := dp) (fun i hi => updN_n _ _ (by omega)), ← i9, ← hmC]
    simp only [Nat.max_assoc]
  · by_cases h0 : k = 0
    · subst h0
      obtain ⟨e0, he0, hz0⟩ := i10 rfl
      obtain ⟨rfl, -⟩ := List.cons.inj he0
      rw [updN_s]; exact hz0
    · rw [updN_n _ _ (by omega)]; exact i11 (by omega)
end NLOOP
/-! NUMBERING: both whole -/
section NLOOP2
variable {K O : Nat → Int32} {V : Nat → Int64} {n : Nat} {pt : Int32} {rk sd : Nat → Nat} {s bk rg B N H : Nat} {CB : (Int32 → fx_M Unit) → Int32 → fx_M Unit}
theorem cxC_n (hbk : 26 ≤ bk) (hrg : 400 < rg) {σ σ' : fx_S} (X : cxC K O n pt rk sd σ) (h : nF bk rg σ σ') : cxC K O n pt rk sd σ' := by
  unfold cxC at *
  rw [h.1 117 (by omega) (by omega), h.1 119 (by omega) (by omega), h.2.1 8 (by omega) (by omega), h.2.1 10 (by omega) (by omega), h.2.1 9 (by omega) (by omega), h.2.1 6 (by omega) (by omega), h.2.1 5 (by omega) (by omega)]
  exact X
theorem n_loop (hbk : 26 ≤ bk) (hrg : 400 < rg) (hB : B ≤ 200) (hST : STC bk rg CB) (hEND : ∀ k38 (k : Nat) σ, k ≤ 200 → SK (σ.1 321) (σ.2.1 21) [] → CB k38 (nI k) σ = some ((), σ)) (hg : gr K O V n) (hN : N ≤ 200) (hrk : ∀ j, j < n → K j = 1 ∨ K j = 2 → rk j < 10 ∧ sd j < 3) : ∀ (m : Nat) (L : List pE) (k f1 f2 : Nat) (σ τ : fx_S) (zz dp : Nat → Nat), szL L = m → cxC K O n pt rk sd σ → cxR K O n pt rk sd s τ → LN K n τ → σ.2.2 11 = V → (∀ j, j < n → τ.2.2 6 j = V j) → NIv K rk sd n bk rg B N H L k σ τ zz dp →
    ∃ σ' τ' zz' dp', fx_loop1 CB (f1 + m + 1) (nI k) σ = some ((), σ') ∧ fx_loop3 F_Md_grow_B20 (f2 + m + 1) (nI s) (nI B) (nI k) τ = some (nI N, τ') ∧ NIv K rk sd n bk rg B N H [] N σ' τ' zz' dp' ∧ nF bk rg σ σ' ∧ gF B τ τ' := by
  intro m
  induction m with
  | zero =>
    intro L k f1 f2 σ τ zz dp hm X Y hL hV hV' I
    cases L with
    | cons e L =>
      exfalso
      obtain ⟨⟨t, h⟩, -⟩ := I.2.2.2.2.1 e (by simp)
      have := TR_io h
      simp only [szL] at hm; omega
    | nil =>
      have hk : k = N := by have := I.1; simp only [szL] at this; omega
      subst hk
      refine ⟨σ, τ, zz, dp, ?_, ?_, I, ⟨fun _ _ _ => rfl, fun _ _ _ => rfl, fun _ _ => rfl⟩, ⟨fun _ _ => rfl, fun _ _ => rfl, fun _ _ _ _ _ => rfl, fun _ _ => rfl, fun _ _ => rfl⟩⟩
      · rw [e_loop1]; exact hEND _ _ _ hN I.2.1
      · have h38 : τ.1 38 = 0 := I.2.2.2.1.1
        rw [e_loop3, F_Md_grow_B20, e_bnd (e_gI _ _), h38, e_if (by decide)]; rfl
  | succ m ih =>
    intro L k f1 f2 σ τ zz dp hm X Y hL hV hV' I
    cases L with
    | nil => simp only [szL] at hm; omega
    | cons e L =>
      have hn := X.1
      obtain ⟨i1, i2, i3, i4, i5, i6, i7, i8, i9, i10, i11⟩ := id I
      obtain ⟨⟨ts, hTR⟩, hbn, hpar⟩ := i5 e (by simp)
      have io := TR_io hTR
      simp only [szL] at hm i1
      have hlen : ∀ (L : List pE), (∀ e ∈ L, PDE K rk sd n bk B k dp σ τ e) → L.length ≤ szL L := by
        intro L
        induction L with
        | nil => intro _; exact Nat.le_refl _
        | cons e L ihL =>
          intro h
          obtain ⟨⟨t, h1⟩, -⟩ := h e (by simp)
          have := TR_io h1
          have := ihL (fun e' he' => h e' (List.mem_cons_of_mem _ he'))
          simp only [szL, List.length_cons]; omega
      have hLl := hlen L (fun e' he' => i5 e' (List.mem_cons_of_mem _ he'))
      have hd1 : 1 ≤ eD e := by
        rcases hpar with ⟨-, h⟩ | ⟨j, -, -, h, -⟩ <;> omega
      obtain ⟨τ3, a1, a2, a3, a4, a5, a6, a7, a8, a9, a10, a11, a12, a13⟩ := g_head (s := s) (k := k) (B := B) (dp := dp) i4 (by omega) (by omega) (by
        rcases hpar with h | ⟨j, h1, h2, h3, h4⟩
        · exact Or.inl h
        · exact Or.inr ⟨j, h1, h2, h3, (i8 j h1).1, by rcases h4 with h | h; exact Or.inl h.1; exact Or.inr h.1⟩) (fx_loop3 F_Md_grow_B20 (f2 + m + 1))
      have Y3 : cxR K O n pt rk sd s τ3 := cxR_fr Y (fun r hr => a3 r (by omega)) (fun a ha => a4 a (by omega) (by omega) (by omega))
      have L3 : LN K n τ3 := LN_fr hL ⟨a4 15 (by omega) (by omega) (by omega), a4 16 (by omega) (by omega) (by omega)⟩
      obtain ⟨f, hSP⟩ := hTR
      have hSP' := SP_fit (eB e + 1 - eA e) (Nat.le_refl _) hSP
      obtain ⟨τ4, r1, r2⟩ := m_root (i := B + k) (k := k) (m := L.length) (B := B) (s := s) (pt := pt) (O := O) hrk rfl (by omega) (by omega) (eB e + 1 - eA e) (eA e) (eB e) (eP e) (eZ e) (eH e) (fx_fuel - (eB e + 1 - eA e)) ts τ3 Y3 L3 a2 hbn hSP'
      rw [show fx_fuel - (eB e + 1 - eA e) + (eB e + 1 - eA e) = fx_fuel by unfold fx_fuel; omega] at r1
      have r1' : F_Md_root (nI s) (nI B) (nI k) (nI (eA e)) (nI (eB e)) τ3 = some ((), τ4) := r1
      have PA3 : PA τ3 L := by
        refine ⟨a2, fun i e' he => ?_⟩
        rw [a4 19 (by omega) (by omega) (by omega), a4 20 (by omega) (by omega) (by omega), a4 21 (by omega) (by omega) (by omega), a4 22 (by omega) (by omega) (by omega)]
        exact i4.2 i e' (rev_tlG he)
      have PAt : ∀ kd p, PA (tlS τ3 (B + k) kd p) L := fun kd p => PA_cg PA3 a2 (fun a h1 h2 => by
        show va_up (va_up (va_up τ3.2.1 8 _) 12 _) 9 _ a = _
        rw [va_up_ne _ _ (by omega), va_up_ne _ _ (by omega), va_up_ne _ _ (by omega)])
      have hpn : eP e < n := by omega
      -- what follows when the children are there
      have go : ∀ (C : List pE) (x y : Int32) (z1 : Nat), σ.2.1 22 (eP e) = x → σ.2.1 23 (eP e) = y → tF τ3 τ4 (B + k) (nkA K n (eP e)) (eP e) → PA τ4 (C ++ L) → szL C + 1 = eZ e → C.length ≤ szL C →
          ((C.map eP = [] ∧ x = -1 ∧ y = -1) ∨ (∃ q, C.map eP = [q] ∧ q < 200 ∧ x = nI q ∧ y = -1) ∨ (∃ q1 q2, C.map eP = [q1, q2] ∧ q1 < 200 ∧ q2 < 200 ∧ x = nI q1 ∧ y = nI q2 ∧ σ.2.1 24 q1 = nI z1)) →
          ((C = [] ∧ x = -1 ∧ y = -1 ∧ nkA K n (eP e) = 0 ∧ eZ e = 1 ∧ eH e = 1) ∨
            (∃ c q, C = [c] ∧ x = nI q ∧ q < 200 ∧ y = -1 ∧ (nkA K n (eP e) = 2 ∨ nkA K n (eP e) = 3 ∨ nkA K n (eP e) = 4) ∧ eR c = nI k ∧ eS c = 0 ∧ eD c = eD e + 1 ∧ eZ e = 1 + eZ c ∧ eH e = 1 + eH c ∧ 1 ≤ eZ c ∧ eB c < n ∧ ∃ t, TR K rk sd σ.2.1 (eA c) (eB c) (eP c) (eZ c) (eH c) t) ∨
            (∃ c1 c2 q1 q2, C = [c1, c2] ∧ x = nI q1 ∧ q1 < 200 ∧ y = nI q2 ∧ q2 < 200 ∧ nkA K n (eP e) = 1 ∧ z1 = eZ c1 ∧ eR c1 = nI k ∧ eS c1 = 0 ∧ eR c2 = nI k ∧ eS c2 = 1 ∧ eD c1 = eD e + 1 ∧ eD c2 = eD e + 1 ∧ eZ e = 1 + eZ c1 + eZ c2 ∧ eH e = 1 + max (eH c1) (eH c2) ∧ 1 ≤ eZ c1 ∧ 1 ≤ eZ c2 ∧ eB c1 < n ∧ eB c2 < n ∧ (∃ t, TR K rk sd σ.2.1 (eA c1) (eB c1) (eP c1) (eZ c1) (eH c1) t) ∧ ∃ t, TR K rk sd σ.2.1 (eA c2) (eB c2) (eP c2) (eZ c2) (eH c2) t)) →
          ∃ σ' τ' zz' dp', fx_loop1 CB (f1 + (m + 1) + 1) (nI k) σ = some ((), σ') ∧ fx_loop3 F_Md_grow_B20 (f2 + (m + 1) + 1) (nI s) (nI B) (nI k) τ = some (nI N, τ') ∧ NIv K rk sd n bk rg B N H [] N σ' τ' zz' dp' ∧ nF bk rg σ σ' ∧ gF B τ τ' := by
        intro C x y z1 hx hy ht hPA hsz hCl hch hC
        obtain ⟨σ1, b1, b2, b3, b4, b5, b6, b7, b8, b9⟩ := hST K O n pt rk sd V σ k (eP e) z1 (L.map eP) (C.map eP) (fx_loop1 CB (f1 + m + 1)) x y X hV i3 (by omega) i2 (by rw [List.length_map]; omega) (by rw [List.length_map, List.length_map]; omega) hpn hx hy hch
        have hop : τ.2.1 5 (eP e) = O (eP e) := (Y.2.2.2.1 (eP e) hpn).2
        have I' := n_one (x := x) (y := y) (z1 := z1) hbk hrg hg I hpn hN hd1 a6 a7 a8 a9 a10 a11 a12 a13 a4 a5 ht hop (hV' _ hpn) hPA b2 b3 b4 b5 b6 b7 hC
        have F1 : nF bk rg σ σ1 := ⟨b9, b6, b8⟩
        have G1 : gF B τ τ4 := by
          refine ⟨fun r hr => (ht.1 r hr).trans (a3 r hr), fun a ha => (ht.2.1 a (by omega)).trans (a4 a (by omega) (by omega) (by omega)), fun a i hi h1 h2 => ?_, fun a ha => (ht.2.2.2.2.2 a ha).trans (by rw [a5]), fun i hi => (ht.2.2.2.2.1 i (by omega)).trans (by rw [a5])⟩
          rcases (show a = 8 ∨ a = 9 ∨ a = 10 ∨ a = 11 ∨ a = 12 ∨ a = 13 by omega) with rfl | rfl | rfl | rfl | rfl | rfl
          · rw [ht.2.2.1 8 i (by omega) (by omega), a4 8 (by omega) (by omega) (by omega)]
          · rw [ht.2.2.1 9 i (by omega) (by omega), a4 9 (by omega) (by omega) (by omega)]
          · rw [ht.2.1 10 (by omega)]; exact a10 i (by omega) (fun j hj => by omega)
          · rw [ht.2.1 11 (by omega)]; exact a11 i (by omega) (fun j hj => by omega)
          · rw [ht.2.2.1 12 i (by omega) (by omega), a4 12 (by omega) (by omega) (by omega)]
          · rw [ht.2.1 13 (by omega)]; exact a7 i (by omega)
        obtain ⟨σ', τ', zz', dp', c1, c2, c3, c4, c5⟩ := ih (C ++ L) (k + 1) f1 f2 σ1 τ4 _ _ (by rw [szL_app]; omega) (cxC_n hbk hrg X F1) (cxR_fr Y (fun r hr => G1.1 r (by omega)) (fun a ha => G1.2.1 a (by omega))) (LN_fr hL ⟨G1.2.1 15 (by omega), G1.2.1 16 (by omega)⟩) (by rw [F1.2.2 11 (by omega)]; exact hV) (by rw [G1.2.2.2.1 6 (by omega)]; exact hV') I'
        refine ⟨σ', τ', zz', dp', ?_, ?_, c3, nF_tr F1 c4, gF_tr G1 c5⟩
        · rw [show f1 + (m + 1) + 1 = (f1 + m + 1) + 1 by omega, e_loop1, b1]; exact c1
        · rw [show f2 + (m + 1) + 1 = (f2 + m + 1) + 1 by omega, e_loop3, a1, e_bnd r1', e_bnd (e_pur _ _), nI_1]; exact c2
      rcases r2 with ⟨q1, q2, q3, q4, q5, rfl⟩ | ⟨kd, x1, y1, q, z1, h1, t, q1, q2, q3, q4, q5, q6, q7, q8, rfl⟩ | ⟨x1, y1, qa, z1, h1, t1, x2, y2, qb, z2, h2, t2, q1, q2, q3, q4, q5, q6, q7, q8, q9, rfl⟩
      · refine go [] (-1) (-1) 0 q4 q5 (by rw [q1]; exact tF_tl _ _ _ _) (PAt _ _) (by simp only [szL]; omega) (Nat.le_refl _) (Or.inl ⟨rfl, rfl, rfl⟩) (Or.inl ⟨rfl, rfl, rfl, q1, q2, q3⟩)
      · have io' := TR_io q3
        refine go [(q, x1, y1, nI k, 0, z1, h1, eD e + 1)] (nI q) (-1) 0 q7 q8 (by rw [q1]; exact tF_pr (tF_tl _ _ _ _) _ _ _ _ _) (PA_push (PAt _ _) (q, x1, y1, nI k, 0, z1, h1, eD e + 1)) (by simp only [szL, eZ]; simp only [eZ] at q5; omega) (by simp only [szL, eZ, List.length_cons, List.length_nil]; omega) (Or.inr (Or.inl ⟨q, rfl, by omega, rfl, rfl⟩)) (Or.inr (Or.inl ⟨(q, x1, y1, nI k, 0, z1, h1, eD e + 1), q, rfl, rfl, by omega, rfl, by rw [q1]; exact q2, rfl, rfl, rfl, q5, q6, io'.2.2.2.2.2.1, q4, t, q3⟩))
      · have ioa := TR_io q2
        have iob := TR_io q4
        refine go [(qa, x1, y1, nI k, 0, z1, h1, eD e + 1), (qb, x2, y2, nI k, 1, z2, h2, eD e + 1)] (nI qa) (nI qb) z1 q8 q9 (by rw [q1]; exact tF_pr (tF_pr (tF_tl _ _ _ _) _ _ _ _ _) _ _ _ _ _) (PA_push (PA_push (PAt _ _) (qb, x2, y2, nI k, 1, z2, h2, eD e + 1)) (qa, x1, y1, nI k, 0, z1, h1, eD e + 1)) (by simp only [szL, eZ]; simp only [eZ] at q6; omega) (by simp only [szL, eZ, List.length_cons, List.length_nil]; omega) (Or.inr (Or.inr ⟨qa, qb, rfl, by omega, by omega, rfl, rfl, (TR_nd q2).1⟩)) (Or.inr (Or.inr ⟨_, _, qa, qb, rfl, rfl, by omega, rfl, by omega, q1, rfl, rfl, rfl, rfl, rfl, rfl, rfl, q6, q7, ioa.2.2.2.2.2.1, iob.2.2.2.2.2.1, q3, q5, ⟨t1, q2⟩, t2, q4⟩))
/-- what both have when all is numbered -/
def TRE (bk B N : Nat) (σ τ : fx_S) : Prop := (∀ k, k < N → τ.2.1 8 (B + k) = σ.2.1 bk k ∧ τ.2.1 9 (B + k) = σ.2.1 (bk + 1) k ∧ τ.2.1 10 (B + k) = σ.2.1 (bk + 2) k ∧ τ.2.1 11 (B + k) = σ.2.1 (bk + 3) k ∧ τ.2.1 12 (B + k) = σ.2.1 (bk + 4) k ∧ τ.2.2 14 (B + k) = σ.2.2 (bk + 5) k) ∧ ptA (σ.2.1 bk) (σ.2.1 (bk + 1)) (σ.2.1 (bk + 2)) (σ.2.1 (bk + 3)) (σ.2.2 (bk + 5)) N
theorem NIv_end {σ τ : fx_S} {zz dp : Nat → Nat} (hN : 0 < N) (I : NIv K rk sd n bk rg B N H [] N σ τ zz dp) : TRE bk B N σ τ ∧ σ.1 rg = nI N ∧ mxN dp N = H ∧ (∀ i, i < N → τ.2.1 13 (B + i) = nI (dp i)) := by
  obtain ⟨i1, i2, i3, i4, i5, i6, i7, i8, i9, i10, i11⟩ := I
  have sl : ∀ {bank : Nat} {side : Int32} {i x z : Nat}, slA τ B N [] zz bank side i x z → x < N ∧ zz x = z ∧ τ.2.1 bank (B + i) = nI x := by
    rintro bank side i x z (h | ⟨e, h, -⟩)
    · exact h
    · exact h.elim
  refine ⟨⟨fun k hk => ?_, Or.inr ⟨zz, i11 hN, fun k hk => ?_⟩⟩, i3, by rw [← i9]; simp [mxL], fun i hi => (i8 i hi).1⟩
  · obtain ⟨n1, ⟨n2, n3, n4, n5⟩, n6⟩ := i7 k hk
    refine ⟨n2, n3, ?_, ?_, n4, n5⟩
    · rcases n6 with ⟨m1, m2, m3, m4, m5, m6, m7⟩ | ⟨m1, m2, m3, ⟨m4, m5, m6, zc, m7, m8⟩ | ⟨m4, za, zb, m5, m6, m7, m8⟩⟩
      · rw [m3, m5]
      · rw [m3, (sl m7).2.2]
      · rw [m3, (sl m6).2.2]
    · rcases n6 with ⟨m1, m2, m3, m4, m5, m6, m7⟩ | ⟨m1, m2, m3, ⟨m4, m5, m6, zc, m7, m8⟩ | ⟨m4, za, zb, m5, m6, m7, m8⟩⟩
      · rw [m4, m6]
      · rw [m5, m6]
      · rw [m5, (sl m7).2.2]
  · obtain ⟨n1, -, n6⟩ := i7 k hk
    refine ⟨n1, ?_⟩
    rcases n6 with ⟨m1, m2, m3, m4, m5, m6, m7⟩ | ⟨m1, m2, m3, ⟨m4, m5, m6, zc, m7, m8⟩ | ⟨m4, za, zb, m5, m6, m7, m8⟩⟩
    · exact Or.inl ⟨m1, m2, m3, m4, m7⟩
    · obtain ⟨s1, s2, -⟩ := sl m7
      exact Or.inr ⟨m1, m2, m3, s1, Or.inl ⟨m4, m5, by rw [s2]; exact m8⟩⟩
    · obtain ⟨s1, s2, -⟩ := sl m6
      obtain ⟨s3, s4, -⟩ := sl m7
      exact Or.inr ⟨m1, m2, m3, s1, Or.inr ⟨m4, by rw [s2]; exact m5, by rw [s2]; exact s3, by rw [s2, s4]; exact m8⟩⟩
end NLOOP2
/-! NUMBERINTO AND GROW -/
section INTO
variable {K O : Nat → Int32} {V : Nat → Int64} {n : Nat} {pt : Int32} {rk sd : Nat → Nat} {s : Nat}
theorem m_grow {B p z h : Nat} {ts : List Nat} {T : Nat → Nat → Int32} {τ : fx_S} (Y : cxR K O n pt rk sd s τ) (hn0 : 0 < n) : ∃ τ0, F_Md_grow (nI s) (nI B) τ = fx_loop3 F_Md_grow_B20 fx_fuel (nI s) (nI B) (nI 0) τ0 ∧ PA τ0 [(p, 0, n - 1, -1, 0, z, h, 1)] ∧ (∀ r, r ≠ 38 → τ0.1 r = τ.1 r) ∧ (∀ a, a < 19 ∨ 22 < a → τ0.2.1 a = τ.2.1 a) ∧ τ0.2.2 = τ.2.2 := by
  have hn := Y.1
  let τ1 : fx_S := (va_up τ.1 38 0, τ.2.1, τ.2.2)
  have h38 : τ1.1 38 = nI 0 := rfl
  have h5 : τ1.1 5 = nI n := Y.2.1
  refine ⟨prS τ1 0 (nI 0) (nI (n - 1)) (-1) 0, ?_, ⟨rfl, fun i e he => ?_⟩, fun r hr => ?_, fun a ha => ?_, rfl⟩
  · rw [F_Md_grow, e_bnd (e_pI _ _ _), e_bnd (e_gI _ _)]
    show fx_bnd (F_Md_part 0 (τ1.1 5 - 1) (-1) 0) _ τ1 = _
    rw [h5, q_s1 hn0, e_bnd (m_part h38 (by omega) _ _ _ _)]
    rfl
  · have := PA_push (τ := τ1) (L := []) ⟨rfl, fun i e he => by simp at he⟩ (p, 0, n - 1, -1, 0, z, h, 1)
    exact this.2 i e he
  · show va_up (va_up τ.1 38 _) 38 _ r = _
    rw [va_up_ne _ _ hr, va_up_ne _ _ hr]
  · show va_up (va_up (va_up (va_up τ.2.1 19 _) 20 _) 21 _) 22 _ a = _
    rw [va_up_ne _ _ (by omega), va_up_ne _ _ (by omega), va_up_ne _ _ (by omega), va_up_ne _ _ (by omega)]
theorem n_end0 : ∀ k38 (k : Nat) σ, k ≤ 200 → SK (σ.1 321) (σ.2.1 21) [] → F_Resolver_numberInto_Tree0_B38 k38 (nI k) σ = some ((), σ) := by
  intro k38 k σ hk hS
  have ez : F_IntStack3_size σ = some (nI 0, σ) := by
    rw [F_IntStack3_size, e_bnd (e_gI _ _), hS.1]; rfl
  rw [F_Resolver_numberInto_Tree0_B38]
  by_cases q : k = 200
  · rw [e_if (by rw [q_200le (by omega)]; omega)]; rfl
  · rw [e_el (by rw [q_200le (by omega)]; omega), e_bnd ez, e_if (by decide)]; rfl
theorem n_into0 {B p z h : Nat} {ts : List Nat} {σ τ : fx_S} (hB : B ≤ 200) (X : cxC K O n pt rk sd σ) (Y : cxR K O n pt rk sd s τ) (hL : LN K n τ) (hg : gr K O V n) (hV : σ.2.2 11 = V) (hV' : ∀ j, j < n → τ.2.2 6 j = V j) (hn0 : 0 < n) (hT : TR K rk sd σ.2.1 0 (n - 1) p z h ts) (hQ : SK (σ.1 289) (σ.2.1 19) [p]) :
    ∃ σ' τ' dp, F_Resolver_numberInto_Tree0 σ = some ((), σ') ∧ F_Md_grow (nI s) (nI B) τ = some (nI z, τ') ∧ 0 < z ∧ z ≤ 200 ∧ h ≤ 200 ∧ TRE 27 B z σ' τ' ∧ σ'.1 422 = nI z ∧ σ'.1 423 = nI h ∧ mxN dp z = h ∧ (∀ i, i < z → τ'.2.1 13 (B + i) = nI (dp i)) ∧ ((∀ r, r ≠ 321 → r ≠ 422 → r ≠ 423 → σ'.1 r = σ.1 r) ∧ (∀ a, a ≠ 21 → a < 27 ∨ 27 + 4 < a → σ'.2.1 a = σ.2.1 a) ∧ (∀ a, a ≠ 27 + 5 → σ'.2.2 a = σ.2.2 a)) ∧ gF B τ τ' := by
  have hn := X.1
  have io := TR_io hT
  have nd := TR_nd hT
  let σ1 : fx_S := (va_up (va_up (va_up (va_up σ.1 422 0) 423 0) 423 (nI h)) 321 0, σ.2.1, σ.2.2)
  let σ2 : fx_S := (va_up σ1.1 321 (nI 1), va_up σ1.2.1 21 (upd (σ1.2.1 21) 0 (nI p)), σ1.2.2)
  have X2 : cxC K O n pt rk sd σ2 := X
  have T2 : TR K rk sd σ2.2.1 0 (n - 1) p z h ts := TR_cg (T := σ.2.1) (T' := σ2.2.1) (fun i _ _ => ⟨rfl, rfl, rfl, rfl⟩) hT
  have e1 : F_Tree0_clear σ = some ((), (va_up (va_up σ.1 422 0) 423 0, σ.2.1, σ.2.2)) := rfl
  have hQ1 : SK ((va_up (va_up σ.1 422 0) 423 0) 289) (σ.2.1 19) [p] := hQ
  have e3 : F_Resolver_heightOf (nI p) (va_up (va_up σ.1 422 0) 423 0, σ.2.1, σ.2.2) = some (nI h, (va_up (va_up σ.1 422 0) 423 0, σ.2.1, σ.2.2)) := by
    rw [c_height (by omega)]
    show some (σ.2.1 25 p, _) = _
    rw [nd.2]
  have e4 : F_IntStack3_push (nI p) σ1 = some ((), σ2) := k_push3 (l := []) (σ := σ1) SK_nil (by simp) p
  have hC : F_Resolver_numberInto_Tree0 σ = fx_loop1 F_Resolver_numberInto_Tree0_B38 fx_fuel (nI 0) σ2 := by
    rw [F_Resolver_numberInto_Tree0, e_bnd e1]
    refine (e_bnd (k_top2 (σ := (va_up (va_up σ.1 422 0) 423 0, σ.2.1, σ.2.2)) (l := []) hQ1 (by simp))).trans ?_
    refine (e_bnd e3).trans ?_
    have e5 : F_Tree0_setHeight (nI h) (va_up (va_up σ.1 422 0) 423 0, σ.2.1, σ.2.2) = some ((), (va_up (va_up (va_up σ.1 422 0) 423 0) 423 (nI h), σ.2.1, σ.2.2)) := rfl
    have e6 : F_IntStack3_clear (va_up (va_up (va_up σ.1 422 0) 423 0) 423 (nI h), σ.2.1, σ.2.2) = some ((), σ1) := rfl
    rw [e_bnd e5, e_bnd e6, e_bnd e4]
    rfl
  obtain ⟨τ0, g1, g2, g3, g4, g5⟩ := m_grow (B := B) (p := p) (z := z) (h := h) (ts := ts) (T := σ.2.1) Y hn0
  have I : NIv K rk sd n 27 422 B z h [(p, 0, n - 1, -1, 0, z, h, 1)] 0 σ2 τ0 (fun _ => 0) (fun _ => 0) := by
    refine ⟨by simp only [szL, eZ]; omega, SK_push (l := []) SK_nil p, rfl, g2, fun e he => ?_, List.pairwise_cons.mpr ⟨fun x hx => by simp at hx, List.Pairwise.nil⟩, fun i hi => by omega, fun i hi => by omega, ?_, fun _ => ⟨_, rfl, rfl⟩, fun h => by omega⟩
    · rw [List.mem_singleton.mp he]
      exact ⟨⟨ts, T2⟩, show n - 1 < n by omega, Or.inl ⟨rfl, rfl⟩⟩
    · simp [mxN, mxL, eD, eH]
  obtain ⟨σ', τ', zz', dp', a1, a2, a3, a4, a5⟩ := n_loop (s := s) (pt := pt) (O := O) (by omega) (by omega) hB n_step0 n_end0 hg (by omega) (fun j hj hk => by
    obtain ⟨o, -, -, -, -, h1, h2, -⟩ := X.2.2.2.2.2.2.2 j hj hk
    exact ⟨h1, h2⟩) z [(p, 0, n - 1, -1, 0, z, h, 1)] 0 (fx_fuel - z - 1) (fx_fuel - z - 1) σ2 τ0 _ _ (by simp only [szL, eZ]; omega) X2 (cxR_fr Y (fun r hr => g3 r (by omega)) (fun a ha => g4 a (by omega))) (LN_fr hL ⟨g4 15 (by omega), g4 16 (by omega)⟩) hV (by rw [g5]; exact hV') I
  rw [show fx_fuel - z - 1 + z + 1 = fx_fuel by unfold fx_fuel; omega] at a1 a2
  obtain ⟨b1, b2, b3, b4⟩ := NIv_end (by omega) a3
  refine ⟨σ', τ', dp', by rw [hC]; exact a1, by rw [g1]; exact a2, by omega, by omega, by omega, b1, b2, ?_, b3, b4, ⟨fun r h1 h2 h3 => ?_, fun a h1 h2 => ?_, fun a ha => a4.2.2 a ha⟩, gF_tr ⟨g3, fun a ha => g4 a (by omega), fun a i hi h1 h2 => by rw [g4 a (by omega)], fun a ha => by rw [g5], fun i hi => by rw [g5]⟩ a5⟩
  · rw [a4.1 423 (by omega) (by omega)]; rfl
  · rw [a4.1 r h1 h2]
    show va_up (va_up (va_up (va_up (va_up σ.1 422 0) 423 0) 423 (nI h)) 321 0) 321 (nI 1) r = _
    rw [va_up_ne _ _ h1, va_up_ne _ _ h1, va_up_ne _ _ h3, va_up_ne _ _ h3, va_up_ne _ _ h2]
  · rw [a4.2.1 a h1 h2]
    exact va_up_ne _ _ h1
theorem n_end1 : ∀ k38 (k : Nat) σ, k ≤ 200 → SK (σ.1 321) (σ.2.1 21) [] → F_Resolver_numberInto_Tree1_B38 k38 (nI k) σ = some ((), σ) := by
  intro k38 k σ hk hS
  have ez : F_IntStack3_size σ = some (nI 0, σ) := by
    rw [F_IntStack3_size, e_bnd (e_gI _ _), hS.1]; rfl
  rw [F_Resolver_numberInto_Tree1_B38]
  by_cases q : k = 200
  · rw [e_if (by rw [q_200le (by omega)]; omega)]; rfl
  · rw [e_el (by rw [q_200le (by omega)]; omega), e_bnd ez, e_if (by decide)]; rfl
theorem n_into1 {B p z h : Nat} {ts : List Nat} {σ τ : fx_S} (hB : B ≤ 200) (X : cxC K O n pt rk sd σ) (Y : cxR K O n pt rk sd s τ) (hL : LN K n τ) (hg : gr K O V n) (hV : σ.2.2 11 = V) (hV' : ∀ j, j < n → τ.2.2 6 j = V j) (hn0 : 0 < n) (hT : TR K rk sd σ.2.1 0 (n - 1) p z h ts) (hQ : SK (σ.1 289) (σ.2.1 19) [p]) :
    ∃ σ' τ' dp, F_Resolver_numberInto_Tree1 σ = some ((), σ') ∧ F_Md_grow (nI s) (nI B) τ = some (nI z, τ') ∧ 0 < z ∧ z ≤ 200 ∧ h ≤ 200 ∧ TRE 34 B z σ' τ' ∧ σ'.1 534 = nI z ∧ σ'.1 535 = nI h ∧ mxN dp z = h ∧ (∀ i, i < z → τ'.2.1 13 (B + i) = nI (dp i)) ∧ ((∀ r, r ≠ 321 → r ≠ 534 → r ≠ 535 → σ'.1 r = σ.1 r) ∧ (∀ a, a ≠ 21 → a < 34 ∨ 34 + 4 < a → σ'.2.1 a = σ.2.1 a) ∧ (∀ a, a ≠ 34 + 5 → σ'.2.2 a = σ.2.2 a)) ∧ gF B τ τ' := by
  have hn := X.1
  have io := TR_io hT
  have nd := TR_nd hT
  let σ1 : fx_S := (va_up (va_up (va_up (va_up σ.1 534 0) 535 0) 535 (nI h)) 321 0, σ.2.1, σ.2.2)
  let σ2 : fx_S := (va_up σ1.1 321 (nI 1), va_up σ1.2.1 21 (upd (σ1.2.1 21) 0 (nI p)), σ1.2.2)
  have X2 : cxC K O n pt rk sd σ2 := X
  have T2 : TR K rk sd σ2.2.1 0 (n - 1) p z h ts := TR_cg (T := σ.2.1) (T' := σ2.2.1) (fun i _ _ => ⟨rfl, rfl, rfl, rfl⟩) hT
  have e1 : F_Tree1_clear σ = some ((), (va_up (va_up σ.1 534 0) 535 0, σ.2.1, σ.2.2)) := rfl
  have hQ1 : SK ((va_up (va_up σ.1 534 0) 535 0) 289) (σ.2.1 19) [p] := hQ
  have e3 : F_Resolver_heightOf (nI p) (va_up (va_up σ.1 534 0) 535 0, σ.2.1, σ.2.2) = some (nI h, (va_up (va_up σ.1 534 0) 535 0, σ.2.1, σ.2.2)) := by
    rw [c_height (by omega)]
    show some (σ.2.1 25 p, _) = _
    rw [nd.2]
  have e4 : F_IntStack3_push (nI p) σ1 = some ((), σ2) := k_push3 (l := []) (σ := σ1) SK_nil (by simp) p
  have hC : F_Resolver_numberInto_Tree1 σ = fx_loop1 F_Resolver_numberInto_Tree1_B38 fx_fuel (nI 0) σ2 := by
    rw [F_Resolver_numberInto_Tree1, e_bnd e1]
    refine (e_bnd (k_top2 (σ := (va_up (va_up σ.1 534 0) 535 0, σ.2.1, σ.2.2)) (l := []) hQ1 (by simp))).trans ?_
    refine (e_bnd e3).trans ?_
    have e5 : F_Tree1_setHeight (nI h) (va_up (va_up σ.1 534 0) 535 0, σ.2.1, σ.2.2) = some ((), (va_up (va_up (va_up σ.1 534 0) 535 0) 535 (nI h), σ.2.1, σ.2.2)) := rfl
    have e6 : F_IntStack3_clear (va_up (va_up (va_up σ.1 534 0) 535 0) 535 (nI h), σ.2.1, σ.2.2) = some ((), σ1) := rfl
    rw [e_bnd e5, e_bnd e6, e_bnd e4]
    rfl
  obtain ⟨τ0, g1, g2, g3, g4, g5⟩ := m_grow (B := B) (p := p) (z := z) (h := h) (ts := ts) (T := σ.2.1) Y hn0
  have I : NIv K rk sd n 34 534 B z h [(p, 0, n - 1, -1, 0, z, h, 1)] 0 σ2 τ0 (fun _ => 0) (fun _ => 0) := by
    refine ⟨by simp only [szL, eZ]; omega, SK_push (l := []) SK_nil p, rfl, g2, fun e he => ?_, List.pairwise_cons.mpr ⟨fun x hx => by simp at hx, List.Pairwise.nil⟩, fun i hi => by omega, fun i hi => by omega, ?_, fun _ => ⟨_, rfl, rfl⟩, fun h => by omega⟩
    · rw [List.mem_singleton.mp he]
      exact ⟨⟨ts, T2⟩, show n - 1 < n by omega, Or.inl ⟨rfl, rfl⟩⟩
    · simp [mxN, mxL, eD, eH]
  obtain ⟨σ', τ', zz', dp', a1, a2, a3, a4, a5⟩ := n_loop (s := s) (pt := pt) (O := O) (by omega) (by omega) hB n_step1 n_end1 hg (by omega) (fun j hj hk => by
    obtain ⟨o, -, -, -, -, h1, h2, -⟩ := X.2.2.2.2.2.2.2 j hj hk
    exact ⟨h1, h2⟩) z [(p, 0, n - 1, -1, 0, z, h, 1)] 0 (fx_fuel - z - 1) (fx_fuel - z - 1) σ2 τ0 _ _ (by simp only [szL, eZ]; omega) X2 (cxR_fr Y (fun r hr => g3 r (by omega)) (fun a ha => g4 a (by omega))) (LN_fr hL ⟨g4 15 (by omega), g4 16 (by omega)⟩) hV (by rw [g5]; exact hV') I
  rw [show fx_fuel - z - 1 + z + 1 = fx_fuel by unfold fx_fuel; omega] at a1 a2
  obtain ⟨b1, b2, b3, b4⟩ := NIv_end (by omega) a3
  refine ⟨σ', τ', dp', by rw [hC]; exact a1, by rw [g1]; exact a2, by omega, by omega, by omega, b1, b2, ?_, b3, b4, ⟨fun r h1 h2 h3 => ?_, fun a h1 h2 => ?_, fun a ha => a4.2.2 a ha⟩, gF_tr ⟨g3, fun a ha => g4 a (by omega), fun a i hi h1 h2 => by rw [g4 a (by omega)], fun a ha => by rw [g5], fun i hi => by rw [g5]⟩ a5⟩
  · rw [a4.1 535 (by omega) (by omega)]; rfl
  · rw [a4.1 r h1 h2]
    show va_up (va_up (va_up (va_up (va_up σ.1 534 0) 535 0) 535 (nI h)) 321 0) 321 (nI 1) r = _
    rw [va_up_ne _ _ h1, va_up_ne _ _ h1, va_up_ne _ _ h3, va_up_ne _ _ h3, va_up_ne _ _ h2]
  · rw [a4.2.1 a h1 h2]
    exact va_up_ne _ _ h1
end INTO
