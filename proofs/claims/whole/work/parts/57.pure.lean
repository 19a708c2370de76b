/-! THE REFERENCE WRITES -/
abbrev dE : Type := Int32 × Nat
def DA (τ : fx_S) (D : List dE) : Prop := τ.1 47 = nI D.length ∧ ∀ i e, D.reverse[i]? = some e → τ.2.1 27 i = e.1 ∧ τ.2.1 28 i = nI e.2
def wF (τ τ' : fx_S) : Prop := (∀ r, r ≠ 40 → r ≠ 47 → τ'.1 r = τ.1 r) ∧ (∀ a, a < 23 ∨ 28 < a → τ'.2.1 a = τ.2.1 a) ∧ (∀ a, a ≠ 26 → τ'.2.2 a = τ.2.2 a)
theorem wF_rfl {τ : fx_S} : wF τ τ := ⟨fun _ _ _ => rfl, fun _ _ => rfl, fun _ _ => rfl⟩
theorem wF_tr {σ σ' σ'' : fx_S} (h : wF σ σ') (g : wF σ' σ'') : wF σ σ'' := ⟨fun r a b => (g.1 r a b).trans (h.1 r a b), fun a q => (g.2.1 a q).trans (h.2.1 a q), fun a q => (g.2.2 a q).trans (h.2.2 a q)⟩
/-- what the reference reads while it writes -/
def cxW (K O F G : Nat → Int32) (V : Nat → Int64) (n s : Nat) (df kf : Nat → Nat) (τ : fx_S) : Prop := (∀ k, k < n → τ.2.1 8 k = K k ∧ τ.2.1 9 k = O k ∧ τ.2.1 10 k = F k ∧ τ.2.1 11 k = G k ∧ τ.2.2 14 k = V k) ∧ ∃ (σ0 : fx_S) (nn : Nat), RSn σ0 τ nn ∧ s < nn ∧ fxT s df kf σ0 τ
theorem cxW_fr {K O F G : Nat → Int32} {V : Nat → Int64} {n s : Nat} {df kf : Nat → Nat} {τ τ' : fx_S} (h : cxW K O F G V n s df kf τ) (g : wF τ τ') : cxW K O F G V n s df kf τ' := by
  obtain ⟨h1, σ0, nn, h2, h3, h4⟩ := h
  have e : kS' τ' = kS' τ := by
    simp only [kS']
    rw [g.1 1 (by omega) (by omega), g.2.1 1 (by omega), g.2.1 2 (by omega), g.2.1 3 (by omega)]
  refine ⟨?_, σ0, nn, RSn_cg h2 rfl e, h3, fxT_cg h2 h3 h4 rfl e⟩
  rw [g.2.1 8 (by omega), g.2.1 9 (by omega), g.2.1 10 (by omega), g.2.1 11 (by omega), g.2.2 14 (by omega)]
  exact h1
/-- what is written ahead of i -/
def WR (K O : Nat → Int32) (V : Nat → Int64) (ow : Nat → Nat × Nat) (τ : fx_S) (i : Nat) : Prop := τ.1 40 = nI i ∧ ∀ j, j < i → τ.2.1 23 j = iK K ow j ∧ τ.2.1 24 j = iO O ow j ∧ τ.2.1 25 j = nI (ow j).1 ∧ τ.2.2 26 j = iV V ow j
theorem w_due {τ : fx_S} {D : List dE} (h : DA τ D) (hl : D.length < 900) (kd : Int32) (c : Nat) : ∃ τ', F_Md_due kd (nI c) τ = some ((), τ') ∧ DA τ' ((kd, c) :: D) ∧ wF τ τ' ∧ τ'.1 40 = τ.1 40 ∧ (∀ a, a < 27 → τ'.2.1 a = τ.2.1 a) ∧ τ'.2.2 = τ.2.2 := by
  have hz := h.1
  refine ⟨(va_up τ.1 47 (nI (D.length + 1)), va_up (va_up τ.2.1 27 (upd (τ.2.1 27) D.length kd)) 28 (upd (τ.2.1 28) D.length (nI c)), τ.2.2), ?_, ⟨rfl, fun i e he => ?_⟩, ⟨fun r h1 h2 => va_up_ne _ _ h2, fun a ha => ?_, fun _ _ => rfl⟩, rfl, fun a ha => ?_, rfl⟩
  · rw [F_Md_due, e_bnd (e_gI _ _), hz, e_bnd (e_sA hl (by omega)), e_bnd (e_gI _ _)]
    refine (?_ : fx_bnd (s_Md_dueNode (τ.1 47) (nI c)) _ _ = _)
    rw [hz, e_bnd (e_sA hl (by omega)), e_bnd (e_gI _ _)]
    refine (?_ : fx_bnd (fx_pI 47 (τ.1 47 + 1)) _ _ = _)
    rw [hz, nI_1]; rfl
  · show upd (τ.2.1 27) D.length kd i = _ ∧ upd (τ.2.1 28) D.length (nI c) i = _
    rcases rev_hdG he with ⟨rfl, rfl⟩ | ⟨h5, h6⟩
    · rw [q_us, q_us]; exact ⟨rfl, rfl⟩
    · rw [q_un _ _ (by omega), q_un _ _ (by omega)]; exact h.2 i e h6
  · show va_up (va_up τ.2.1 27 _) 28 _ a = _
    rw [va_up_ne _ _ (by omega), va_up_ne _ _ (by omega)]
  · show va_up (va_up τ.2.1 27 _) 28 _ a = _
    rw [va_up_ne _ _ (by omega), va_up_ne _ _ (by omega)]
theorem WR_due {K O : Nat → Int32} {V : Nat → Int64} {ow : Nat → Nat × Nat} {τ τ' : fx_S} {i : Nat} (h : WR K O V ow τ i) (h1 : τ'.1 40 = τ.1 40) (h2 : ∀ a, a < 27 → τ'.2.1 a = τ.2.1 a) (h3 : τ'.2.2 = τ.2.2) : WR K O V ow τ' i := by
  unfold WR at *
  rw [h1, h2 23 (by omega), h2 24 (by omega), h2 25 (by omega), h3]; exact h
theorem w_put {K O : Nat → Int32} {V : Nat → Int64} {ow : Nat → Nat × Nat} {τ : fx_S} {D : List dE} {i k : Nat} {kd : Int32} (h : WR K O V ow τ i) (hD : DA τ D) (hi : i < 800) (hk : k < 400) (e1 : kd = iK K ow i) (e2 : (if kd = 1 ∨ kd = 2 then τ.2.1 9 k else -1) = iO O ow i) (e3 : (ow i).1 = k) (e4 : τ.2.2 14 k = iV V ow i) : ∃ τ', F_Md_put kd (nI k) τ = some ((), τ') ∧ WR K O V ow τ' (i + 1) ∧ DA τ' D ∧ wF τ τ' := by
  have hz := h.1
  obtain ⟨o, ho⟩ : ∃ o : Int32, o = if kd = 1 ∨ kd = 2 then τ.2.1 9 k else -1 := ⟨_, rfl⟩
  refine ⟨(va_up τ.1 40 (nI (i + 1)), va_up (va_up (va_up τ.2.1 23 (upd (τ.2.1 23) i kd)) 24 (upd (τ.2.1 24) i o)) 25 (upd (τ.2.1 25) i (nI k)), va_up τ.2.2 26 (vp_updL (τ.2.2 26) i (τ.2.2 14 k))), ?_, ⟨rfl, fun j hj => ?_⟩, ⟨hD.1, hD.2⟩, ⟨fun r h1 h2 => va_up_ne _ _ h1, fun a ha => ?_, fun a ha => va_up_ne _ _ ha⟩⟩
  · let τ1 : fx_S := (τ.1, va_up τ.2.1 23 (upd (τ.2.1 23) i kd), τ.2.2)
    have J38 : F_Md_put_J38 (nI k) o (nI i) τ1 = some ((), (va_up τ.1 40 (nI (i + 1)), va_up (va_up (va_up τ.2.1 23 (upd (τ.2.1 23) i kd)) 24 (upd (τ.2.1 24) i o)) 25 (upd (τ.2.1 25) i (nI k)), va_up τ.2.2 26 (vp_updL (τ.2.2 26) i (τ.2.2 14 k)))) := by
      rw [F_Md_put_J38, e_bnd (e_sA hi (by omega)), e_bnd (e_gI _ _)]
      refine (?_ : fx_bnd (s_Md_wroteNode (τ.1 40) (nI k)) _ _ = _)
      rw [hz, e_bnd (e_sA hi (by omega)), e_bnd (e_gI _ _)]
      refine (?_ : fx_bnd (l_Md_nodeNumber (nI k)) _ _ = _)
      rw [e_bnd (e_lL hk (by omega))]
      refine (?_ : fx_bnd (s_Md_wroteNumber (τ.1 40) (τ.2.2 14 k)) _ _ = _)
      rw [hz, e_bnd (e_sL hi (by omega)), e_bnd (e_gI _ _)]
      refine (?_ : fx_bnd (fx_pI 40 (τ.1 40 + 1)) _ _ = _)
      rw [hz, nI_1]; rfl
    have J28 : (kd = 1 ∨ kd = 2) → F_Md_put_J28 (nI k) (nI i) τ1 = F_Md_put_J38 (nI k) o (nI i) τ1 := fun q => by
      rw [if_pos q] at ho
      rw [F_Md_put_J28, e_bnd (e_lA hk (by omega)), ho]; rfl
    rw [F_Md_put, e_bnd (e_gI _ _), hz, e_bnd (e_sA hi (by omega)), e_bnd (e_gI _ _)]
    refine (?_ : (if kd = 1 then F_Md_put_J28 (nI k) (τ.1 40) else if kd = 2 then F_Md_put_J28 (nI k) (τ.1 40) else F_Md_put_J38 (nI k) (-1) (τ.1 40)) τ1 = _)
    rw [hz, ← J38]
    by_cases q1 : kd = 1
    · rw [e_if q1, J28 (Or.inl q1)]
    · by_cases q2 : kd = 2
      · rw [e_el q1, e_if q2, J28 (Or.inr q2)]
      · rw [if_neg (by rintro (z | z); exact q1 z; exact q2 z)] at ho
        rw [e_el q1, e_el q2, ho]
  · show upd (τ.2.1 23) i kd j = _ ∧ upd (τ.2.1 24) i o j = _ ∧ upd (τ.2.1 25) i (nI k) j = _ ∧ vp_updL (τ.2.2 26) i (τ.2.2 14 k) j = _
    by_cases e : j = i
    · subst e
      rw [q_us, q_us, q_us, q_usL, e3, ho]
      exact ⟨e1, e2, rfl, e4⟩
    · rw [q_un _ _ e, q_un _ _ e, q_un _ _ e, q_unL _ _ e]; exact h.2 j (by omega)
  · show va_up (va_up (va_up τ.2.1 23 _) 24 _) 25 _ a = _
    rw [va_up_ne _ _ (by omega), va_up_ne _ _ (by omega), va_up_ne _ _ (by omega)]
/-- how far the loop has gone -/
def STW (s : Nat) (τ τ' : fx_S) (c : Nat) : Prop := ∀ f, fx_loop1 F_Md_write_B55 (f + c) (nI s) τ = fx_loop1 F_Md_write_B55 f (nI s) τ'
theorem STW_tr {s : Nat} {τ τ' τ'' : fx_S} {c c' : Nat} (h : STW s τ τ' c) (g : STW s τ' τ'' c') : STW s τ τ'' (c + c') := fun f => by
  rw [show f + (c + c') = (f + c') + c by omega, h, g]
/-- the newest due is taken -/
theorem w_take {τ : fx_S} {kd : Int32} {k : Nat} {D : List dE} (h : DA τ ((kd, k) :: D)) (hl : D.length < 900) (k55 : Int32 → fx_M Int32) (v : Int32) : F_Md_write_B55 k55 v τ = (if 10 ≤ kd then (if kd = 11 then F_Md_write_J126 k55 v (nI k) v else (fx_bnd (l_Md_nodeKind (nI k)) fun x11 => if x11 < 3 then F_Md_write_J131 k55 v 0 (nI k) v else F_Md_write_J126 k55 v (nI k) v)) else (fx_bnd (F_Md_put kd (nI k)) fun _ => F_Md_write_J134 k55 v)) (va_up τ.1 47 (nI D.length), τ.2.1, τ.2.2) ∧ DA (va_up τ.1 47 (nI D.length), τ.2.1, τ.2.2) D := by
  have hz := h.1
  rw [List.length_cons] at hz
  obtain ⟨p1, p2⟩ := h.2 D.length (kd, k) rev_hdG'
  refine ⟨?_, rfl, fun i e he => h.2 i e (rev_tlG he)⟩
  let τ1 : fx_S := (va_up τ.1 47 (nI D.length), τ.2.1, τ.2.2)
  have z1 : τ1.1 47 = nI D.length := rfl
  have q1 : l_Md_dueKind (nI D.length) τ1 = some (kd, τ1) := by
    rw [l_Md_dueKind, e_lA hl (by omega)]
    show some (τ.2.1 27 D.length, τ1) = _
    rw [p1]
  have q2 : l_Md_dueNode (nI D.length) τ1 = some (nI k, τ1) := by
    rw [l_Md_dueNode, e_lA hl (by omega)]
    show some (τ.2.1 28 D.length, τ1) = _
    rw [p2]
  rw [F_Md_write_B55, e_bnd (e_gI _ _), hz, e_el (by rw [q_le0 (by omega)]; omega), e_bnd (e_gI _ _), hz, q_s1 (by omega), Nat.add_sub_cancel, e_bnd (e_pI _ _ _)]
  refine (?_ : fx_bnd g_Md_dues _ τ1 = _)
  rw [e_bnd (e_gI _ _), z1, e_bnd q1, e_bnd (e_gI _ _), z1, e_bnd q2]
theorem wF_47 (τ : fx_S) (v : Int32) : wF τ (va_up τ.1 47 v, τ.2.1, τ.2.2) := ⟨fun r _ h => va_up_ne _ _ h, fun _ _ => rfl, fun _ _ => rfl⟩
/-- an item of its own is due -/
theorem w_item {K O : Nat → Int32} {V : Nat → Int64} {ow : Nat → Nat × Nat} {s : Nat} {τ : fx_S} {D : List dE} {i k : Nat} {kd : Int32} (hkd : ¬ 10 ≤ kd) (h : WR K O V ow τ i) (hD : DA τ ((kd, k) :: D)) (hl : D.length < 900) (hi : i < 800) (hk : k < 400) (e1 : kd = iK K ow i) (e2 : (if kd = 1 ∨ kd = 2 then τ.2.1 9 k else -1) = iO O ow i) (e3 : (ow i).1 = k) (e4 : τ.2.2 14 k = iV V ow i) : ∃ τ', STW s τ τ' 1 ∧ WR K O V ow τ' (i + 1) ∧ DA τ' D ∧ wF τ τ' := by
  obtain ⟨-, D1⟩ := w_take hD hl (fun _ => fx_ret 0) 0
  obtain ⟨τ', a1, a2, a3, a4⟩ := w_put (τ := (va_up τ.1 47 (nI D.length), τ.2.1, τ.2.2)) (D := D) ⟨h.1, h.2⟩ D1 hi hk e1 e2 e3 e4
  refine ⟨τ', fun f => ?_, a2, a3, wF_tr (wF_47 τ _) a4⟩
  rw [e_loop1, (w_take hD hl _ _).1, e_el hkd, e_bnd a1]; rfl
/-! THE REFERENCE WRITES A NODE -/
def rN (O : Nat → Int32) (kf : Nat → Nat) (k : Nat) : Nat := kf (O k).toNatClampNeg
/-- the hand of a child -/
def hdC (K : Nat → Int32) (k g : Nat) : Nat := if g = 1 then 1 else if K k = 1 ∨ K k = 3 then 0 else 1
/-- whether c fits as k's child g without brackets -/
def ftA (K O : Nat → Int32) (df kf : Nat → Nat) (k g c : Nat) : Prop := rN O kf k < rN O kf c ∨ (rN O kf c = rN O kf k ∧ rN O df c = hdC K k g ∧ rN O df k = hdC K k g)
def dkA (K : Nat → Int32) (br : Nat → Nat) (c : Nat) : Int32 := if (K c = 1 ∨ K c = 2) ∧ br c = 1 then 11 else 10
section WNODE
variable {K O F G : Nat → Int32} {V : Nat → Int64} {sz : Nat → Nat} {n s : Nat} {df kf br w st : Nat → Nat} {ow : Nat → Nat × Nat}
theorem pt_op (h : ∀ k, k < n → ptk K O F G V sz n k) {k : Nat} (hk : k < n) (h0 : ¬ K k = 0) : (∃ o : Nat, o < 41 ∧ O k = nI o) ∧ V k = 0 ∧ F k = nI (k + 1) := by
  rcases (h k hk).2 with ⟨a1, -⟩ | ⟨⟨o, ho, ho2, -⟩, a2, a3, -⟩
  · exact absurd a1 h0
  · exact ⟨⟨o, ho, ho2⟩, a2, a3⟩
theorem w_rank (h : ∀ k, k < n → ptk K O F G V sz n k) {τ : fx_S} (Y : cxW K O F G V n s df kf τ) {k : Nat} (hk : k < n) (h0 : ¬ K k = 0) : F_Md_rankOf (nI s) (O k) τ = some (nI (rN O kf k), τ) ∧ F_Md_sideOf (nI s) (O k) τ = some (nI (rN O df k), τ) ∧ rN O kf k < 10 ∧ rN O df k < 3 := by
  obtain ⟨⟨o, ho, ho2⟩, -⟩ := pt_op h hk h0
  obtain ⟨-, σ0, nn, -, -, hT⟩ := Y
  obtain ⟨t1, t2, t3, t4, t5, t6, t7⟩ := hT o ho
  unfold rN
  rw [ho2, q_cl (by omega)]
  exact ⟨t7, t5, t2, t1⟩
theorem w_child (h : ∀ k, k < n → ptk K O F G V sz n k) (hn : n ≤ 200) (hbr : ∀ k g c, k < n → chA K sz k g c → K c = 1 ∨ K c = 2 → (br c = 0 ↔ ftA K O df kf k g c)) (hb1 : ∀ c, br c ≤ 1) {τ : fx_S} (Y : cxW K O F G V n s df kf τ) {k g c : Nat} (hk : k < n) (hc : chA K sz k g c) {D : List dE} (hD : DA τ D) (hl : D.length < 900) : ∃ τ', F_Md_dueChild (nI s) (nI k) (nI c) (nI (hdC K k g)) τ = some ((), τ') ∧ DA τ' ((dkA K br c, c) :: D) ∧ wF τ τ' ∧ τ'.1 40 = τ.1 40 ∧ (∀ a, a < 27 → τ'.2.1 a = τ.2.1 a) ∧ τ'.2.2 = τ.2.2 := by
  obtain ⟨-, -, hcn⟩ := ch_lt h hk hc
  have hk0 : ¬ K k = 0 := by
    rcases hc with ⟨-, -, z | z | z | z⟩ | ⟨-, -, z⟩ <;> rw [z] <;> decide
  obtain ⟨y1, y2, y3, y4, y5⟩ := Y.1 c hcn
  obtain ⟨x1, x2, x3, x4, x5⟩ := Y.1 k hk
  obtain ⟨r1, r2, r3, r4⟩ := w_rank h Y hk hk0
  have hh : hdC K k g < 2 := by unfold hdC; split; omega; split <;> omega
  have ef : ∃ b : Int32, F_Md_fits (nI s) (nI k) (nI c) (nI (hdC K k g)) τ = some (b, τ) ∧ (if b = 0 then 11 else 10) = dkA K br c := by
    by_cases q : K c = 1 ∨ K c = 2
    · have hc0 : ¬ K c = 0 := by rcases q with q | q <;> rw [q] <;> decide
      obtain ⟨s1, s2, s3, s4⟩ := w_rank h Y hcn hc0
      have lt : (nI (rN O kf k) < nI (rN O kf c)) ↔ rN O kf k < rN O kf c := q_lt (by omega) (by omega)
      have eq : (nI (rN O kf c) = nI (rN O kf k)) ↔ rN O kf c = rN O kf k := q_eq (by omega) (by omega)
      have e1 : (nI (rN O df c) = nI (hdC K k g)) ↔ rN O df c = hdC K k g := q_eq (by omega) (by omega)
      have e2 : (nI (rN O df k) = nI (hdC K k g)) ↔ rN O df k = hdC K k g := q_eq (by omega) (by omega)
      have J : F_Md_fits_J22 (nI s) (nI k) (nI c) (nI (hdC K k g)) τ = some (@ite Int32 (ftA K O df kf k g c) (Classical.propDecidable _) 1 0, τ) := by
        rw [F_Md_fits_J22, e_bnd (e_lA (by omega) (by omega)), x2, e_bnd r1, e_bnd (e_lA (by omega) (by omega)), y2, e_bnd s1, e_bnd (e_lA (by omega) (by omega)), y2, e_bnd s2]
        by_cases q1 : rN O kf k < rN O kf c
        · rw [e_if (lt.mpr q1), if_pos (c := ftA K O df kf k g c) (Or.inl q1)]; rfl
        · rw [e_el (fun z => q1 (lt.mp z))]
          by_cases q2 : rN O kf c = rN O kf k
          · rw [e_if (eq.mpr q2)]
            by_cases q3 : rN O df c = hdC K k g
            · rw [e_if (e1.mpr q3), e_bnd (e_lA (by omega) (by omega)), x2, e_bnd r2]
              by_cases q4 : rN O df k = hdC K k g
              · rw [e_if (e2.mpr q4), if_pos (c := ftA K O df kf k g c) (Or.inr ⟨q2, q3, q4⟩)]; rfl
              · rw [e_el (fun z => q4 (e2.mp z)), if_neg (c := ftA K O df kf k g c) (by rintro (z | z); exact q1 z; exact q4 z.2.2)]; rfl
            · rw [e_el (fun z => q3 (e1.mp z)), if_neg (c := ftA K O df kf k g c) (by rintro (z | z); exact q1 z; exact q3 z.2.1)]; rfl
          · rw [e_el (fun z => q2 (eq.mp z)), if_neg (c := ftA K O df kf k g c) (by rintro (z | z); exact q1 z; exact q2 z.1)]; rfl
      have hF : F_Md_fits (nI s) (nI k) (nI c) (nI (hdC K k g)) τ = F_Md_fits_J22 (nI s) (nI k) (nI c) (nI (hdC K k g)) τ := by
        rw [F_Md_fits, e_bnd (e_lA (by omega) (by omega)), y1]
        rcases q with q | q
        · rw [e_if q]
        · rw [e_el (by rw [q]; decide), e_bnd (e_lA (by omega) (by omega)), y1, e_if q]
      refine ⟨_, hF.trans J, ?_⟩
      have hb := hbr k g c hk hc q
      have := hb1 c
      unfold dkA
      by_cases z : ftA K O df kf k g c
      · rw [if_pos z, if_neg (by decide), if_neg (fun y => by have := hb.mpr z; omega)]
      · rw [if_neg z, if_pos rfl, if_pos ⟨q, by
          by_cases e : br c = 0
          · exact absurd (hb.mp e) z
          · omega⟩]
    · refine ⟨1, ?_, ?_⟩
      · rw [F_Md_fits, e_bnd (e_lA (by omega) (by omega)), y1, e_el (fun z => q (Or.inl z)), e_bnd (e_lA (by omega) (by omega)), y1, e_el (fun z => q (Or.inr z))]; rfl
      · rw [if_neg (by decide), dkA, if_neg (fun z => q z.1)]
  obtain ⟨b, f1, f2⟩ := ef
  obtain ⟨τ', a1, a2⟩ := w_due hD hl (dkA K br c) c
  refine ⟨τ', ?_, a2⟩
  rw [F_Md_dueChild, e_bnd f1]
  by_cases q : b = 0
  · rw [if_pos q] at f2
    rw [e_if q, F_Md_dueChild_J20, f2, e_bnd a1]; rfl
  · rw [if_neg q] at f2
    rw [e_el q, F_Md_dueChild_J20, f2, e_bnd a1]; rfl
theorem w_nodeA (h : ∀ k, k < n → ptk K O F G V sz n k) (hn : n ≤ 200) (L : LO K sz n br w st) (hbr : ∀ k g c, k < n → chA K sz k g c → K c = 1 ∨ K c = 2 → (br c = 0 ↔ ftA K O df kf k g c)) (how : ∀ j, j < n → ow (owA K br w st j) = (j, 0) ∧ (br j = 1 → ow (st j) = (j, 3) ∧ ow (st j + w j - 1) = (j, 4))) : ∀ (m k : Nat) (τ : fx_S) (D : List dE), sz k ≤ m → k < n → cxW K O F G V n s df kf τ → WR K O V ow τ (st k) → st k + w k ≤ 600 → DA τ ((dkA K br k, k) :: D) → D.length + 3 * sz k + 1 ≤ 900 → ∃ τ' c, c ≤ 3 * sz k ∧ STW s τ τ' c ∧ WR K O V ow τ' (st k + w k) ∧ DA τ' D ∧ wF τ τ' := by
  intro m
  induction m with
  | zero => intro k τ D h1 h2; have := pt_pos h h2; omega
  | succ m ih =>
    intro k τ D h1 h2 Y hW hb600 hD hl
    have hb1 := L.1
    have hszk := pt_pos h h2
    obtain ⟨hw1, hw2⟩ := how k h2
    obtain ⟨-, D0⟩ := w_take hD (by omega) (fun _ => fx_ret 0) 0
    let τ0 : fx_S := (va_up τ.1 47 (nI D.length), τ.2.1, τ.2.2)
    have F0 : wF τ τ0 := wF_47 τ _
    have Y0 := cxW_fr Y F0
    have W0 : WR K O V ow τ0 (st k) := ⟨hW.1, hW.2⟩
    have kk := (Y0.1 k h2)
    -- the entry is taken: spread
    have ent : ∀ f, fx_loop1 F_Md_write_B55 (f + 1) (nI s) τ = (fx_bnd (F_Md_spread (nI s) (nI k) (nI (br k))) fun _ => fx_loop1 F_Md_write_B55 f (nI s)) τ0 := by
      intro f
      rw [e_loop1, (w_take hD (by omega) _ _).1]
      unfold dkA
      by_cases q : (K k = 1 ∨ K k = 2) ∧ br k = 1
      · rw [if_pos q, e_if (by decide), e_if rfl, q.2]; rfl
      · rw [if_neg q, e_if (by decide), e_el (by decide)]
        refine (?_ : fx_bnd (l_Md_nodeKind (nI k)) _ τ0 = _)
        rw [e_bnd (e_lA (by omega) (by omega)), kk.1]
        have hb := hb1 k
        by_cases q2 : K k = 1 ∨ K k = 2
        · have e0 : br k = 0 := by
            by_cases e : br k = 0
            · exact e
            · exact absurd ⟨q2, by omega⟩ q
          rw [e_if (by rcases q2 with q2 | q2 <;> rw [q2] <;> decide), e0]; rfl
        · have e0 := L.2.1 k h2 q2
          rcases LO_cases h L h2 with ⟨k0, -, b0, -⟩ | ⟨k0, -⟩ | ⟨k0, -⟩ | ⟨k0, b0, -⟩ | ⟨k0, b0, -⟩
          · rw [b0, e_if (by rw [k0]; decide)]; rfl
          · exact absurd (Or.inl k0) q2
          · exact absurd (Or.inr k0) q2
          · rw [b0, e_el (by rw [k0]; decide)]; rfl
          · rw [b0, e_el (by rw [k0]; decide)]; rfl
    -- the opening bracket
    obtain ⟨τ1, D1, o1, o2, o3, o4, o5, o6⟩ : ∃ τ1 D1, (F_Md_spread (nI s) (nI k) (nI (br k)) τ0 = F_Md_spread_J16 (nI s) (nI k) τ1) ∧ WR K O V ow τ1 (st k + br k) ∧ DA τ1 D1 ∧ wF τ τ1 ∧ D1.length = D.length + br k ∧ ((br k = 0 ∧ D1 = D) ∨ (br k = 1 ∧ D1 = (4, k) :: D)) := by
      have hb := hb1 k
      rcases (show br k = 0 ∨ br k = 1 by omega) with e | e
      · refine ⟨τ0, D, ?_, by rw [e]; exact W0, D0, F0, by omega, Or.inl ⟨e, rfl⟩⟩
        rw [e, F_Md_spread, e_if (by decide)]
      · have hk0 : ¬ K k = 0 := fun z => by
          rcases LO_cases h L h2 with ⟨-, -, b, -⟩ | ⟨k0, -⟩ | ⟨k0, -⟩ | ⟨k0, -⟩ | ⟨k0, -⟩
          · omega
          all_goals (rw [k0] at z; exact absurd z (by decide))
        obtain ⟨-, hv, -⟩ := pt_op h h2 hk0
        obtain ⟨u1, -⟩ := hw2 e
        have wk := (LO_w h L _ _ (Nat.le_refl _) h2)
        obtain ⟨τ1, p1, p2, p3, p4⟩ := w_put (kd := 3) (k := k) W0 D0 (by omega) (by omega) (by rw [iK, u1, if_pos rfl]) (by rw [if_neg (by decide), iO, u1, if_pos (Or.inl rfl)]) (by rw [u1]) (by rw [kk.2.2.2.2, hv, iV, u1, if_pos (Or.inl rfl)])
        obtain ⟨τ2, q1, q2, q3, q4, q5, q6⟩ := w_due p3 (by omega) 4 k
        refine ⟨τ2, (4, k) :: D, ?_, by rw [e]; exact WR_due p2 q4 q5 q6, q2, wF_tr F0 (wF_tr p4 q3), by rw [List.length_cons, e], Or.inr ⟨e, rfl⟩⟩
        rw [e, F_Md_spread, e_el (by decide), e_bnd p1, e_bnd q1]
    have Y1 := cxW_fr Y o4
    obtain ⟨v1, v2, v3, v4, v5⟩ := Y1.1 k h2
    -- the closing bracket
    have CL : ∀ (τa : fx_S) (c : Nat), STW s τ τa c → WR K O V ow τa (st k + w k - br k) → DA τa D1 → wF τ τa → c + br k ≤ 3 * sz k → ∃ τ' c', c' ≤ 3 * sz k ∧ STW s τ τ' c' ∧ WR K O V ow τ' (st k + w k) ∧ DA τ' D ∧ wF τ τ' := by
      intro τa c c1 c2 c3 c4 c5
      have wk := (LO_w h L _ _ (Nat.le_refl _) h2)
      rcases o6 with ⟨e, rfl⟩ | ⟨e, rfl⟩
      · exact ⟨τa, c, by omega, c1, by rw [e] at c2; exact c2, c3, c4⟩
      · obtain ⟨-, u2⟩ := hw2 e
        have hk0 : ¬ K k = 0 := fun z => by
          rcases LO_cases h L h2 with ⟨-, -, b, -⟩ | ⟨k0, -⟩ | ⟨k0, -⟩ | ⟨k0, -⟩ | ⟨k0, -⟩
          · omega
          all_goals (rw [k0] at z; exact absurd z (by decide))
        obtain ⟨-, hv, -⟩ := pt_op h h2 hk0
        have Ya := cxW_fr Y c4
        rw [e] at c2
        obtain ⟨τ', d1, d2, d3, d4⟩ := w_item (s := s) (kd := 4) (by decide) c2 c3 (by omega) (by omega) (by omega) (by rw [iK, u2, if_neg (by simp), if_pos rfl]) (by rw [if_neg (by decide), iO, u2, if_pos (Or.inr rfl)]) (by rw [u2]) (by rw [(Ya.1 k h2).2.2.2.2, hv, iV, u2, if_pos (Or.inr rfl)])
        exact ⟨τ', c + 1, by omega, STW_tr c1 d1, by rw [show st k + w k - 1 + 1 = st k + w k by omega] at d2; exact d2, d3, wF_tr c4 d4⟩
    -- the own item's contents
    have own : ∀ τa : fx_S, wF τ τa → okA K k = iK K ow (owA K br w st k) ∧ (if okA K k = 1 ∨ okA K k = 2 then τa.2.1 9 k else -1) = iO O ow (owA K br w st k) ∧ (ow (owA K br w st k)).1 = k ∧ τa.2.2 14 k = iV V ow (owA K br w st k) := by
      intro τa fa
      have Ya := cxW_fr Y fa
      obtain ⟨x1, x2, x3, x4, x5⟩ := Ya.1 k h2
      refine ⟨by simp [iK, hw1], ?_, by rw [hw1], by rw [x5]; simp [iV, hw1]⟩
      have e9 : iO O ow (owA K br w st k) = O k := by simp [iO, hw1]
      rw [x2, e9]
      rcases (h k h2).2 with ⟨a1, a2, -⟩ | ⟨-, -, -, -, ⟨a5, -⟩ | ⟨a5, -⟩⟩
      · rw [if_neg, a2]
        unfold okA; rw [a1]; decide
      · rw [if_pos]
        unfold okA
        rcases a5 with a | a | a <;> rw [a] <;> decide
      · rw [if_pos]
        unfold okA; rw [a5]; decide
    -- one step: the entry with its spread
    have one : ∀ τa, F_Md_spread_J16 (nI s) (nI k) τ1 = some ((), τa) → STW s τ τa 1 := fun τa ha f => by
      rw [ent f, e_bnd (o1.trans ha)]
    rcases LO_cases h L h2 with ⟨k0, a2, a3, a4, a5⟩ | ⟨k0, b0, a2, a3, a4, a5, a6, a7, a8⟩ | ⟨k0, b0, a2, a3, a4, a5, a6⟩ | ⟨k0, b0, a2, a3, a4, a5, a6⟩ | ⟨k0, b0, a2, a3, a4, a5, a6⟩
    · -- an operand
      obtain ⟨n1, n2, n3, n4⟩ := own τ1 o4
      rw [a5] at n1 n2 n3 n4
      rw [a3] at o2
      have ek : okA K k = 0 := by unfold okA; rw [k0]; decide
      rw [ek] at n1 n2
      obtain ⟨τ2, p1, p2, p3, p4⟩ := w_put (kd := 0) (k := k) o2 o3 (by omega) (by omega) n1 n2 n3 n4
      refine CL τ2 1 (one τ2 ?_) (by rw [a3, a4]; exact p2) p3 (wF_tr o4 p4) (by omega)
      rw [F_Md_spread_J16, e_bnd (e_lA (by omega) (by omega)), v1, e_if k0, e_bnd p1]; rfl
    · -- an operator
      have c0 : chA K sz k 0 (k + 1) := Or.inl ⟨rfl, rfl, Or.inl k0⟩
      have c1 : chA K sz k 1 (k + 1 + sz (k + 1)) := Or.inr ⟨rfl, rfl, k0⟩
      have hF : F k = nI (k + 1) := (pt_op h h2 (by rw [k0]; decide)).2.2
      have hG : G k = nI (k + 1 + sz (k + 1)) := by
        rcases (h k h2).2 with ⟨z, -⟩ | ⟨-, -, -, -, ⟨z, -⟩ | ⟨-, z, -⟩⟩
        · rw [k0] at z; exact absurd z (by decide)
        · rcases z with z | z | z <;> rw [k0] at z <;> exact absurd z (by decide)
        · exact z
      have hd0 : nI (hdC K k 0) = 0 := by unfold hdC; rw [if_neg (by omega), if_pos (Or.inl k0)]; rfl
      have hd1 : nI (hdC K k 1) = 1 := by unfold hdC; rw [if_pos rfl]; rfl
      obtain ⟨τ2, p1, p2, p3, p4, p5, p6⟩ := w_child h hn hbr hb1 Y1 h2 c1 o3 (by omega)
      have Y2 := cxW_fr Y1 p3
      obtain ⟨τ3, q1, q2, q3, q4, q5, q6⟩ := w_due p2 (by rw [List.length_cons]; omega) 1 k
      have Y3 := cxW_fr Y2 q3
      obtain ⟨τ4, r1, r2, r3, r4, r5, r6⟩ := w_child h hn hbr hb1 Y3 h2 c0 q2 (by rw [List.length_cons, List.length_cons]; omega)
      have f4 : wF τ τ4 := wF_tr o4 (wF_tr p3 (wF_tr q3 r3))
      have W4 : WR K O V ow τ4 (st (k + 1)) := by
        rw [a6]; exact WR_due (WR_due (WR_due o2 p4 p5 p6) q4 q5 q6) r4 r5 r6
      have S4 : STW s τ τ4 1 := one τ4 (by
        rw [hd1] at p1
        rw [hd0] at r1
        rw [F_Md_spread_J16, e_bnd (e_lA (by omega) (by omega)), v1, e_el (by rw [k0]; decide), e_if k0, e_bnd (e_lA (by omega) (by omega)), v4, hG, e_bnd p1, e_bnd q1, e_bnd (e_lA (by omega) (by omega)), (Y3.1 k h2).2.2.1, hF, e_bnd r1]; rfl)
      obtain ⟨τ5, x, s1, s2, s3, s4, s5⟩ := ih (k + 1) τ4 _ (by omega) a2 (cxW_fr Y f4) W4 (by omega) r2 (by rw [List.length_cons, List.length_cons]; omega)
      have f5 := wF_tr f4 s5
      obtain ⟨n1, n2, n3, n4⟩ := own τ5 f5
      have ek : okA K k = 1 := by unfold okA; rw [k0]; decide
      rw [ek] at n1 n2
      rw [a8] at n1 n2 n3 n4
      rw [a6] at s3
      obtain ⟨τ6, t1, t2, t3, t4⟩ := w_item (s := s) (kd := 1) (by decide) s3 s4 (by rw [List.length_cons]; omega) (by omega) (by omega) n1 n2 n3 n4
      have f6 := wF_tr f5 t4
      rw [← a7] at t2
      obtain ⟨τ7, y, u1, u2, u3, u4, u5⟩ := ih (k + 1 + sz (k + 1)) τ6 _ (by omega) a3 (cxW_fr Y f6) t2 (by omega) t3 (by omega)
      exact CL τ7 (1 + x + 1 + y) (STW_tr (STW_tr (STW_tr S4 s2) t1) u2) (by rw [show st k + w k - br k = st (k + 1 + sz (k + 1)) + w (k + 1 + sz (k + 1)) by omega]; exact u3) u4 (wF_tr f6 u5) (by omega)
    · -- a negation
      have c0 : chA K sz k 0 (k + 1) := Or.inl ⟨rfl, rfl, Or.inr (Or.inl k0)⟩
      have hF : F k = nI (k + 1) := (pt_op h h2 (by rw [k0]; decide)).2.2
      have hd0 : nI (hdC K k 0) = 1 := by unfold hdC; rw [if_neg (by omega), if_neg (by rw [k0]; decide)]; rfl
      obtain ⟨n1, n2, n3, n4⟩ := own τ1 o4
      have ek : okA K k = 2 := by unfold okA; rw [k0]; decide
      rw [ek] at n1 n2
      rw [a6] at n1 n2 n3 n4
      obtain ⟨τ2, p1, p2, p3, p4⟩ := w_put (kd := 2) (k := k) o2 o3 (by omega) (by omega) n1 n2 n3 n4
      have Y2 := cxW_fr Y1 p4
      obtain ⟨τ4, r1, r2, r3, r4, r5, r6⟩ := w_child h hn hbr hb1 Y2 h2 c0 p3 (by omega)
      have f4 : wF τ τ4 := wF_tr o4 (wF_tr p4 r3)
      have W4 : WR K O V ow τ4 (st (k + 1)) := by rw [a5]; exact WR_due p2 r4 r5 r6
      have S4 : STW s τ τ4 1 := one τ4 (by
        rw [hd0] at r1
        rw [F_Md_spread_J16, e_bnd (e_lA (by omega) (by omega)), v1, e_el (by rw [k0]; decide), e_el (by rw [k0]; decide), e_if k0, e_bnd p1, e_bnd (e_lA (by omega) (by omega)), (Y2.1 k h2).2.2.1, hF, e_bnd r1]; rfl)
      obtain ⟨τ5, x, s1, s2, s3, s4, s5⟩ := ih (k + 1) τ4 _ (by omega) a2 (cxW_fr Y f4) W4 (by omega) r2 (by omega)
      exact CL τ5 (1 + x) (STW_tr S4 s2) (by rw [show st k + w k - br k = st (k + 1) + w (k + 1) by omega]; exact s3) s4 (wF_tr f4 s5) (by omega)
    · -- a left section
      have c0 : chA K sz k 0 (k + 1) := Or.inl ⟨rfl, rfl, Or.inr (Or.inr (Or.inl k0))⟩
      have hF : F k = nI (k + 1) := (pt_op h h2 (by rw [k0]; decide)).2.2
      have hd0 : nI (hdC K k 0) = 0 := by unfold hdC; rw [if_neg (by omega), if_pos (Or.inr k0)]; rfl
      obtain ⟨τ3, q1, q2, q3, q4, q5, q6⟩ := w_due o3 (by omega) 1 k
      have Y3 := cxW_fr Y1 q3
      obtain ⟨τ4, r1, r2, r3, r4, r5, r6⟩ := w_child h hn hbr hb1 Y3 h2 c0 q2 (by rw [List.length_cons]; omega)
      have f4 : wF τ τ4 := wF_tr o4 (wF_tr q3 r3)
      rw [b0] at o2
      have W4 : WR K O V ow τ4 (st (k + 1)) := by rw [a5]; exact WR_due (WR_due o2 q4 q5 q6) r4 r5 r6
      have S4 : STW s τ τ4 1 := one τ4 (by
        rw [hd0] at r1
        rw [F_Md_spread_J16, e_bnd (e_lA (by omega) (by omega)), v1, e_el (by rw [k0]; decide), e_el (by rw [k0]; decide), e_el (by rw [k0]; decide), e_if k0, e_bnd q1, e_bnd (e_lA (by omega) (by omega)), (Y3.1 k h2).2.2.1, hF, e_bnd r1]; rfl)
      obtain ⟨τ5, x, s1, s2, s3, s4, s5⟩ := ih (k + 1) τ4 _ (by omega) a2 (cxW_fr Y f4) W4 (by omega) r2 (by rw [List.length_cons]; omega)
      have f5 := wF_tr f4 s5
      obtain ⟨n1, n2, n3, n4⟩ := own τ5 f5
      have ek : okA K k = 1 := by unfold okA; rw [k0]; decide
      rw [ek] at n1 n2
      rw [a6] at n1 n2 n3 n4
      rw [a5] at s3
      obtain ⟨τ6, t1, t2, t3, t4⟩ := w_item (s := s) (kd := 1) (by decide) s3 s4 (by omega) (by omega) (by omega) n1 n2 n3 n4
      exact CL τ6 (1 + x + 1) (STW_tr (STW_tr S4 s2) t1) (by rw [show st k + w k - br k = st k + 1 + w (k + 1) + 1 by omega]; exact t2) t3 (wF_tr f5 t4) (by omega)
    · -- a right section
      have c0 : chA K sz k 0 (k + 1) := Or.inl ⟨rfl, rfl, Or.inr (Or.inr (Or.inr k0))⟩
      have hF : F k = nI (k + 1) := (pt_op h h2 (by rw [k0]; decide)).2.2
      have hd0 : nI (hdC K k 0) = 1 := by unfold hdC; rw [if_neg (by omega), if_neg (by rw [k0]; decide)]; rfl
      obtain ⟨n1, n2, n3, n4⟩ := own τ1 o4
      have ek : okA K k = 1 := by unfold okA; rw [k0]; decide
      rw [ek] at n1 n2
      rw [a6] at n1 n2 n3 n4
      rw [b0] at o2
      obtain ⟨τ2, p1, p2, p3, p4⟩ := w_put (kd := 1) (k := k) o2 o3 (by omega) (by omega) n1 n2 n3 n4
      have Y2 := cxW_fr Y1 p4
      obtain ⟨τ4, r1, r2, r3, r4, r5, r6⟩ := w_child h hn hbr hb1 Y2 h2 c0 p3 (by omega)
      have f4 : wF τ τ4 := wF_tr o4 (wF_tr p4 r3)
      have W4 : WR K O V ow τ4 (st (k + 1)) := by rw [a5]; exact WR_due p2 r4 r5 r6
      have S4 : STW s τ τ4 1 := one τ4 (by
        rw [hd0] at r1
        rw [F_Md_spread_J16, e_bnd (e_lA (by omega) (by omega)), v1, e_el (by rw [k0]; decide), e_el (by rw [k0]; decide), e_el (by rw [k0]; decide), e_el (by rw [k0]; decide), e_bnd p1, e_bnd (e_lA (by omega) (by omega)), (Y2.1 k h2).2.2.1, hF, e_bnd r1]; rfl)
      obtain ⟨τ5, x, s1, s2, s3, s4, s5⟩ := ih (k + 1) τ4 _ (by omega) a2 (cxW_fr Y f4) W4 (by omega) r2 (by omega)
      exact CL τ5 (1 + x) (STW_tr S4 s2) (by rw [show st k + w k - br k = st (k + 1) + w (k + 1) by omega]; exact s3) s4 (wF_tr f4 s5) (by omega)
end WNODE
/-! THE CLASS WRITES: brackets and widths -/
def flF (σ σ' : fx_S) : Prop := (∀ r, r ≠ 646 → r ≠ 647 → σ'.1 r = σ.1 r) ∧ (∀ a, a < 41 ∨ 47 < a → σ'.2.1 a = σ.2.1 a) ∧ (∀ a, a ≠ 44 → σ'.2.2 a = σ.2.2 a)
theorem flF_rfl {σ : fx_S} : flF σ σ := ⟨fun _ _ _ => rfl, fun _ _ => rfl, fun _ _ => rfl⟩
theorem flF_tr {σ σ' σ'' : fx_S} (h : flF σ σ') (g : flF σ' σ'') : flF σ σ'' := ⟨fun r a b => (g.1 r a b).trans (h.1 r a b), fun a q => (g.2.1 a q).trans (h.2.1 a q), fun a q => (g.2.2 a q).trans (h.2.2 a q)⟩
def cxF (K O F G : Nat → Int32) (V : Nat → Int64) (n : Nat) (df kf : Nat → Nat) (σ : fx_S) : Prop := n ≤ 200 ∧ σ.1 422 = nI n ∧ σ.2.1 27 = K ∧ σ.2.1 28 = O ∧ σ.2.1 29 = F ∧ σ.2.1 30 = G ∧ σ.2.2 32 = V ∧ ∀ o, o < 41 → σ.2.1 6 o = nI (kf o) ∧ σ.2.1 5 o = nI (df o) ∧ kf o < 10 ∧ df o < 3
section FILL
variable {K O F G : Nat → Int32} {V : Nat → Int64} {sz : Nat → Nat} {n : Nat} {df kf br w st : Nat → Nat} {ow : Nat → Nat × Nat}
theorem cxF_fr {σ σ' : fx_S} (X : cxF K O F G V n df kf σ) (g : flF σ σ') : cxF K O F G V n df kf σ' := by
  unfold cxF at *
  rw [g.1 422 (by omega) (by omega), g.2.1 27 (by omega), g.2.1 28 (by omega), g.2.1 29 (by omega), g.2.1 30 (by omega), g.2.2 32 (by omega), g.2.1 6 (by omega), g.2.1 5 (by omega)]
  exact X
theorem f_kind {σ : fx_S} (X : cxF K O F G V n df kf σ) {k : Nat} (hk : k < n) : F_Tree0_kindAt (nI k) σ = some (K k, σ) := by rw [t_kind X.2.1 X.1 hk, X.2.2.1]
theorem f_opr {σ : fx_S} (X : cxF K O F G V n df kf σ) {k : Nat} (hk : k < n) : F_Tree0_operatorAt (nI k) σ = some (O k, σ) := by rw [t_opr X.2.1 X.1 hk, X.2.2.2.1]
theorem f_fst {σ : fx_S} (X : cxF K O F G V n df kf σ) {k : Nat} (hk : k < n) : F_Tree0_firstAt (nI k) σ = some (F k, σ) := by rw [t_fst X.2.1 X.1 hk, X.2.2.2.2.1]
theorem f_snd {σ : fx_S} (X : cxF K O F G V n df kf σ) {k : Nat} (hk : k < n) : F_Tree0_secondAt (nI k) σ = some (G k, σ) := by rw [t_snd X.2.1 X.1 hk, X.2.2.2.2.2.1]
theorem f_num {σ : fx_S} (X : cxF K O F G V n df kf σ) {k : Nat} (hk : k < n) : F_Tree0_numberAt (nI k) σ = some (V k, σ) := by rw [t_num X.2.1 X.1 hk, X.2.2.2.2.2.2.1]
theorem f_size {σ : fx_S} (X : cxF K O F G V n df kf σ) : F_Tree0_size σ = some (nI n, σ) := by rw [F_Tree0_size, e_bnd (e_gI _ _), X.2.1]; rfl
theorem f_kindn {σ : fx_S} (X : cxF K O F G V n df kf σ) : F_Tree0_kindAt (-1) σ = some (-1, σ) := by
  rw [F_Tree0_kindAt, e_bnd (t_hasn X.2.1 X.1 (Or.inl (by decide))), e_if rfl]; rfl
theorem f_sec {σ : fx_S} (X : cxF K O F G V n df kf σ) {k : Nat} (hk : k < n) : F_Written_isSection (nI k) σ = some (nI (secA K k), σ) := by
  rw [F_Written_isSection, e_bnd (f_kind X hk), secA]
  by_cases q1 : K k = 3
  · rw [e_if q1, if_pos (Or.inl q1)]; rfl
  · by_cases q2 : K k = 4
    · rw [e_el q1, e_if q2, if_pos (Or.inr q2)]; rfl
    · rw [e_el q1, e_el q2, if_neg (by rintro (z | z); exact q1 z; exact q2 z)]; rfl
theorem f_left {σ : fx_S} (X : cxF K O F G V n df kf σ) {k : Nat} (hk : k < n) : F_Written_firstStandsLeft (nI k) σ = some (if K k = 1 ∨ K k = 3 then 1 else 0, σ) := by
  rw [F_Written_firstStandsLeft, e_bnd (f_kind X hk)]
  by_cases q1 : K k = 1
  · rw [e_if q1, if_pos (Or.inl q1)]; rfl
  · by_cases q2 : K k = 3
    · rw [e_el q1, e_if q2, if_pos (Or.inr q2)]; rfl
    · rw [e_el q1, e_el q2, if_neg (by rintro (z | z); exact q1 z; exact q2 z)]; rfl
theorem f_isn {k : Nat} (hk : k < 200) (σ : fx_S) : F_Written_isNode (nI k) σ = some (1, σ) := by
  simp (disch := omega) only [F_Written_isNode, fx_bnd, fx_bndx, e_gI, e_pI, e_rz0, e_rz1, e_ret, e_pur, e_thr, e_if, e_el, q_lt, q_le, q_eq, q_lt0, q_0lt, q_le0, q_0le, q_eq0, q_lt1, q_1lt, q_le1, q_1le, q_eq1, q_lt2, q_2lt, q_le2, q_2le, q_eq2, q_lt3, q_3lt, q_le3, q_3le, q_eq3, q_lt4, q_4lt, q_le4, q_4le, q_eq4, q_lt6, q_6lt, q_le6, q_6le, q_eq6, q_lt10, q_10lt, q_le10, q_10le, q_eq10, q_lt30, q_30lt, q_le30, q_30le, q_eq30, q_lt40, q_40lt, q_le40, q_40le, q_eq40, q_lt41, q_41lt, q_le41, q_41le, q_eq41, q_lt200, q_200lt, q_le200, q_200le, q_eq200, q_lt400, q_400lt, q_le400, q_400le, q_eq400, q_lt600, q_600lt, q_le600, q_600le, q_eq600, q_lt800, q_800lt, q_le800, q_800le, q_eq800, q_lt900, q_900lt, q_le900, q_900le, q_eq900, q_0eq, q_1eq, q_2eq, q_3eq, q_4eq, q_neg, q_m1, q_m1l, q_s1, nI_1, q_1a, nI_add, q_mul, q_m41, q_41m, q_dn, q_dm10, q_dm11, q_dm12, q_dm13, q_dm14, q_d0m1, q_d01, q_d02, q_d03, q_d04, q_d1m1, q_d10, q_d12, q_d13, q_d14, q_d2m1, q_d20, q_d21, q_d23, q_d24, q_d3m1, q_d30, q_d31, q_d32, q_d34, q_d4m1, q_d40, q_d41, q_d42, q_d43, if_true, if_false, eq_self]
theorem f_isnn (σ : fx_S) : F_Written_isNode (-1) σ = some (0, σ) := by
  rw [F_Written_isNode, e_if (by decide)]; rfl
theorem f_setB {σ : fx_S} {k v : Nat} (hk : k < 200) (hv : v ≤ 1) : F_Written_setBrackets (nI k) (nI v) σ = some ((), (σ.1, va_up σ.2.1 45 (upd (σ.2.1 45) k (nI v)), σ.2.2)) := by
  rw [F_Written_setBrackets, e_bnd (f_isn hk σ), e_el (by decide), e_bnd (e_sZ hk (by omega) (by rcases (show v = 0 ∨ v = 1 by omega) with rfl | rfl; exact Or.inl rfl; exact Or.inr rfl))]; rfl
theorem f_45 (σ : fx_S) (u : Nat → Int32) : flF σ (σ.1, va_up σ.2.1 45 u, σ.2.2) := ⟨fun _ _ _ => rfl, fun a ha => va_up_ne _ _ (by omega), fun _ _ => rfl⟩
/-- the first loop: sections -/
theorem f_l1 : ∀ (m i f : Nat) (σ : fx_S), m + i = n → cxF K O F G V n df kf σ → (∀ k, k < i → σ.2.1 45 k = nI (secA K k)) → ∃ σ', fx_loop1 F_Written_fill_B2 (f + m + 1) (nI i) σ = fx_loop1 F_Written_fill_B31 fx_fuel (nI 0) σ' ∧ (∀ k, k < n → σ'.2.1 45 k = nI (secA K k)) ∧ flF σ σ'
  | 0, i, f, σ, h, X, hi => by
    have : i = n := by omega
    subst this
    have hn := X.1
    refine ⟨σ, ?_, hi, flF_rfl⟩
    rw [e_loop1, F_Written_fill_B2, e_bnd (f_size X), e_if (by rw [q_le (by omega) (by omega)]; omega)]; rfl
  | m + 1, i, f, σ, h, X, hi => by
    have hn := X.1
    let σ1 : fx_S := (σ.1, va_up σ.2.1 45 (upd (σ.2.1 45) i (nI (secA K i))), σ.2.2)
    obtain ⟨σ', a1, a2, a3⟩ := f_l1 m (i + 1) f σ1 (by omega) (cxF_fr X (f_45 σ _)) (fun k hk => by
      show upd (σ.2.1 45) i (nI (secA K i)) k = _
      by_cases e : k = i
      · subst e; rw [q_us]
      · rw [q_un _ _ e]; exact hi k (by omega))
    refine ⟨σ', ?_, a2, flF_tr (f_45 σ _) a3⟩
    rw [show f + (m + 1) + 1 = (f + m + 1) + 1 by omega, e_loop1, F_Written_fill_B2, e_bnd (f_size X), e_el (by rw [q_le (by omega) (by omega)]; omega), e_bnd (f_sec X (by omega)), e_bnd (f_setB (by omega) (by unfold secA; split <;> omega)), e_bnd (e_pur _ _), nI_1]
    exact a1
/-- a child's brackets -/
theorem f_unl (h : ∀ k, k < n → ptk K O F G V sz n k) (hbr : ∀ k g c, k < n → chA K sz k g c → K c = 1 ∨ K c = 2 → (br c = 0 ↔ ftA K O df kf k g c)) (hb1 : ∀ c, br c ≤ 1) (hb2 : ∀ c, c < n → ¬ (K c = 1 ∨ K c = 2) → br c = secA K c) {σ : fx_S} (X : cxF K O F G V n df kf σ) {k g c : Nat} (hk : k < n) (hc : chA K sz k g c) (h45 : σ.2.1 45 c = nI (br c) ∨ σ.2.1 45 c = nI (secA K c)) : ∃ u, F_Written_bracketUnlessFit (nI k) (nI c) (nI (hdC K k g)) σ = some ((), (σ.1, va_up σ.2.1 45 u, σ.2.2)) ∧ u c = nI (br c) ∧ (∀ i, i ≠ c → u i = σ.2.1 45 i) := by
  have hn := X.1
  obtain ⟨-, -, hcn⟩ := ch_lt h hk hc
  have hk0 : ¬ K k = 0 := by
    rcases hc with ⟨-, -, z | z | z | z⟩ | ⟨-, -, z⟩ <;> rw [z] <;> decide
  have hh : hdC K k g < 2 := by unfold hdC; split; omega; split <;> omega
  by_cases q : K c = 1 ∨ K c = 2
  · have hc0 : ¬ K c = 0 := by rcases q with q | q <;> rw [q] <;> decide
    obtain ⟨⟨oc, ho1, ho2⟩, -⟩ := pt_op h hcn hc0
    obtain ⟨⟨ok, ho3, ho4⟩, -⟩ := pt_op h hk hk0
    obtain ⟨r1, r2, r3, r4⟩ := X.2.2.2.2.2.2.2 oc ho1
    obtain ⟨s1, s2, s3, s4⟩ := X.2.2.2.2.2.2.2 ok ho3
    have e1 : rN O kf c = kf oc := by unfold rN; rw [ho2, q_cl (by omega)]
    have e2 : rN O df c = df oc := by unfold rN; rw [ho2, q_cl (by omega)]
    have e3 : rN O kf k = kf ok := by unfold rN; rw [ho4, q_cl (by omega)]
    have e4 : rN O df k = df ok := by unfold rN; rw [ho4, q_cl (by omega)]
    have fr : ∀ o, o < 41 → F_Fixities_rankOf (nI o) σ = some (nI (kf o), σ) := fun o ho => by
      rw [F_Fixities_rankOf, e_bnd (s_op ho), e_el (by decide), e_bnd (e_lA (by omega) (by omega)), (X.2.2.2.2.2.2.2 o ho).1]; rfl
    have fs : ∀ o, o < 41 → F_Fixities_sideOf (nI o) σ = some (nI (df o), σ) := fun o ho => by
      rw [F_Fixities_sideOf, e_bnd (s_op ho), e_el (by decide), e_bnd (e_lA (by omega) (by omega)), (X.2.2.2.2.2.2.2 o ho).2.1]; rfl
    have ef : F_Written_fits (nI oc) (nI ok) (nI (hdC K k g)) σ = some (@ite Int32 (ftA K O df kf k g c) (Classical.propDecidable _) 1 0, σ) := by
      have ft : ftA K O df kf k g c ↔ (kf ok < kf oc ∨ (kf oc = kf ok ∧ df oc = hdC K k g ∧ df ok = hdC K k g)) := by
        unfold ftA; rw [e1, e2, e3, e4]
      rw [F_Written_fits, e_bnd (fr oc ho1), e_bnd (fr ok ho3)]
      by_cases q1 : kf oc = kf ok
      · rw [e_if ((q_eq (by omega) (by omega)).mpr q1), e_bnd (fs oc ho1)]
        by_cases q2 : df oc = hdC K k g
        · rw [e_if ((q_eq (by omega) (by omega)).mpr q2), e_bnd (fs ok ho3)]
          by_cases q3 : df ok = hdC K k g
          · rw [e_if ((q_eq (by omega) (by omega)).mpr q3), if_pos (ft.mpr (Or.inr ⟨q1, q2, q3⟩))]; rfl
          · rw [e_el (fun z => q3 ((q_eq (by omega) (by omega)).mp z)), if_neg (fun z => by have := ft.mp z; omega)]; rfl
        · rw [e_el (fun z => q2 ((q_eq (by omega) (by omega)).mp z)), if_neg (fun z => by have := ft.mp z; omega)]; rfl
      · rw [e_el (fun z => q1 ((q_eq (by omega) (by omega)).mp z))]
        by_cases q2 : kf oc ≤ kf ok
        · rw [e_if ((q_le (by omega) (by omega)).mpr q2), if_neg (fun z => by have := ft.mp z; omega)]; rfl
        · rw [e_el (fun z => q2 ((q_le (by omega) (by omega)).mp z)), if_pos (ft.mpr (Or.inl (by omega)))]; rfl
    have hb := hbr k g c hk hc q
    have hbc := hb1 c
    have J : F_Written_bracketUnlessFit_J22 (nI k) (nI c) (nI (hdC K k g)) σ = some ((), (σ.1, va_up σ.2.1 45 (upd (σ.2.1 45) c (nI (br c))), σ.2.2)) := by
      rw [F_Written_bracketUnlessFit_J22, e_bnd (f_opr X hcn), e_bnd (f_opr X hk), ho2, ho4, e_bnd ef]
      by_cases z : ftA K O df kf k g c
      · have b0 := hb.mpr z
        rw [if_pos z, e_el (by decide), F_Written_bracketUnlessFit_J53, b0, show (0 : Int32) = nI 0 from rfl, e_bnd (f_setB (by omega) (by omega))]; rfl
      · have b0 : br c = 1 := by
          by_cases e : br c = 0
          · exact absurd (hb.mp e) z
          · omega
        rw [if_neg z, e_if rfl, F_Written_bracketUnlessFit_J53, b0, show (1 : Int32) = nI 1 from rfl, e_bnd (f_setB (by omega) (by omega))]; rfl
    refine ⟨upd (σ.2.1 45) c (nI (br c)), ?_, q_us _ _ _, fun i hi => q_un _ _ hi⟩
    rw [F_Written_bracketUnlessFit, e_bnd (f_kind X hcn)]
    rcases q with q | q
    · rw [e_if q, J]
    · rw [e_el (by rw [q]; decide), e_if q, J]
  · have e0 := hb2 c hcn q
    refine ⟨σ.2.1 45, ?_, ?_, fun _ _ => rfl⟩
    · have e9 : va_up σ.2.1 45 (σ.2.1 45) = σ.2.1 := by
        funext a
        by_cases e : a = 45
        · subst e; rw [va_up_self]
        · rw [va_up_ne _ _ e]
      rw [e9, F_Written_bracketUnlessFit, e_bnd (f_kind X hcn), e_el (fun z => q (Or.inl z)), e_el (fun z => q (Or.inr z))]; rfl
    · rcases h45 with z | z
      · exact z
      · rw [z, e0]
theorem f_unln {σ : fx_S} (X : cxF K O F G V n df kf σ) (a b : Int32) : F_Written_bracketUnlessFit a (-1) b σ = some ((), σ) := by
  rw [F_Written_bracketUnlessFit, e_bnd (f_kindn X), e_el (by decide), e_el (by decide)]; rfl
/-- the second loop: brackets -/
theorem f_l2 (h : ∀ k, k < n → ptk K O F G V sz n k) (hbr : ∀ k g c, k < n → chA K sz k g c → K c = 1 ∨ K c = 2 → (br c = 0 ↔ ftA K O df kf k g c)) (hb1 : ∀ c, br c ≤ 1) (hb2 : ∀ c, c < n → ¬ (K c = 1 ∨ K c = 2) → br c = secA K c) : ∀ (m i f : Nat) (σ : fx_S), m + i = n → cxF K O F G V n df kf σ → (∀ c, c < n → σ.2.1 45 c = nI (br c) ∨ (σ.2.1 45 c = nI (secA K c) ∧ ∃ k g, i ≤ k ∧ k < n ∧ chA K sz k g c)) → ∃ σ', fx_loop1 F_Written_fill_B31 (f + m + 1) (nI i) σ = fx_loop1 F_Written_fill_B98 fx_fuel (nI n - 1) σ' ∧ (∀ k, k < n → σ'.2.1 45 k = nI (br k)) ∧ flF σ σ'
  | 0, i, f, σ, hm, X, hi => by
    have : i = n := by omega
    subst this
    have hn := X.1
    refine ⟨σ, ?_, fun k hk => ?_, flF_rfl⟩
    · rw [e_loop1, F_Written_fill_B31, e_bnd (f_size X), e_if (by rw [q_le (by omega) (by omega)]; omega), e_bnd (f_size X), e_bnd (e_pur _ _)]
    · rcases hi k hk with z | ⟨-, k', g, z1, z2, -⟩
      · exact z
      · omega
  | m + 1, i, f, σ, hm, X, hi => by
    have hn := X.1
    have hin : i < n := by omega
    -- what is left to do from i + 1 on
    have go : ∀ σ1 : fx_S, flF σ σ1 → (∀ c, c < n → σ1.2.1 45 c = nI (br c) ∨ (σ1.2.1 45 c = σ.2.1 45 c ∧ ∀ g, ¬ chA K sz i g c)) → ∃ σ', fx_loop1 F_Written_fill_B31 (f + m + 1) (nI (i + 1)) σ1 = fx_loop1 F_Written_fill_B98 fx_fuel (nI n - 1) σ' ∧ (∀ k, k < n → σ'.2.1 45 k = nI (br k)) ∧ flF σ σ' := by
      intro σ1 f1 h1
      obtain ⟨σ', a1, a2, a3⟩ := f_l2 h hbr hb1 hb2 m (i + 1) f σ1 (by omega) (cxF_fr X f1) (fun c hc => by
        rcases h1 c hc with z | ⟨z1, z2⟩
        · exact Or.inl z
        · rw [z1]
          rcases hi c hc with y | ⟨y1, k, g, y2, y3, y4⟩
          · exact Or.inl y
          · refine Or.inr ⟨y1, k, g, ?_, y3, y4⟩
            by_cases e : k = i
            · subst e; exact absurd y4 (z2 g)
            · omega)
      exact ⟨σ', a1, a2, flF_tr f1 a3⟩
    have hd : ∀ c, c < n → σ.2.1 45 c = nI (br c) ∨ σ.2.1 45 c = nI (secA K c) := fun c hc => by
      rcases hi c hc with z | ⟨z, -⟩
      · exact Or.inl z
      · exact Or.inr z
    have head : fx_loop1 F_Written_fill_B31 (f + (m + 1) + 1) (nI i) σ = F_Written_fill_J65 (fx_loop1 F_Written_fill_B31 (f + m + 1)) (nI i) (nI (hdC K i 0)) (F i) (nI i) σ := by
      rw [show f + (m + 1) + 1 = (f + m + 1) + 1 by omega, e_loop1, F_Written_fill_B31, e_bnd (f_size X), e_el (by rw [q_le (by omega) (by omega)]; omega), e_bnd (f_fst X hin), e_bnd (f_left X hin)]
      unfold hdC
      rw [if_neg (show ¬ (0 : Nat) = 1 by omega)]
      by_cases q : K i = 1 ∨ K i = 3
      · rw [if_pos q, e_el (by decide), if_pos q]; rfl
      · rw [if_neg q, e_if rfl, if_neg q]; rfl
    rw [head, F_Written_fill_J65]
    have hh1 : (1 : Int32) = nI (hdC K i 1) := by unfold hdC; rw [if_pos rfl]; rfl
    rcases (h i hin).2 with ⟨a1, a2, a3, a4, a5⟩ | ⟨a1, a2, a3, a4, a5⟩
    · rw [a3, e_bnd (f_unln X _ _), e_bnd (f_snd X hin), a4, e_bnd (f_unln X _ _), e_bnd (e_pur _ _), nI_1]
      refine go σ flF_rfl (fun c hc => Or.inr ⟨rfl, fun g z => ?_⟩)
      rcases z with ⟨-, -, z | z | z | z⟩ | ⟨-, -, z⟩ <;> rw [a1] at z <;> exact absurd z (by decide)
    · have hK : K i = 1 ∨ K i = 2 ∨ K i = 3 ∨ K i = 4 := by
        rcases a5 with ⟨a5, -⟩ | ⟨a5, -⟩
        · exact Or.inr a5
        · exact Or.inl a5
      have c0 : chA K sz i 0 (i + 1) := Or.inl ⟨rfl, rfl, hK⟩
      obtain ⟨u, u1, u2, u3⟩ := f_unl h hbr hb1 hb2 X hin c0 (hd _ a4)
      let σ1 : fx_S := (σ.1, va_up σ.2.1 45 u, σ.2.2)
      have f1 : flF σ σ1 := f_45 σ u
      have X1 := cxF_fr X f1
      rw [a3, e_bnd u1]
      refine (?_ : ∃ σ', fx_bnd (F_Tree0_secondAt (nI i)) _ σ1 = _ ∧ _)
      rw [e_bnd (f_snd X1 hin)]
      rcases a5 with ⟨a5, a6, a7⟩ | ⟨a5, a6, a7, a8⟩
      · rw [a6, e_bnd (f_unln X1 _ _), e_bnd (e_pur _ _), nI_1]
        refine go σ1 f1 (fun c hc => ?_)
        by_cases e : c = i + 1
        · subst e; exact Or.inl u2
        · refine Or.inr ⟨u3 c e, fun g z => ?_⟩
          rcases z with ⟨-, z, -⟩ | ⟨-, -, z⟩
          · exact e z
          · rcases a5 with a | a | a <;> rw [a] at z <;> exact absurd z (by decide)
      · have c1 : chA K sz i 1 (i + 1 + sz (i + 1)) := Or.inr ⟨rfl, rfl, a5⟩
        have hs1 := pt_pos h a4
        have h45 : σ1.2.1 45 (i + 1 + sz (i + 1)) = nI (br (i + 1 + sz (i + 1))) ∨ σ1.2.1 45 (i + 1 + sz (i + 1)) = nI (secA K (i + 1 + sz (i + 1))) := by
          show u _ = _ ∨ u _ = _
          rw [u3 _ (by omega)]; exact hd _ a7
        obtain ⟨v, v1, v2, v3⟩ := f_unl h hbr hb1 hb2 X1 hin c1 h45
        rw [← hh1] at v1
        rw [a6, e_bnd v1, e_bnd (e_pur _ _), nI_1]
        refine go _ (flF_tr f1 (f_45 σ1 v)) (fun c hc => ?_)
        show va_up σ1.2.1 45 v 45 c = _ ∨ (va_up σ1.2.1 45 v 45 c = _ ∧ _)
        rw [va_up_self]
        by_cases e : c = i + 1 + sz (i + 1)
        · subst e; exact Or.inl v2
        · rw [v3 c e]
          show u c = _ ∨ (u c = _ ∧ _)
          by_cases e2 : c = i + 1
          · subst e2; exact Or.inl u2
          · refine Or.inr ⟨u3 c e2, fun g z => ?_⟩
            rcases z with ⟨-, z, -⟩ | ⟨-, z, -⟩
            · exact e2 z
            · exact e z
theorem f_wid {σ : fx_S} {k : Nat} (hk : k < 200) : F_Written_widthOf (nI k) σ = some (σ.2.1 46 k, σ) := by
  rw [F_Written_widthOf, e_bnd (f_isn hk σ), e_el (by decide), e_bnd (e_lA hk (by omega))]; rfl
theorem f_widn (σ : fx_S) : F_Written_widthOf (-1) σ = some (0, σ) := by
  rw [F_Written_widthOf, e_bnd (f_isnn σ), e_if rfl]; rfl
theorem f_46 (σ : fx_S) (u : Nat → Int32) : flF σ (σ.1, va_up σ.2.1 46 u, σ.2.2) := ⟨fun _ _ _ => rfl, fun a ha => va_up_ne _ _ (by omega), fun _ _ => rfl⟩
/-- the third loop: widths -/
theorem f_l3 (h : ∀ k, k < n → ptk K O F G V sz n k) (hb1 : ∀ c, br c ≤ 1) (hw : ∀ k, k < n → wdE K sz br w k) : ∀ (i f : Nat) (σ : fx_S), i ≤ n → cxF K O F G V n df kf σ → (∀ k, k < n → σ.2.1 45 k = nI (br k)) → (∀ k, i ≤ k → k < n → σ.2.1 46 k = nI (w k)) → ∃ σ', fx_loop1 F_Written_fill_B98 (f + i + 1) (nI i - 1) σ = (fx_bnd (F_Written_widthOf 0) fun x5 => fx_bnd (p_Written_size x5) fun _ => fx_bnd (F_Written_setStart 0 0) fun _ => fx_loop1 F_Written_fill_B130 fx_fuel 0) σ' ∧ (∀ k, k < n → σ'.2.1 45 k = nI (br k)) ∧ (∀ k, k < n → σ'.2.1 46 k = nI (w k)) ∧ flF σ σ'
  | 0, f, σ, hi, X, h45, h46 => by
    refine ⟨σ, ?_, h45, fun k hk => h46 k (by omega) hk, flF_rfl⟩
    rw [e_loop1, F_Written_fill_B98, show nI 0 - 1 = (-1 : Int32) by decide, e_if (by decide)]
  | i + 1, f, σ, hi, X, h45, h46 => by
    have hn := X.1
    have hin : i < n := by omega
    let σ1 : fx_S := (σ.1, va_up σ.2.1 46 (upd (σ.2.1 46) i (nI (w i))), σ.2.2)
    obtain ⟨σ', a1, a2, a3, a4⟩ := f_l3 h hb1 hw i f σ1 (by omega) (cxF_fr X (f_46 σ _)) h45 (fun k k1 k2 => by
      show upd (σ.2.1 46) i (nI (w i)) k = _
      by_cases e : k = i
      · subst e; rw [q_us]
      · rw [q_un _ _ e]; exact h46 k (by omega) k2)
    refine ⟨σ', ?_, a2, a3, flF_tr (f_46 σ _) a4⟩
    have J : ∀ t : Nat, t = 1 + 2 * br i → F_Written_measure_J21 (nI i) (nI t) σ = some ((), σ1) := by
      intro t ht
      have ew := hw i hin
      unfold wdE at ew
      rw [F_Written_measure_J21, e_bnd (f_fst X hin)]
      rcases (h i hin).2 with ⟨b1, b2, b3, b4, b5⟩ | ⟨b1, b2, b3, b4, ⟨b5, b6, b7⟩ | ⟨b5, b6, b7, b8⟩⟩
      · rw [b1, if_pos rfl, if_neg (by decide)] at ew
        rw [b3, e_bnd (f_widn σ), e_bnd (f_snd X hin), b4, e_bnd (f_widn σ), show nI t + 0 = nI (t + 0) from nI_add t 0, show nI (t + 0) + 0 = nI (t + 0 + 0) from nI_add _ 0, e_bnd (e_sA (by omega) (by omega)), show t + 0 + 0 = w i by omega]; rfl
      · rw [if_neg (by rcases b5 with b | b | b <;> rw [b] <;> decide), if_neg (by rcases b5 with b | b | b <;> rw [b] <;> decide)] at ew
        rw [b3, e_bnd (f_wid (by omega)), h46 (i + 1) (by omega) b4, e_bnd (f_snd X hin), b6, e_bnd (f_widn σ), nI_add, show nI (t + w (i + 1)) + 0 = nI (t + w (i + 1) + 0) from nI_add _ 0, e_bnd (e_sA (by omega) (by omega)), show t + w (i + 1) + 0 = w i by omega]; rfl
      · rw [b5, if_neg (by decide), if_pos rfl] at ew
        rw [b3, e_bnd (f_wid (by omega)), h46 (i + 1) (by omega) b4, e_bnd (f_snd X hin), b6, e_bnd (f_wid (by omega)), h46 _ (by omega) b7, nI_add, nI_add, e_bnd (e_sA (by omega) (by omega)), show t + w (i + 1) + w (i + 1 + sz (i + 1)) = w i by omega]; rfl
    have M : F_Written_measure (nI i) σ = some ((), σ1) := by
      rw [F_Written_measure, e_bnd (f_isn (by omega) σ), e_el (by decide), e_bnd (e_lA (by omega) (by omega)), h45 i hin]
      have := hb1 i
      rcases (show br i = 0 ∨ br i = 1 by omega) with e | e
      · rw [e, e_if (by decide)]; exact J 1 (by omega)
      · rw [e, e_el (by decide)]; exact J 3 (by omega)
    have e9 : nI i + (-1) = nI i - 1 := by rw [Int32.sub_eq_add_neg]
    rw [show f + (i + 1) + 1 = (f + i + 1) + 1 by omega, e_loop1, F_Written_fill_B98, q_s1 (by omega), Nat.add_sub_cancel, e_el (q_neg (by omega)), e_bnd M, e_bnd (e_pur _ _), e9]
    exact a1
end FILL
/-! THE CLASS WRITES: items -/
def ptS (σ : fx_S) (p : Nat) (kd op nd : Int32) (v : Int64) : fx_S := (σ.1, va_up (va_up (va_up σ.2.1 41 (upd (σ.2.1 41) p kd)) 42 (upd (σ.2.1 42) p op)) 43 (upd (σ.2.1 43) p nd), va_up σ.2.2 44 (vp_updL (σ.2.2 44) p v))
theorem f_put {σ : fx_S} {p N : Nat} (hz : σ.1 646 = nI N) (hN : N ≤ 600) (hp : p < N) (kd op nd : Int32) (v : Int64) : F_Written_put (nI p) kd op nd v σ = some ((), ptS σ p kd op nd v) := by
  rw [F_Written_put, e_bnd (w_has hz hN hp), e_el (by decide), e_bnd (e_sA (by omega) (by omega)), e_bnd (e_sA (by omega) (by omega)), e_bnd (e_sA (by omega) (by omega)), e_bnd (e_sL (by omega) (by omega))]; rfl
theorem ptS_fl (σ : fx_S) (p : Nat) (kd op nd : Int32) (v : Int64) : flF σ (ptS σ p kd op nd v) := ⟨fun _ _ _ => rfl, fun a ha => by
  show va_up (va_up (va_up σ.2.1 41 _) 42 _) 43 _ a = _
  rw [va_up_ne _ _ (by omega), va_up_ne _ _ (by omega), va_up_ne _ _ (by omega)], fun a ha => va_up_ne _ _ ha⟩
/-- item p is as it should be -/
def RG (K O : Nat → Int32) (V : Nat → Int64) (ow : Nat → Nat × Nat) (σ : fx_S) (p : Nat) : Prop := σ.2.1 41 p = iK K ow p ∧ σ.2.1 42 p = iO O ow p ∧ σ.2.1 43 p = nI (ow p).1 ∧ σ.2.2 44 p = iV V ow p
theorem RG_put {K O : Nat → Int32} {V : Nat → Int64} {ow : Nat → Nat × Nat} {σ : fx_S} {p : Nat} : (∀ q, RG K O V ow σ q → RG K O V ow (ptS σ p (iK K ow p) (iO O ow p) (nI (ow p).1) (iV V ow p)) q) ∧ RG K O V ow (ptS σ p (iK K ow p) (iO O ow p) (nI (ow p).1) (iV V ow p)) p := by
  have hp : RG K O V ow (ptS σ p (iK K ow p) (iO O ow p) (nI (ow p).1) (iV V ow p)) p := ⟨q_us _ _ _, q_us _ _ _, q_us _ _ _, q_usL _ _ _⟩
  refine ⟨fun q hq => ?_, hp⟩
  by_cases e : q = p
  · subst e; exact hp
  · refine ⟨?_, ?_, ?_, ?_⟩
    · show upd (σ.2.1 41) p _ q = _
      rw [q_un _ _ e]; exact hq.1
    · show upd (σ.2.1 42) p _ q = _
      rw [q_un _ _ e]; exact hq.2.1
    · show upd (σ.2.1 43) p _ q = _
      rw [q_un _ _ e]; exact hq.2.2.1
    · show vp_updL (σ.2.2 44) p _ q = _
      rw [q_unL _ _ e]; exact hq.2.2.2
section LAYS
variable {K O F G : Nat → Int32} {V : Nat → Int64} {sz : Nat → Nat} {n : Nat} {df kf br w st : Nat → Nat} {ow : Nat → Nat × Nat}
theorem f_start {σ : fx_S} {c : Nat} (hc : c < 200) (v : Int32) : F_Written_setStart (nI c) v σ = some ((), (σ.1, va_up σ.2.1 47 (upd (σ.2.1 47) c v), σ.2.2)) := by
  rw [F_Written_setStart, e_bnd (f_isn hc σ), e_el (by decide), e_bnd (e_sA hc (by omega))]; rfl
theorem f_startn (σ : fx_S) (v : Int32) : F_Written_setStart (-1) v σ = some ((), σ) := by
  rw [F_Written_setStart, e_bnd (f_isnn σ), e_if rfl]; rfl
theorem f_47 (σ : fx_S) (u : Nat → Int32) : flF σ (σ.1, va_up σ.2.1 47 u, σ.2.2) := ⟨fun _ _ _ => rfl, fun a ha => va_up_ne _ _ (by omega), fun _ _ => rfl⟩
def LYI (K O : Nat → Int32) (V : Nat → Int64) (sz : Nat → Nat) (n : Nat) (br w st : Nat → Nat) (ow : Nat → Nat × Nat) (σ : fx_S) (i : Nat) : Prop := σ.1 646 = nI (w 0) ∧ (∀ k, k < n → σ.2.1 45 k = nI (br k)) ∧ (∀ k, k < n → σ.2.1 46 k = nI (w k)) ∧ σ.2.1 47 0 = nI (st 0) ∧ (∀ k g c, k < i → chA K sz k g c → σ.2.1 47 c = nI (st c)) ∧ (∀ p, p < w 0 → (ow p).1 < i → RG K O V ow σ p)
theorem f_lay (h : ∀ k, k < n → ptk K O F G V sz n k) (hz : sz 0 = n) (hn0 : 0 < n) (hn : n ≤ 200) (L : LO K sz n br w st) (hsp : ∀ j, j < n → st j + w j ≤ w 0) (how : ∀ j, j < n → ow (owA K br w st j) = (j, 0) ∧ (br j = 1 → ow (st j) = (j, 3) ∧ ow (st j + w j - 1) = (j, 4))) (hcov : ∀ p, p < w 0 → ∃ j, j < n ∧ ((ow p = (j, 0) ∧ p = owA K br w st j) ∨ (ow p = (j, 3) ∧ p = st j ∧ br j = 1) ∨ (ow p = (j, 4) ∧ p = st j + w j - 1 ∧ br j = 1))) {σ : fx_S} {k : Nat} (hk : k < n) (X : cxF K O F G V n df kf σ) (I : LYI K O V sz n br w st ow σ k) : ∃ σ', F_Written_lay (nI k) σ = some ((), σ') ∧ LYI K O V sz n br w st ow σ' (k + 1) ∧ flF σ σ' := by
  obtain ⟨i1, i2, i3, i4, i5, i6⟩ := I
  have hW0 : w 0 ≤ 600 := by have := (LO_w h L _ _ (Nat.le_refl _) hn0).2; omega
  have hbk := L.1 k
  obtain ⟨hw1, hw2⟩ := how k hk
  have hwk := LO_w h L _ _ (Nat.le_refl _) hk
  have hspk := hsp k hk
  have hst : σ.2.1 47 k = nI (st k) := by
    by_cases e : k = 0
    · subst e; exact i4
    · obtain ⟨j, g, j1, j2, j3⟩ := pt_par h n 0 k (by omega) hn0 (by omega) (by omega)
      exact i5 j g k j2 j3
  have howr : st k + br k ≤ owA K br w st k ∧ owA K br w st k < st k + w k := by
    rcases LO_cases h L hk with ⟨-, -, a3, a4, a5⟩ | ⟨-, b0, a2, a3, a4, a5, a6, a7, a8⟩ | ⟨-, b0, a2, a3, a4, a5, a6⟩ | ⟨-, b0, a2, a3, a4, a5, a6⟩ | ⟨-, b0, a2, a3, a4, a5, a6⟩ <;> omega
  -- the brackets
  obtain ⟨σ1, b1, b2, b3, b4, b5⟩ : ∃ σ1, F_Written_lay (nI k) σ = F_Written_lay_J54 (nI k) (nI (st k + br k)) σ1 ∧ flF σ σ1 ∧ (∀ a, 45 ≤ a → σ1.2.1 a = σ.2.1 a) ∧ σ1.1 = σ.1 ∧ (∀ q, RG K O V ow σ q → RG K O V ow σ1 q) ∧ (br k = 1 → RG K O V ow σ1 (st k) ∧ RG K O V ow σ1 (st k + w k - 1)) := by
    have e0 : F_Written_lay (nI k) σ = (if nI (br k) = 0 then F_Written_lay_J54 (nI k) (nI (st k)) else (fx_bnd (F_Written_put (nI (st k)) 3 (-1) (nI k) 0) fun _ => fx_bnd (l_Written_widths (nI k)) fun x13 => fx_bnd (F_Written_put ((nI (st k) + x13) - 1) 4 (-1) (nI k) 0) fun _ => fx_bnd (fx_pur (nI (st k) + 1)) fun x14 => F_Written_lay_J54 (nI k) x14)) σ := by
      rw [F_Written_lay, e_bnd (f_isn (by omega) σ), e_el (by decide), e_bnd (e_lA (by omega) (by omega)), hst, e_bnd (e_lA (by omega) (by omega)), i2 k hk]
    rcases (show br k = 0 ∨ br k = 1 by omega) with e | e
    · refine ⟨σ, ?_, flF_rfl, fun _ _ => rfl, rfl, fun _ hq => hq, fun z => by omega⟩
      rw [e0, e, e_if (by decide)]; rfl
    · obtain ⟨u1, u2⟩ := hw2 e
      have v1 : iK K ow (st k) = 3 ∧ iO O ow (st k) = -1 ∧ (ow (st k)).1 = k ∧ iV V ow (st k) = 0 := by
        refine ⟨by simp [iK, u1], by simp [iO, u1], by rw [u1], by simp [iV, u1]⟩
      have v2 : iK K ow (st k + w k - 1) = 4 ∧ iO O ow (st k + w k - 1) = -1 ∧ (ow (st k + w k - 1)).1 = k ∧ iV V ow (st k + w k - 1) = 0 := by
        refine ⟨by simp [iK, u2], by simp [iO, u2], by rw [u2], by simp [iV, u2]⟩
      have r1 := RG_put (K := K) (O := O) (V := V) (ow := ow) (σ := σ) (p := st k)
      rw [v1.1, v1.2.1, v1.2.2.1, v1.2.2.2] at r1
      let σa := ptS σ (st k) 3 (-1) (nI k) 0
      have r2 := RG_put (K := K) (O := O) (V := V) (ow := ow) (σ := σa) (p := st k + w k - 1)
      rw [v2.1, v2.2.1, v2.2.2.1, v2.2.2.2] at r2
      let σb := ptS σa (st k + w k - 1) 4 (-1) (nI k) 0
      refine ⟨σb, ?_, flF_tr (ptS_fl _ _ _ _ _ _) (ptS_fl _ _ _ _ _ _), fun a ha => ?_, rfl, fun q hq => r2.1 q (r1.1 q hq), fun _ => ⟨r2.1 _ r1.2, r2.2⟩⟩
      · have w46 : l_Written_widths (nI k) σa = some (nI (w k), σa) := by
          rw [l_Written_widths, e_lA (by omega) (by omega)]
          show some (σ.2.1 46 k, σa) = _
          rw [i3 k hk]
        have i1a : σa.1 646 = nI (w 0) := i1
        rw [e0, e, e_el (by decide), e_bnd (f_put i1 hW0 (by omega) _ _ _ _)]
        refine (e_bnd w46).trans ?_
        rw [nI_add, q_s1 (by omega), e_bnd (f_put i1a hW0 (by omega) _ _ _ _), e_bnd (e_pur _ _), nI_1]
      · show va_up (va_up (va_up (va_up (va_up (va_up σ.2.1 41 _) 42 _) 43 _) 41 _) 42 _) 43 _ a = _
        rw [va_up_ne _ _ (by omega), va_up_ne _ _ (by omega), va_up_ne _ _ (by omega), va_up_ne _ _ (by omega), va_up_ne _ _ (by omega), va_up_ne _ _ (by omega)]
  have X1 := cxF_fr X b2
  have j1 : σ1.1 646 = nI (w 0) := by rw [b4]; exact i1
  -- the own item
  have v0 : iK K ow (owA K br w st k) = okA K k ∧ iO O ow (owA K br w st k) = O k ∧ (ow (owA K br w st k)).1 = k ∧ iV V ow (owA K br w st k) = V k := by
    refine ⟨by simp [iK, hw1], by simp [iO, hw1], by rw [hw1], by simp [iV, hw1]⟩
  have r0 := RG_put (K := K) (O := O) (V := V) (ow := ow) (σ := σ1) (p := owA K br w st k)
  rw [v0.1, v0.2.1, v0.2.2.1, v0.2.2.2] at r0
  let σ2 := ptS σ1 (owA K br w st k) (okA K k) (O k) (nI k) (V k)
  have f2 : flF σ σ2 := flF_tr b2 (ptS_fl _ _ _ _ _ _)
  have X2 := cxF_fr X f2
  have own : F_Written_lay (nI k) σ = F_Written_lay_J145 (nI k) (nI (owA K br w st k)) (if K k = 1 ∨ K k = 3 then nI (st k + br k) else nI (owA K br w st k) + 1) (F k) σ2 := by
    have w46 : ∀ c, c < n → F_Written_widthOf (nI c) σ1 = some (nI (w c), σ1) := fun c hc => by
      rw [f_wid (by omega), b3 46 (by omega), i3 c hc]
    have J54 : F_Written_lay_J54 (nI k) (nI (st k + br k)) σ1 = F_Written_lay_J82 (nI k) (nI (st k + br k)) (F k) (nI (owA K br w st k)) σ1 := by
      rw [F_Written_lay_J54, e_bnd (f_fst X1 hk), e_bnd (f_left X1 hk)]
      unfold owA
      by_cases q : K k = 1 ∨ K k = 3
      · have hF : F k = nI (k + 1) ∧ k + 1 < n := by
          rcases (h k hk).2 with ⟨a1, -⟩ | ⟨-, -, a3, a4, -⟩
          · rcases q with q | q <;> rw [q] at a1 <;> exact absurd a1 (by decide)
          · exact ⟨a3, a4⟩
        rw [if_pos q, e_el (by decide), hF.1, e_bnd (w46 (k + 1) hF.2), nI_add, if_pos q]
      · rw [if_neg q, e_if rfl, if_neg q]
    have J82 : F_Written_lay_J82 (nI k) (nI (st k + br k)) (F k) (nI (owA K br w st k)) σ1 = F_Written_lay_J107 (nI k) (nI (st k + br k)) (F k) (nI (owA K br w st k)) (okA K k) (nI (owA K br w st k)) σ1 := by
      rw [F_Written_lay_J82, e_bnd (f_sec X1 hk)]
      unfold secA okA
      by_cases q : K k = 3 ∨ K k = 4
      · rw [if_pos q, e_el (by decide), if_pos q]
      · rw [if_neg q, e_if (by decide), e_bnd (f_kind X1 hk), if_neg q]
    rw [b1, J54, J82, F_Written_lay_J107, e_bnd (f_opr X1 hk), e_bnd (f_num X1 hk), e_bnd (f_put j1 hW0 (by omega) _ _ _ _)]
    refine (e_bnd (f_left X2 hk)).trans ?_
    by_cases q : K k = 1 ∨ K k = 3
    · rw [if_pos q, e_el (by decide), if_pos q]
    · rw [if_neg q, e_if rfl, if_neg q]
  have s47 : σ2.2.1 47 = σ.2.1 47 := b3 47 (by omega)
  have s45 : σ2.2.1 45 = σ.2.1 45 := b3 45 (by omega)
  have s46 : σ2.2.1 46 = σ.2.1 46 := b3 46 (by omega)
  have RG2 : ∀ p, p < w 0 → (ow p).1 < k + 1 → RG K O V ow σ2 p := by
    intro p hp ho
    by_cases e : (ow p).1 < k
    · exact r0.1 p (b5.1 p (i6 p hp e))
    · obtain ⟨j, hj, hc⟩ := hcov p hp
      have ej : j = k := by
        rcases hc with ⟨z, -⟩ | ⟨z, -⟩ | ⟨z, -⟩ <;> rw [z] at ho e <;> simp only at ho e <;> omega
      subst ej
      rcases hc with ⟨-, rfl⟩ | ⟨-, rfl, z⟩ | ⟨-, rfl, z⟩
      · exact r0.2
      · exact r0.1 _ (b5.2 z).1
      · exact r0.1 _ (b5.2 z).2
  -- the children's starts
  have fin : ∀ u : Nat → Int32, (∀ c, u c = σ.2.1 47 c ∨ u c = nI (st c)) → (∀ g c, chA K sz k g c → u c = nI (st c)) → LYI K O V sz n br w st ow (σ2.1, va_up σ2.2.1 47 u, σ2.2.2) (k + 1) ∧ flF σ (σ2.1, va_up σ2.2.1 47 u, σ2.2.2) := by
    intro u u1 u2
    refine ⟨⟨j1, by rw [← s45] at i2; exact i2, by rw [← s46] at i3; exact i3, ?_, fun k' g c hk' hc => ?_, fun p hp ho => RG2 p hp ho⟩, flF_tr f2 (f_47 σ2 u)⟩
    · show u 0 = _
      rcases u1 0 with z | z
      · rw [z]; exact i4
      · exact z
    · show u c = _
      by_cases e : k' = k
      · subst e; exact u2 g c hc
      · rcases u1 c with z | z
        · rw [z]; exact i5 k' g c (by omega) hc
        · exact z
  have hse := L.2.2.2.1 k hk
  rcases (h k hk).2 with ⟨a1, a2, a3, a4, a5⟩ | ⟨a1, a2, a3, a4, a5⟩
  · have e9 : va_up σ2.2.1 47 (σ2.2.1 47) = σ2.2.1 := by
      funext a
      by_cases e : a = 47
      · subst e; rw [va_up_self]
      · rw [va_up_ne _ _ e]
    obtain ⟨g1, g2⟩ := fin (σ2.2.1 47) (fun c => Or.inl (by rw [s47])) (fun g c hc => by
      rcases hc with ⟨-, -, z | z | z | z⟩ | ⟨-, -, z⟩ <;> rw [a1] at z <;> exact absurd z (by decide))
    rw [e9] at g1 g2
    refine ⟨σ2, ?_, g1, g2⟩
    rw [own, F_Written_lay_J145, a3, e_bnd (f_startn σ2 _), e_bnd (f_snd X2 hk), a4, e_bnd (f_startn σ2 _)]; rfl
  · have hfst : (if K k = 1 ∨ K k = 3 then nI (st k + br k) else nI (owA K br w st k) + 1) = nI (st (k + 1)) := by
      by_cases q : K k = 1 ∨ K k = 3
      · rw [if_pos q, hse.1 q]
      · have q2 : K k = 2 ∨ K k = 4 := by
          rcases a5 with ⟨a | a | a, -⟩ | ⟨a, -⟩
          · exact Or.inl a
          · exact absurd (Or.inr a) q
          · exact Or.inr a
          · exact absurd (Or.inl a) q
        rw [if_neg q, hse.2.1 q2, owA, if_neg q, nI_1]
    have e3 : F_Written_setStart (nI (k + 1)) (nI (st (k + 1))) σ2 = some ((), (σ2.1, va_up σ2.2.1 47 (upd (σ2.2.1 47) (k + 1) (nI (st (k + 1)))), σ2.2.2)) := f_start (by omega) _
    let σ3 : fx_S := (σ2.1, va_up σ2.2.1 47 (upd (σ2.2.1 47) (k + 1) (nI (st (k + 1)))), σ2.2.2)
    have X3 : cxF K O F G V n df kf σ3 := cxF_fr X2 (f_47 σ2 _)
    rw [own, F_Written_lay_J145, hfst, a3, e_bnd e3]
    refine (?_ : ∃ σ', fx_bnd (F_Tree0_secondAt (nI k)) _ σ3 = _ ∧ _)
    rw [e_bnd (f_snd X3 hk)]
    rcases a5 with ⟨a5, a6, a7⟩ | ⟨a5, a6, a7, a8⟩
    · obtain ⟨g1, g2⟩ := fin (upd (σ2.2.1 47) (k + 1) (nI (st (k + 1)))) (fun c => by
        by_cases e : c = k + 1
        · subst e; exact Or.inr (q_us _ _ _)
        · exact Or.inl (by rw [q_un _ _ e, s47])) (fun g c hc => by
        rcases hc with ⟨-, rfl, -⟩ | ⟨-, -, z⟩
        · exact q_us _ _ _
        · rcases a5 with a | a | a <;> rw [a] at z <;> exact absurd z (by decide))
      refine ⟨σ3, ?_, g1, g2⟩
      rw [a6, e_bnd (f_startn σ3 _)]; rfl
    · have hs1 := pt_pos h a4
      have eo : nI (owA K br w st k) + 1 = nI (st (k + 1 + sz (k + 1))) := by
        rw [hse.2.2 a5, owA, if_pos (Or.inl a5), nI_1]
      obtain ⟨g1, g2⟩ := fin (upd (upd (σ2.2.1 47) (k + 1) (nI (st (k + 1)))) (k + 1 + sz (k + 1)) (nI (st (k + 1 + sz (k + 1))))) (fun c => by
        by_cases e : c = k + 1 + sz (k + 1)
        · subst e; exact Or.inr (q_us _ _ _)
        · rw [q_un _ _ e]
          by_cases e2 : c = k + 1
          · subst e2; exact Or.inr (q_us _ _ _)
          · exact Or.inl (by rw [q_un _ _ e2, s47])) (fun g c hc => by
        rcases hc with ⟨-, rfl, -⟩ | ⟨-, rfl, -⟩
        · rw [q_un _ _ (by omega)]; exact q_us _ _ _
        · exact q_us _ _ _)
      refine ⟨(σ2.1, va_up σ2.2.1 47 (upd (upd (σ2.2.1 47) (k + 1) (nI (st (k + 1)))) (k + 1 + sz (k + 1)) (nI (st (k + 1 + sz (k + 1))))), σ2.2.2), ?_, g1, g2⟩
      have e4 := f_start (σ := σ3) (c := k + 1 + sz (k + 1)) (by omega) (nI (st (k + 1 + sz (k + 1))))
      rw [a6, eo, e_bnd e4]
      show some ((), (σ2.1, va_up (va_up σ2.2.1 47 (upd (σ2.2.1 47) (k + 1) (nI (st (k + 1))))) 47 (upd (upd (σ2.2.1 47) (k + 1) (nI (st (k + 1)))) (k + 1 + sz (k + 1)) (nI (st (k + 1 + sz (k + 1))))), σ2.2.2)) = _
      congr 3
      congr 1
      funext a
      by_cases e : a = 47
      · subst e; rw [va_up_self, va_up_self]
      · rw [va_up_ne _ _ e, va_up_ne _ _ e, va_up_ne _ _ e]
/-- the fourth loop -/
theorem f_l4 (h : ∀ k, k < n → ptk K O F G V sz n k) (hz : sz 0 = n) (hn0 : 0 < n) (L : LO K sz n br w st) (hsp : ∀ j, j < n → st j + w j ≤ w 0) (how : ∀ j, j < n → ow (owA K br w st j) = (j, 0) ∧ (br j = 1 → ow (st j) = (j, 3) ∧ ow (st j + w j - 1) = (j, 4))) (hcov : ∀ p, p < w 0 → ∃ j, j < n ∧ ((ow p = (j, 0) ∧ p = owA K br w st j) ∨ (ow p = (j, 3) ∧ p = st j ∧ br j = 1) ∨ (ow p = (j, 4) ∧ p = st j + w j - 1 ∧ br j = 1))) : ∀ (m i f : Nat) (σ : fx_S), m + i = n → cxF K O F G V n df kf σ → LYI K O V sz n br w st ow σ i → ∃ σ', fx_loop1 F_Written_fill_B130 (f + m + 1) (nI i) σ = (fx_bnd (F_Written_countOpen) fun _ => fx_ret ()) σ' ∧ LYI K O V sz n br w st ow σ' n ∧ flF σ σ'
  | 0, i, f, σ, hm, X, I => by
    have : i = n := by omega
    subst this
    have hn := X.1
    refine ⟨σ, ?_, I, flF_rfl⟩
    rw [e_loop1, F_Written_fill_B130, e_bnd (f_size X), e_if (by rw [q_le (by omega) (by omega)]; omega)]
  | m + 1, i, f, σ, hm, X, I => by
    have hn := X.1
    obtain ⟨σ1, a1, a2, a3⟩ := f_lay h hz hn0 hn L hsp how hcov (show i < n by omega) X I
    obtain ⟨σ', b1, b2, b3⟩ := f_l4 h hz hn0 L hsp how hcov m (i + 1) f σ1 (by omega) (cxF_fr X a3) a2
    refine ⟨σ', ?_, b2, flF_tr a3 b3⟩
    rw [show f + (m + 1) + 1 = (f + m + 1) + 1 by omega, e_loop1, F_Written_fill_B130, e_bnd (f_size X), e_el (by rw [q_le (by omega) (by omega)]; omega), e_bnd a1, e_bnd (e_pur _ _), nI_1]
    exact b1
end LAYS
/-- how many brackets are open at most -/
theorem f_open {C : Nat → Int32} {D : Nat → Int64} {N : Nat} (hN : N ≤ 600) : ∀ (m i f : Nat) (σ : fx_S), m + i = N → σ.1 646 = nI N → gr (σ.2.1 41) C D N → σ.1 647 = nI (mxA (σ.2.1 41) i) → ∃ σ', fx_loop2 F_Written_countOpen_B9 (f + m + 1) (nI (stk (σ.2.1 41) i).length) (nI i) σ = some ((), σ') ∧ σ'.1 647 = nI (mxA (σ.2.1 41) N) ∧ (∀ r, r ≠ 647 → σ'.1 r = σ.1 r) ∧ σ'.2 = σ.2
  | 0, i, f, σ, hm, hz, hg, hx => by
    have : i = N := by omega
    subst this
    refine ⟨σ, ?_, hx, fun _ _ => rfl, rfl⟩
    rw [e_loop2, F_Written_countOpen_B9, e_bnd (e_gI _ _), hz, e_if (by rw [q_le (by omega) (by omega)]; omega)]; rfl
  | m + 1, i, f, σ, hm, hz, hg, hx => by
    have stl : ∀ j, (stk (σ.2.1 41) j).length ≤ j := fun j => by
      induction j with
      | zero => simp [stk]
      | succ j ih =>
        unfold stk
        split
        · rw [List.length_cons]; omega
        · split
          · rw [List.length_tail]; omega
          · omega
    have mxl : ∀ j, mxA (σ.2.1 41) j ≤ j := fun j => by
      induction j with
      | zero => exact Nat.le_refl _
      | succ j ih =>
        have := stl (j + 1)
        simp only [mxA]; omega
    have s0 := stl i
    have s1 := stl (i + 1)
    have m0 := mxl i
    let σ1 : fx_S := (va_up σ.1 647 (nI (mxA (σ.2.1 41) (i + 1))), σ.2.1, σ.2.2)
    obtain ⟨σ', a1, a2, a3, a4⟩ := f_open (C := C) (D := D) hN m (i + 1) f σ1 (by omega) hz hg rfl
    refine ⟨σ', ?_, a2, fun r hr => (a3 r hr).trans (va_up_ne _ _ hr), a4⟩
    have hi : i < N := by omega
    have J : F_Written_countOpen_J44 (fx_loop2 F_Written_countOpen_B9 (f + m + 1)) (nI (stk (σ.2.1 41) (i + 1)).length) (nI i) σ = some ((), σ') := by
      have em : (if nI (mxA (σ.2.1 41) i) < nI (stk (σ.2.1 41) (i + 1)).length then nI (stk (σ.2.1 41) (i + 1)).length else nI (mxA (σ.2.1 41) i)) = nI (mxA (σ.2.1 41) (i + 1)) := by
        simp only [mxA]
        by_cases q : mxA (σ.2.1 41) i < (stk (σ.2.1 41) (i + 1)).length
        · rw [if_pos ((q_lt (by omega) (by omega)).mpr q), Nat.max_eq_right (by omega)]
        · rw [if_neg (fun z => q ((q_lt (by omega) (by omega)).mp z)), Nat.max_eq_left (by omega)]
      rw [F_Written_countOpen_J44, e_bnd (e_gI _ _), hx, em, e_bnd (e_pur _ _), e_bnd (e_pI _ _ _), e_bnd (e_pur _ _), nI_1]
      exact a1
    rw [show f + (m + 1) + 1 = (f + m + 1) + 1 by omega, e_loop2, F_Written_countOpen_B9, e_bnd (e_gI _ _), hz, e_el (by rw [q_le (by omega) (by omega)]; omega), e_bnd (w_kind hz hN hi)]
    by_cases h3 : σ.2.1 41 i = 3
    · have e : (stk (σ.2.1 41) (i + 1)).length = (stk (σ.2.1 41) i).length + 1 := by
        simp only [stk]; rw [if_pos h3, List.length_cons]
      rw [e] at J
      rw [e_if h3, e_bnd (e_pur _ _), nI_1]; exact J
    · rw [e_el h3, e_bnd (w_kind hz hN hi)]
      by_cases h4 : σ.2.1 41 i = 4
      · obtain ⟨b, l, hbl⟩ : ∃ b l, stk (σ.2.1 41) i = b :: l := by
          rcases (hg i hi).1 with ⟨h | h | h, -⟩ | ⟨h, -⟩ | ⟨-, b, l, h, -⟩
          · rw [h4] at h; exact absurd h (by decide)
          · rw [h4] at h; exact absurd h (by decide)
          · rw [h4] at h; exact absurd h (by decide)
          · rw [h4] at h; exact absurd h (by decide)
          · exact ⟨b, l, h⟩
        have e : (stk (σ.2.1 41) (i + 1)).length = l.length := by
          simp only [stk]; rw [if_neg h3, if_pos h4, hbl]; rfl
        have e7 : nI (l.length + 1) + (-1) = nI l.length := by
          rw [show nI (l.length + 1) + (-1 : Int32) = nI (l.length + 1) - 1 by rw [Int32.sub_eq_add_neg], q_s1 (by omega), Nat.add_sub_cancel]
        rw [e] at J
        rw [e_if h4, hbl, List.length_cons, e7, e_bnd (e_pur _ _)]; exact J
      · have e : stk (σ.2.1 41) (i + 1) = stk (σ.2.1 41) i := stk_s0 h3 h4
        rw [e] at J
        rw [e_el h4]; exact J
/-! WRITE -/
theorem o_write {σ τ : fx_S} (h : Rel σ τ) (a : Int32) : lw_op Rel [(0, 1), (1, 2)] (F_FixityTrees_write a) (F_Md_write a) (fun r b => r = b) σ τ := by
  obtain ⟨⟨nn, HS⟩, HR, HC, ⟨n, t1, t2, t3, t4, t5, t6⟩, HW⟩ := id h
  obtain ⟨h1, h30, hz, hz', -⟩ := id HS
  have esz : F_Tree0_size σ = some (nI n, σ) := by rw [F_Tree0_size, e_bnd (e_gI _ _), t2]; rfl
  rcases q_idx a nn with ⟨s, hs, -, rfl⟩ | hbad
  · by_cases hn0 : n = 0
    · subst hn0
      refine op_thr0 h (b := 0) 1 2 (by simp) ?_ ?_
      · have e9 : F_FixityTrees_requireTree σ = some (.inr 1, σ) := by
          rw [F_FixityTrees_requireTree, e_bnd esz, e_if (by decide)]; rfl
        rw [F_FixityTrees_write, e_bndx (r_req hz h30 hs), e_bndt e9]
      · rw [F_Md_write, e_bnd (s_isc hz' h30 hs), e_el (by decide), e_bnd (e_gI _ _), t3, e_if (by decide), F_Md_write_J25, e_bnd (m_good (by decide) τ), e_if rfl]; rfl
    · have e9 : F_FixityTrees_requireTree σ = some (.inl (), σ) := by
        rw [F_FixityTrees_requireTree, e_bnd esz, e_el (nI_ne0 (by omega) (by omega))]; rfl
      obtain ⟨df, kf, hT⟩ := fxT_ex HS hs
      obtain ⟨A, B, l1, l2⟩ := l_look0 HS hs hT
      obtain ⟨sz, hsz, pt⟩ : ∃ sz : Nat → Nat, sz 0 = n ∧ ∀ k, k < n → ptk (σ.2.1 27) (σ.2.1 28) (σ.2.1 29) (σ.2.1 30) (σ.2.2 32) sz n k := by
        rcases t6 with t6 | t6
        · exact absurd t6 hn0
        · exact t6
      have hp0 : 0 < n := by omega
      obtain ⟨br, b1, b2, b3, b4⟩ := br_ex pt (ftA (σ.2.1 27) (σ.2.1 28) df kf)
      obtain ⟨w, hw⟩ := wd_ex pt br n (Nat.le_refl _)
      have hw : ∀ k, k < n → wdE (σ.2.1 27) sz br w k := fun k hk => hw k (by omega) hk
      obtain ⟨st, s0, hse⟩ := st_ex pt br w n (Nat.le_refl _)
      have L : LO (σ.2.1 27) sz n br w st := ⟨b1, b4, hw, hse, s0⟩
      obtain ⟨ow, w1, w2⟩ := LO_own pt L n 0 (by omega) hp0
      rw [s0, Nat.zero_add, hsz, Nat.zero_add] at w1 w2
      have hww := LO_w pt L _ _ (Nat.le_refl _) hp0
      have how : ∀ j, j < n → ow (owA (σ.2.1 27) br w st j) = (j, 0) ∧ (br j = 1 → ow (st j) = (j, 3) ∧ ow (st j + w j - 1) = (j, 4)) := fun j hj => (w1 j (by omega) hj).2.2
      have hsp : ∀ j, j < n → st j + w j ≤ w 0 := fun j hj => (w1 j (by omega) hj).2.1
      have hcov : ∀ p, p < w 0 → ∃ j, j < n ∧ ((ow p = (j, 0) ∧ p = owA (σ.2.1 27) br w st j) ∨ (ow p = (j, 3) ∧ p = st j ∧ br j = 1) ∨ (ow p = (j, 4) ∧ p = st j + w j - 1 ∧ br j = 1)) := fun p hp => by
        obtain ⟨j, -, j2, j3⟩ := w2 p (by omega) hp
        exact ⟨j, j2, j3⟩
      -- the class
      let σ1 : fx_S := (σ.1, va_up (va_up σ.2.1 5 A) 6 B, σ.2.2)
      have X1 : cxF (σ.2.1 27) (σ.2.1 28) (σ.2.1 29) (σ.2.1 30) (σ.2.2 32) n df kf σ1 := ⟨t1, t2, rfl, rfl, rfl, rfl, rfl, fun o ho => ⟨(l2 o ho).2, (l2 o ho).1, (hT o ho).2.1, (hT o ho).1⟩⟩
      obtain ⟨σ2, c1, c2, c3⟩ := f_l1 n 0 (fx_fuel - n - 1) σ1 (by omega) X1 (fun k hk => by omega)
      have X2 := cxF_fr X1 c3
      obtain ⟨σ3, d1, d2, d3⟩ := f_l2 pt b3 b1 b4 n 0 (fx_fuel - n - 1) σ2 (by omega) X2 (fun c hc => by
        by_cases e : c = 0
        · subst e; left; rw [c2 0 hc, b2]
        · obtain ⟨k, g, k1, k2, k3⟩ := pt_par pt n 0 c (by omega) hp0 (by omega) (by omega)
          exact Or.inr ⟨c2 c hc, k, g, k1, by omega, k3⟩)
      have X3 := cxF_fr X2 d3
      obtain ⟨σ4, e1, e2, e3, e4⟩ := f_l3 pt b1 hw n (fx_fuel - n - 1) σ3 (Nat.le_refl _) X3 d2 (fun k k1 k2 => by omega)
      have X4 := cxF_fr X3 e4
      rw [show fx_fuel - n - 1 + n + 1 = fx_fuel by unfold fx_fuel; omega] at c1 d1 e1
      let σ5 : fx_S := (va_up σ4.1 646 (nI (w 0)), va_up σ4.2.1 47 (upd (σ4.2.1 47) 0 0), σ4.2.2)
      have f5 : flF σ4 σ5 := ⟨fun r h1 h2 => va_up_ne _ _ h1, fun a ha => va_up_ne _ _ (by omega), fun _ _ => rfl⟩
      have X5 := cxF_fr X4 f5
      have I5 : LYI (σ.2.1 27) (σ.2.1 28) (σ.2.2 32) sz n br w st ow σ5 0 := by
        refine ⟨rfl, e2, e3, ?_, fun k g c hk => by omega, fun p hp ho => by omega⟩
        show upd (σ4.2.1 47) 0 0 0 = _
        rw [q_us, s0]; rfl
      obtain ⟨σ6, g1, g2, g3⟩ := f_l4 pt hsz hp0 L hsp how hcov n 0 (fx_fuel - n - 1) σ5 (by omega) X5 I5
      rw [show fx_fuel - n - 1 + n + 1 = fx_fuel by unfold fx_fuel; omega] at g1
      obtain ⟨i1, -, -, -, -, i6⟩ := g2
      have hRG : ∀ p, p < w 0 → RG (σ.2.1 27) (σ.2.1 28) (σ.2.2 32) ow σ6 p := fun p hp => i6 p hp (by
        obtain ⟨j, j1, j2⟩ := hcov p hp
        rcases j2 with ⟨z, -⟩ | ⟨z, -⟩ | ⟨z, -⟩ <;> rw [z] <;> exact j1)
      obtain ⟨gg, gs⟩ := txt_gr pt hp0 hsz L how (fun i hi => by
        obtain ⟨j, j1, j2⟩ := hcov i hi
        exact ⟨j, j1, by rcases j2 with ⟨z, -⟩ | ⟨z, -⟩ | ⟨z, -⟩; exact Or.inl z; exact Or.inr (Or.inl z); exact Or.inr (Or.inr z)⟩) (B := σ6.2.1 41) (C := σ6.2.1 42) (D := σ6.2.2 44) (fun i hi => by
        obtain ⟨r1, r2, r3, r4⟩ := hRG i hi
        exact ⟨r1, r2, r4⟩)
      let σ7 : fx_S := (va_up σ6.1 647 0, σ6.2.1, σ6.2.2)
      obtain ⟨σ8, o1, o2, o3, o4⟩ := f_open (C := σ6.2.1 42) (D := σ6.2.2 44) (N := w 0) (by omega) (w 0) 0 (fx_fuel - w 0 - 1) σ7 (by omega) i1 gg rfl
      rw [show fx_fuel - w 0 - 1 + w 0 + 1 = fx_fuel by unfold fx_fuel; omega] at o1
      have hfill : F_Written_fill σ1 = some ((), σ8) := by
        rw [F_Written_fill]
        refine c1.trans ?_
        refine d1.trans ?_
        refine e1.trans ?_
        have ew : F_Written_widthOf 0 σ4 = some (nI (w 0), σ4) := by
          rw [show (0 : Int32) = nI 0 from rfl, f_wid (by omega), e3 0 hp0]
        rw [e_bnd ew, e_bnd (e_pI _ _ _)]
        have es : F_Written_setStart 0 0 (va_up σ4.1 646 (nI (w 0)), σ4.2.1, σ4.2.2) = some ((), σ5) := f_start (σ := (va_up σ4.1 646 (nI (w 0)), σ4.2.1, σ4.2.2)) (c := 0) (by omega) 0
        rw [e_bnd es]
        refine (show fx_loop1 F_Written_fill_B130 fx_fuel 0 σ5 = _ from g1).trans ?_
        have ec : F_Written_countOpen σ6 = some ((), σ8) := by
          rw [F_Written_countOpen, e_bnd (e_pI _ _ _)]
          exact o1
        rw [e_bnd ec]; rfl
      have r646 : σ8.1 646 = nI (w 0) := by rw [o3 646 (by omega)]; exact i1
      have fC : flF σ1 σ8 := flF_tr c3 (flF_tr d3 (flF_tr e4 (flF_tr f5 (flF_tr g3 ⟨fun r h1 h2 => by
        rw [o3 r h2]; exact va_up_ne _ _ h2, fun a ha => by rw [o4], fun a ha => by rw [o4]⟩))))
      -- the reference
      let τ0 : fx_S := (va_up (va_up (va_up (va_up τ.1 0 0) 39 1) 40 0) 47 0, τ.2.1, τ.2.2)
      have Y0 : cxW (σ.2.1 27) (σ.2.1 28) (σ.2.1 29) (σ.2.1 30) (σ.2.2 32) n s df kf τ0 := by
        refine ⟨fun k hk => ?_, σ, nn, RSn_cg HS rfl rfl, hs, fxT_cg HS hs hT rfl rfl⟩
        obtain ⟨k1, k2, k3, k4, k5, k6⟩ := t5 k hk
        exact ⟨k1, k2, k3, k4, k6⟩
      obtain ⟨τ1, u1, u2, u3, u4, u5, u6⟩ := w_due (τ := τ0) (D := []) ⟨rfl, fun i e he => by simp at he⟩ (by simp) 10 0
      have hdk : dkA (σ.2.1 27) br 0 = 10 := by
        unfold dkA
        rw [if_neg]
        rintro ⟨z1, z2⟩
        rw [b2, secA, if_neg (by rcases z1 with z | z <;> rw [z] <;> decide)] at z2
        omega
      obtain ⟨τ2, c, v1, v2, v3, v4, v5⟩ := w_nodeA (s := s) pt t1 L b3 how n 0 τ1 [] (by omega) hp0 (cxW_fr Y0 u3) ⟨by rw [u4, s0]; rfl, fun j hj => by rw [s0] at hj; omega⟩ (by rw [s0]; omega) (by rw [hdk]; exact u2) (by simp only [List.length_nil]; omega)
      rw [s0, Nat.zero_add] at v3
      have hm : F_Md_write (nI s) τ = some (nI (w 0), τ2) := by
        rw [F_Md_write, e_bnd (s_isc hz' h30 hs), e_el (by decide), e_bnd (e_gI _ _), t3, e_el (nI_ne0 (by omega) (by omega)), F_Md_write_J25, e_bnd (m_good0 τ), e_el (by decide), e_bnd (e_pZ (Or.inr rfl)), e_bnd (e_pI _ _ _), e_bnd (e_pI _ _ _)]
        refine (e_bnd u1).trans ?_
        have := v2 (fx_fuel - c)
        rw [show fx_fuel - c + c = fx_fuel by unfold fx_fuel; omega] at this
        rw [this, show fx_fuel - c = (fx_fuel - c - 1) + 1 by unfold fx_fuel; omega, e_loop1, F_Md_write_B55, e_bnd (e_gI _ _), v4.1, e_if (by decide), e_bnd (e_gI _ _), v3.1]; rfl
      have fM : wF τ0 τ2 := wF_tr u3 v5
      refine op_ret (r := nI (w 0)) (b := nI (w 0)) (σ' := σ8) (τ' := τ2) ?_ hm ?_ rfl ?_
      · have e8 : F_Written_size σ8 = some (nI (w 0), σ8) := by rw [F_Written_size, e_bnd (e_gI _ _), r646]; rfl
        rw [F_FixityTrees_write, e_bndx (r_req hz h30 hs), e_bndx e9, e_bnd l1]
        refine (e_bnd hfill).trans ?_
        rw [e_bnd e8]; rfl
      · rw [fM.1 0 (by omega) (by omega)]; rfl
      · have g : ∀ a, a ≠ 5 → a ≠ 6 → a < 41 → σ8.2.1 a = σ.2.1 a := fun a h5 h6 h7 => by
          rw [fC.2.1 a (by omega)]
          show va_up (va_up σ.2.1 5 A) 6 B a = _
          rw [va_up_ne _ _ h6, va_up_ne _ _ h5]
        have gr1 : ∀ r, r ≠ 646 → r ≠ 647 → σ8.1 r = σ.1 r := fun r h6 h7 => fC.1 r h6 h7
        have gl : ∀ a, a ≠ 44 → σ8.2.2 a = σ.2.2 a := fun a ha => fC.2.2 a ha
        have m1 : ∀ r, 0 < r → r ≠ 39 → r ≠ 40 → r ≠ 47 → τ2.1 r = τ.1 r := fun r h1 h2 h3 h4 => by
          rw [fM.1 r h3 h4]
          show va_up (va_up (va_up (va_up τ.1 0 0) 39 1) 40 0) 47 0 r = _
          rw [va_up_ne _ _ h4, va_up_ne _ _ h3, va_up_ne _ _ h2, va_up_ne _ _ (by omega)]
        have m2 : ∀ a, a < 23 → τ2.2.1 a = τ.2.1 a := fun a ha => fM.2.1 a (by omega)
        have m3 : ∀ a, a ≠ 26 → τ2.2.2 a = τ.2.2 a := fun a ha => fM.2.2 a ha
        refine ⟨RS_cg ⟨nn, HS⟩ ?_ ?_, RR_cg HR ?_ ?_, RC_cg HC ?_ ?_, RT_cg ⟨n, t1, t2, t3, t4, t5, t6⟩ ?_ ?_, ⟨w 0, by omega, r646, v3.1, Or.inr ⟨?_, by omega⟩, fun k hk => ?_, ?_, ?_, ?_⟩⟩
        · simp only [kS]; rw [gr1 18 (by omega) (by omega), g 2 (by omega) (by omega) (by omega), g 3 (by omega) (by omega) (by omega)]
        · simp only [kS']; rw [m1 1 (by omega) (by omega) (by omega) (by omega), m2 1 (by omega), m2 2 (by omega), m2 3 (by omega)]
        · simp only [kR]; rw [gr1 117 (by omega) (by omega), gr1 118 (by omega) (by omega), gr1 119 (by omega) (by omega), g 8 (by omega) (by omega) (by omega), g 9 (by omega) (by omega) (by omega), g 10 (by omega) (by omega) (by omega), g 12 (by omega) (by omega) (by omega), gl 11 (by omega)]
        · simp only [kR']; rw [m1 5 (by omega) (by omega) (by omega) (by omega), m1 6 (by omega) (by omega) (by omega) (by omega), m1 10 (by omega) (by omega) (by omega) (by omega), m2 4 (by omega), m2 5 (by omega), m2 7 (by omega), m3 6 (by omega)]
        · simp only [kC]; rw [gr1 7 (by omega) (by omega), gr1 8 (by omega) (by omega), gr1 9 (by omega) (by omega), gr1 10 (by omega) (by omega)]
        · simp only [kC']; rw [m1 22 (by omega) (by omega) (by omega) (by omega), m1 23 (by omega) (by omega) (by omega) (by omega), m1 24 (by omega) (by omega) (by omega) (by omega), m1 25 (by omega) (by omega) (by omega) (by omega)]
        · simp only [kT]; rw [gr1 422 (by omega) (by omega), gr1 423 (by omega) (by omega), g 27 (by omega) (by omega) (by omega), g 28 (by omega) (by omega) (by omega), g 29 (by omega) (by omega) (by omega), g 30 (by omega) (by omega) (by omega), g 31 (by omega) (by omega) (by omega), gl 32 (by omega)]
        · simp only [kT']; rw [m1 12 (by omega) (by omega) (by omega) (by omega), m1 21 (by omega) (by omega) (by omega) (by omega), m2 8 (by omega), m2 9 (by omega), m2 10 (by omega), m2 11 (by omega), m2 12 (by omega), m3 14 (by omega)]
        · rw [fM.1 39 (by omega) (by omega)]; rfl
        · obtain ⟨x1, x2, x3, x4⟩ := v3.2 k hk
          obtain ⟨y1, y2, y3, y4⟩ := hRG k hk
          rw [o4]
          exact ⟨x1.trans y1.symm, x2.trans y2.symm, x3.trans y3.symm, x4.trans y4.symm⟩
        · rw [o2, o4]
        · rw [o4]; exact gg
        · rw [o4]; exact gs
  · refine op_thr0 h (b := 0) 0 1 (by simp) ?_ ?_
    · rw [F_FixityTrees_write, e_bndt (r_reqn hz h30 hbad)]
    · rw [F_Md_write, e_bnd (s_iscn hz' h1 h30 hbad), e_if rfl, F_Md_write_J25, e_bnd (m_good (by decide) τ), e_if rfl]; rfl
/-! TAKE -/
theorem mxA_ge {A : Nat → Int32} : ∀ {N j : Nat}, j ≤ N → (stk A j).length ≤ mxA A N
  | 0, j, h => by
    have : j = 0 := by omega
    subst this; simp [stk]
  | N + 1, j, h => by
    simp only [mxA]
    by_cases e : j = N + 1
    · subst e; exact Nat.le_max_right _ _
    · exact Nat.le_trans (mxA_ge (show j ≤ N by omega)) (Nat.le_max_left _ _)
theorem stk_len {A : Nat → Int32} (j : Nat) : (stk A j).length ≤ j := by
  induction j with
  | zero => simp [stk]
  | succ j ih =>
    unfold stk
    split
    · rw [List.length_cons]; omega
    · split
      · rw [List.length_tail]; omega
      · omega
theorem mxA_len {A : Nat → Int32} (j : Nat) : mxA A j ≤ j := by
  induction j with
  | zero => exact Nat.le_refl _
  | succ j ih =>
    have := stk_len (A := A) (j + 1)
    simp only [mxA]; omega
theorem mxA_cg {A B : Nat → Int32} : ∀ {N : Nat}, (∀ j, j < N → B j = A j) → mxA B N = mxA A N
  | 0, _ => rfl
  | N + 1, h => by
    have ih := mxA_cg (A := A) (B := B) (N := N) (fun j hj => h j (by omega))
    simp only [mxA, ih, stk_congr (K := A) (K' := B) (j := N + 1) h]
/-- the class takes -/
theorem k_tk {N : Nat} {A O : Nat → Int32} {V : Nat → Int64} (hN : N ≤ 200) (hg : gr A O V N) (hm : mxA A N ≤ 40) : ∀ (m i f : Nat) (σ : fx_S), m + i = N → σ.1 646 = nI N → σ.2.1 41 = A → σ.2.1 42 = O → σ.2.2 44 = V → rowC (σ.1 117) (σ.1 118) (σ.2.1 8) (σ.2.1 9) (σ.2.1 10) (σ.2.2 11) (σ.2.1 12) i → (∀ j, j < i → σ.2.1 8 j = A j ∧ σ.2.1 10 j = O j ∧ σ.2.2 11 j = V j) → ∃ σ', fx_loop1 F_FixityTrees_take_B65 (f + m + 1) (nI i) σ = some (.inl (nI N), σ') ∧ rowC (σ'.1 117) (σ'.1 118) (σ'.2.1 8) (σ'.2.1 9) (σ'.2.1 10) (σ'.2.2 11) (σ'.2.1 12) N ∧ (∀ j, j < N → σ'.2.1 8 j = A j ∧ σ'.2.1 10 j = O j ∧ σ'.2.2 11 j = V j) ∧ addF σ σ'
  | 0, i, f, σ, h, hz, h41, h42, h44, hC, hE => by
    have : i = N := by omega
    subst this
    have e0 : F_Written_size σ = some (nI i, σ) := by rw [F_Written_size, e_bnd (e_gI _ _), hz]; rfl
    refine ⟨σ, ?_, hC, hE, ⟨fun _ _ _ => rfl, fun _ _ _ _ _ => rfl, fun _ _ => rfl⟩⟩
    rw [e_loop1, F_FixityTrees_take_B65, e_bnd e0, e_if (by rw [q_le (by omega) (by omega)]; omega), F_Row_size]
    simp only [fx_bnd, fx_bndx, e_gI, e_pI, e_rz0, e_rz1, e_ret, e_pur, e_thr, e_if, e_el, hC.2.1]
  | m + 1, i, f, σ, h, hz, h41, h42, h44, hC, hE => by
    have hi : i < N := by omega
    have e0 : F_Written_size σ = some (nI N, σ) := by rw [F_Written_size, e_bnd (e_gI _ _), hz]; rfl
    have ek : F_Written_kindAt (nI i) σ = some (A i, σ) := by rw [w_kind hz (by omega) hi, h41]
    have eo : F_Written_operatorAt (nI i) σ = some (O i, σ) := by rw [w_opr hz (by omega) hi, h42]
    have ev : F_Written_numberAt (nI i) σ = some (V i, σ) := by rw [w_num hz (by omega) hi, h44]
    have hag : ∀ j, j ≤ i → upd (σ.2.1 8) i (A i) j = A j := fun j hj => by
      by_cases e : j = i
      · subst e; rw [q_us]
      · rw [q_un _ _ e]; exact (hE j (by omega)).1
    obtain ⟨σ1, a1, a2, a3, a4, a5, a6⟩ := r_add (k := A i) (o := O i) (v := V i) hC (by omega) (gj_congr (K := A) hag (fun _ _ hs => stk_hd hs) (hg i hi).1) (hg i hi).2 (by
      rw [stk_congr (K := A) (K' := upd (σ.2.1 8) i (A i)) (j := i + 1) (fun j hj => hag j (by omega))]
      exact Nat.le_trans (mxA_ge (show i + 1 ≤ N by omega)) hm)
    obtain ⟨σ', b1, b2, b3, b4⟩ := k_tk hN hg hm m (i + 1) f σ1 (by omega) (by rw [a6.1 646 (by omega) (by omega)]; exact hz) (by rw [a6.2.1 41 (by omega) (by omega) (by omega) (by omega)]; exact h41) (by rw [a6.2.1 42 (by omega) (by omega) (by omega) (by omega)]; exact h42) (by rw [a6.2.2 44 (by omega)]; exact h44) a2 (fun j hj => by
      rw [a3, a4, a5]
      by_cases e : j = i
      · subst e; rw [q_us, q_us, q_usL]; exact ⟨rfl, rfl, rfl⟩
      · rw [q_un _ _ e, q_un _ _ e, q_unL _ _ e]; exact hE j (by omega))
    refine ⟨σ', ?_, b2, b3, ⟨fun r h1 h2 => (b4.1 r h1 h2).trans (a6.1 r h1 h2), fun a h1 h2 h3 h4 => (b4.2.1 a h1 h2 h3 h4).trans (a6.2.1 a h1 h2 h3 h4), fun a h1 => (b4.2.2 a h1).trans (a6.2.2 a h1)⟩⟩
    rw [show f + (m + 1) + 1 = (f + m + 1) + 1 by omega, e_loop1, F_FixityTrees_take_B65, e_bnd e0, e_el (by rw [q_le (by omega) (by omega)]; omega), e_bnd ek, e_bnd eo, e_bnd ev, e_bnd a1, e_bnd (e_pur _ _), nI_1]
    exact b1
/-- the reference takes -/
theorem m_tk {N : Nat} {A O : Nat → Int32} {V : Nat → Int64} (hN : N ≤ 200) : ∀ (m i f : Nat) (τ : fx_S), m + i = N → τ.1 40 = nI N → (∀ j, j < N → τ.2.1 23 j = A j ∧ τ.2.1 24 j = O j ∧ τ.2.2 26 j = V j) → τ.1 5 = nI i → (∀ j, j < i → τ.2.1 4 j = A j ∧ τ.2.1 5 j = O j ∧ τ.2.2 6 j = V j) → ∃ τ', fx_loop1 F_Md_take_B117 (f + m + 1) (nI i) τ = some (nI N, τ') ∧ τ'.1 5 = nI N ∧ (∀ j, j < N → τ'.2.1 4 j = A j ∧ τ'.2.1 5 j = O j ∧ τ'.2.2 6 j = V j) ∧ (∀ r, r ≠ 5 → τ'.1 r = τ.1 r) ∧ (∀ a, a ≠ 4 → a ≠ 5 → τ'.2.1 a = τ.2.1 a) ∧ (∀ a, a ≠ 6 → τ'.2.2 a = τ.2.2 a)
  | 0, i, f, τ, h, hz, hw, h5, hE => by
    have : i = N := by omega
    subst this
    refine ⟨τ, ?_, h5, hE, fun _ _ => rfl, fun _ _ _ => rfl, fun _ _ => rfl⟩
    rw [e_loop1, F_Md_take_B117, e_bnd (e_gI _ _), hz, e_if (by rw [q_le (by omega) (by omega)]; omega), e_bnd (e_gI _ _), h5]; rfl
  | m + 1, i, f, τ, h, hz, hw, h5, hE => by
    have hi : i < N := by omega
    obtain ⟨w1, w2, w3⟩ := hw i hi
    let τ1 : fx_S := (va_up τ.1 5 (nI (i + 1)), va_up (va_up τ.2.1 4 (upd (τ.2.1 4) i (A i))) 5 (upd (τ.2.1 5) i (O i)), va_up τ.2.2 6 (vp_updL (τ.2.2 6) i (V i)))
    have ea : F_Md_add (A i) (O i) (V i) τ = some (nI (i + 1), τ1) := m_add h5 (by omega) _ _ _
    obtain ⟨τ', b1, b2, b3, b4, b5, b6⟩ := m_tk (A := A) (O := O) (V := V) hN m (i + 1) f τ1 (by omega) hz hw rfl (fun j hj => by
      show upd (τ.2.1 4) i (A i) j = _ ∧ upd (τ.2.1 5) i (O i) j = _ ∧ vp_updL (τ.2.2 6) i (V i) j = _
      by_cases e : j = i
      · subst e; rw [q_us, q_us, q_usL]; exact ⟨rfl, rfl, rfl⟩
      · rw [q_un _ _ e, q_un _ _ e, q_unL _ _ e]; exact hE j (by omega))
    refine ⟨τ', ?_, b2, b3, fun r hr => (b4 r hr).trans (va_up_ne _ _ hr), fun a h1 h2 => (b5 a h1 h2).trans ?_, fun a ha => (b6 a ha).trans (va_up_ne _ _ ha)⟩
    · rw [show f + (m + 1) + 1 = (f + m + 1) + 1 by omega, e_loop1, F_Md_take_B117, e_bnd (e_gI _ _), hz, e_el (by rw [q_le (by omega) (by omega)]; omega), e_bnd (e_lA (by omega) (by omega)), w1, e_bnd (e_lA (by omega) (by omega)), w2, e_bnd (e_lL (by omega) (by omega)), w3, e_bnd ea, e_bnd (e_pur _ _), nI_1]
      exact b1
    · show va_up (va_up τ.2.1 4 _) 5 _ a = _
      rw [va_up_ne _ _ h2, va_up_ne _ _ h1]
/-- the reference counts first -/
theorem m_tk0 {N : Nat} {A O : Nat → Int32} {V : Nat → Int64} {τ : fx_S} (hN : N ≤ 600) (hg : gr A O V N) (hz : τ.1 40 = nI N) (hw : ∀ j, j < N → τ.2.1 23 j = A j) : ∀ (m i f : Nat), m + i = N → fx_loop3 F_Md_take_B6 (f + m + 1) (nI (stk A i).length) (nI (mxA A i)) (nI i) τ = (fx_bnd g_Md_isWritten fun x2 => if x2 = 0 then F_Md_take_J87 else (fx_bnd g_Md_wrote fun x11 => if 200 < x11 then F_Md_take_J87 else if nI (mxA A N) ≤ 40 then F_Md_take_J92 0 else F_Md_take_J87)) τ
  | 0, i, f, h => by
    have : i = N := by omega
    subst this
    rw [e_loop3, F_Md_take_B6, e_bnd (e_gI _ _), hz, e_if (by rw [q_le (by omega) (by omega)]; omega)]
  | m + 1, i, f, h => by
    have hi : i < N := by omega
    have ih := m_tk0 hN hg hz hw m (i + 1) f (by omega)
    have s0 := stk_len (A := A) i
    have s1 := stk_len (A := A) (i + 1)
    have m0 := mxA_len (A := A) i
    rw [show f + (m + 1) + 1 = (f + m + 1) + 1 by omega, e_loop3, F_Md_take_B6, e_bnd (e_gI _ _), hz, e_el (by rw [q_le (by omega) (by omega)]; omega), e_bnd (e_lA (by omega) (by omega)), hw i hi, ← ih]
    have J : ∀ (l t : Int32), l + t = nI (stk A (i + 1)).length → F_Md_take_J44 (fx_loop3 F_Md_take_B6 (f + m + 1)) (nI (mxA A i)) (nI i) t l τ = fx_loop3 F_Md_take_B6 (f + m + 1) (nI (stk A (i + 1)).length) (nI (mxA A (i + 1))) (nI (i + 1)) τ := by
      intro l t e
      rw [F_Md_take_J44, e, e_bnd (e_pur _ _)]
      simp only [mxA]
      by_cases q : (stk A (i + 1)).length ≤ mxA A i
      · rw [e_if ((q_le (by omega) (by omega)).mpr q), F_Md_take_J56, e_bnd (e_pur _ _), nI_1, Nat.max_eq_left q]
      · rw [e_el (fun z => q ((q_le (by omega) (by omega)).mp z)), F_Md_take_J56, e_bnd (e_pur _ _), nI_1, Nat.max_eq_right (by omega)]
    by_cases h3 : A i = 3
    · have e : (stk A (i + 1)).length = (stk A i).length + 1 := by
        simp only [stk]; rw [if_pos h3, List.length_cons]
      rw [e_if h3, J _ _ (by rw [e]; exact nI_1 _)]
    · rw [e_el h3, e_bnd (e_lA (by omega) (by omega)), hw i hi]
      by_cases h4 : A i = 4
      · obtain ⟨b, l, hbl⟩ : ∃ b l, stk A i = b :: l := by
          rcases (hg i hi).1 with ⟨h | h | h, -⟩ | ⟨h, -⟩ | ⟨-, b, l, h, -⟩
          · rw [h4] at h; exact absurd h (by decide)
          · rw [h4] at h; exact absurd h (by decide)
          · rw [h4] at h; exact absurd h (by decide)
          · rw [h4] at h; exact absurd h (by decide)
          · exact ⟨b, l, h⟩
        have e : (stk A (i + 1)).length = l.length := by
          simp only [stk]; rw [if_neg h3, if_pos h4, hbl]; rfl
        have e7 : nI (l.length + 1) + (-1) = nI l.length := by
          rw [show nI (l.length + 1) + (-1 : Int32) = nI (l.length + 1) - 1 by rw [Int32.sub_eq_add_neg], q_s1 (by omega), Nat.add_sub_cancel]
        rw [e_if h4, J _ _ (by rw [e, hbl, List.length_cons]; exact e7)]
      · have e : stk A (i + 1) = stk A i := stk_s0 h3 h4
        rw [e_el h4, J _ _ (by rw [e]; exact nI_add _ 0)]
theorem o_take {σ τ : fx_S} (h : Rel σ τ) : lw_op Rel [(1, 1)] F_FixityTrees_take F_Md_take (fun r b => r = b) σ τ := by
  obtain ⟨HS, HR, HC, HT, ⟨N, w1, w2, w3, w4, w5, w6, w7, w8⟩⟩ := id h
  have e0 : F_Written_size σ = some (nI N, σ) := by rw [F_Written_size, e_bnd (e_gI _ _), w2]; rfl
  have eo : F_Written_mostOpen σ = some (nI (mxA (σ.2.1 41) N), σ) := by rw [F_Written_mostOpen, e_bnd (e_gI _ _), w6]; rfl
  have hmx := mxA_len (A := σ.2.1 41) N
  have m0 := m_tk0 (τ := τ) w1 w7 w3 (fun j hj => (w5 j hj).1) N 0 (fx_fuel - N - 1) (by omega)
  rw [show fx_fuel - N - 1 + N + 1 = fx_fuel by unfold fx_fuel; omega] at m0
  have m0 : F_Md_take τ = _ := m0
  have bad : F_FixityTrees_take σ = some (.inr 1, σ) → F_Md_take τ = F_Md_take_J87 τ → lw_op Rel [(1, 1)] F_FixityTrees_take F_Md_take (fun r b => r = b) σ τ := by
    intro b1 b2
    refine op_thr0 h (b := 0) 1 1 (by simp) b1 ?_
    rw [b2, F_Md_take_J87, F_Md_take_J92, e_bnd (m_good (by decide) τ), e_if rfl]; rfl
  rw [e_bnd (e_gI _ _)] at m0
  rcases w4 with ⟨x1, x2⟩ | ⟨x1, x2⟩
  · subst x2
    refine bad ?_ ?_
    · rw [F_FixityTrees_take, e_bnd e0, e_if (by decide)]; rfl
    · rw [m0, e_if x1]
  · rw [e_el (by rw [x1]; decide), e_bnd (e_gI _ _), w3] at m0
    have c0 : F_FixityTrees_take σ = (if 200 < nI N then fx_thr 1 else (fx_bnd (F_Written_mostOpen) fun x3 => if x3 ≤ 40 then (fx_bnd (F_Row_clear 0) fun _ => fx_loop1 (F_FixityTrees_take_B65) fx_fuel 0) else fx_thr 1)) σ := by
      rw [F_FixityTrees_take, e_bnd e0, e_el (nI_ne0 (by omega) (by omega)), e_bnd e0]
    by_cases q1 : 200 < N
    · rw [e_if ((q_200lt (by omega)).mpr q1)] at m0 c0
      exact bad c0 m0
    · rw [e_el (fun z => q1 ((q_200lt (by omega)).mp z))] at m0 c0
      rw [e_bnd eo] at c0
      by_cases q2 : mxA (σ.2.1 41) N ≤ 40
      · rw [e_if ((q_le40 (by omega)).mpr q2)] at m0 c0
        let σ1 : fx_S := (va_up (va_up (va_up σ.1 117 0) 118 0) 119 0, σ.2.1, σ.2.2)
        let τ1 : fx_S := (va_up (va_up (va_up (va_up τ.1 0 0) 5 0) 10 0) 6 0, τ.2.1, τ.2.2)
        have ec : F_Row_clear 0 σ = some ((), σ1) := by
          simp only [F_Row_clear, fx_bnd, fx_bndx, e_gI, e_pI, e_rz0, e_rz1, e_ret, e_pur, e_thr, e_if, e_el, e_pZ (Or.inl rfl)]
          rfl
        obtain ⟨σ2, a1, a2, a3, a4⟩ := k_tk (A := σ.2.1 41) (O := σ.2.1 42) (V := σ.2.2 44) (by omega) w7 q2 N 0 (fx_fuel - N - 1) σ1 (by omega) w2 rfl rfl rfl ⟨by omega, rfl, rfl, fun j hj => by
          have : j = 0 := by omega
          subst this; simp [stk], fun j hj => by omega, fun j hj => by omega, fun e b hb => by simp [stk] at hb⟩ (fun j hj => by omega)
        obtain ⟨τ2, b1, b2, b3, b4, b5, b6⟩ := m_tk (A := σ.2.1 41) (O := σ.2.1 42) (V := σ.2.2 44) (show N ≤ 200 by omega) N 0 (fx_fuel - N - 1) τ1 (by omega) w3 (fun j hj => ⟨(w5 j hj).1, (w5 j hj).2.1, (w5 j hj).2.2.2⟩) rfl (fun j hj => by omega)
        rw [show fx_fuel - N - 1 + N + 1 = fx_fuel by unfold fx_fuel; omega] at a1 b1
        refine op_ret (r := nI N) (b := nI N) (σ' := σ2) (τ' := τ2) ?_ ?_ ?_ rfl ?_
        · rw [c0, e_bnd ec]; exact a1
        · rw [m0, F_Md_take_J92, e_bnd (m_good0 τ), e_el (by decide), e_bnd (e_pI _ _ _), e_bnd (e_pI _ _ _), e_bnd (e_pZ (Or.inl rfl))]
          exact b1
        · rw [b4 0 (by omega)]; rfl
        · have g1 : ∀ r, r ≠ 117 → r ≠ 118 → r ≠ 119 → σ2.1 r = σ.1 r := fun r h1 h2 h3 => by
            rw [a4.1 r h1 h2]
            show va_up (va_up (va_up σ.1 117 0) 118 0) 119 0 r = _
            rw [va_up_ne _ _ h3, va_up_ne _ _ h2, va_up_ne _ _ h1]
          have g2 : ∀ a, a ≠ 8 → a ≠ 9 → a ≠ 10 → a ≠ 12 → σ2.2.1 a = σ.2.1 a := fun a h1 h2 h3 h4 => a4.2.1 a h1 h2 h3 h4
          have g3 : ∀ a, a ≠ 11 → σ2.2.2 a = σ.2.2 a := fun a h1 => a4.2.2 a h1
          have m1 : ∀ r, r ≠ 0 → r ≠ 5 → r ≠ 6 → r ≠ 10 → τ2.1 r = τ.1 r := fun r h1 h2 h3 h4 => by
            rw [b4 r h2]
            show va_up (va_up (va_up (va_up τ.1 0 0) 5 0) 10 0) 6 0 r = _
            rw [va_up_ne _ _ h3, va_up_ne _ _ h4, va_up_ne _ _ h2, va_up_ne _ _ h1]
          have hsk : stk (σ2.2.1 8) N = [] := by rw [stk_congr (K := σ.2.1 41) (fun j hj => (a3 j hj).1)]; exact w8
          refine ⟨RS_cg HS ?_ ?_, ⟨N, a2, ⟨b2, ?_, fun j hj => ?_, fun e b hb => ?_⟩, ?_, ?_⟩, RC_cg HC ?_ ?_, RT_cg HT ?_ ?_, RW_cg ⟨N, w1, w2, w3, Or.inr ⟨x1, x2⟩, w5, w6, w7, w8⟩ ?_ ?_⟩
          · simp only [kS]; rw [g1 18 (by omega) (by omega) (by omega), g2 2 (by omega) (by omega) (by omega) (by omega), g2 3 (by omega) (by omega) (by omega) (by omega)]
          · simp only [kS']; rw [m1 1 (by omega) (by omega) (by omega) (by omega), b5 1 (by omega) (by omega), b5 2 (by omega) (by omega), b5 3 (by omega) (by omega)]
          · rw [hsk, b4 10 (by omega)]; rfl
          · obtain ⟨p1, p2, p3⟩ := a3 j hj
            obtain ⟨r1, r2, r3⟩ := b3 j hj
            exact ⟨r1.trans p1.symm, r2.trans p2.symm, r3.trans p3.symm⟩
          · rw [hsk] at hb; simp at hb
          · rw [a4.1 119 (by omega) (by omega), b4 6 (by omega)]; rfl
          · left; rw [b4 6 (by omega)]; rfl
          · simp only [kC]; rw [g1 7 (by omega) (by omega) (by omega), g1 8 (by omega) (by omega) (by omega), g1 9 (by omega) (by omega) (by omega), g1 10 (by omega) (by omega) (by omega)]
          · simp only [kC']; rw [m1 22 (by omega) (by omega) (by omega) (by omega), m1 23 (by omega) (by omega) (by omega) (by omega), m1 24 (by omega) (by omega) (by omega) (by omega), m1 25 (by omega) (by omega) (by omega) (by omega)]
          · simp only [kT]; rw [g1 422 (by omega) (by omega) (by omega), g1 423 (by omega) (by omega) (by omega), g2 27 (by omega) (by omega) (by omega) (by omega), g2 28 (by omega) (by omega) (by omega) (by omega), g2 29 (by omega) (by omega) (by omega) (by omega), g2 30 (by omega) (by omega) (by omega) (by omega), g2 31 (by omega) (by omega) (by omega) (by omega), g3 32 (by omega)]
          · simp only [kT']; rw [m1 12 (by omega) (by omega) (by omega) (by omega), m1 21 (by omega) (by omega) (by omega) (by omega), b5 8 (by omega) (by omega), b5 9 (by omega) (by omega), b5 10 (by omega) (by omega), b5 11 (by omega) (by omega), b5 12 (by omega) (by omega), b6 14 (by omega)]
          · simp only [kW]; rw [g1 646 (by omega) (by omega) (by omega), g1 647 (by omega) (by omega) (by omega), g2 41 (by omega) (by omega) (by omega) (by omega), g2 42 (by omega) (by omega) (by omega) (by omega), g2 43 (by omega) (by omega) (by omega) (by omega), g3 44 (by omega)]
          · simp only [kW']; rw [m1 39 (by omega) (by omega) (by omega) (by omega), m1 40 (by omega) (by omega) (by omega) (by omega), b5 23 (by omega) (by omega), b5 24 (by omega) (by omega), b5 25 (by omega) (by omega), b6 26 (by omega)]
      · rw [e_el (fun z => q2 ((q_le40 (by omega)).mp z))] at m0 c0
        exact bad c0 m0
