/-! THE PURE PART: numbers, evaluation -/
theorem q_lt {a b : Nat} (ha : a < 2 ^ 31) (hb : b < 2 ^ 31) : nI a < nI b ↔ a < b := by
  rw [Int32.lt_iff_toInt_lt, nI_toInt ha, nI_toInt hb]; omega
theorem q_le {a b : Nat} (ha : a < 2 ^ 31) (hb : b < 2 ^ 31) : nI a ≤ nI b ↔ a ≤ b := by
  rw [Int32.le_iff_toInt_le, nI_toInt ha, nI_toInt hb]; omega
theorem q_eq {a b : Nat} (ha : a < 2 ^ 31) (hb : b < 2 ^ 31) : nI a = nI b ↔ a = b := by
  rw [← Int32.toInt_inj, nI_toInt ha, nI_toInt hb]; omega
theorem q_neg {a : Nat} (ha : a < 2 ^ 31) : ¬ nI a < 0 := nI_pos ha
theorem q_m1 {a : Nat} (ha : a < 2 ^ 31) : ¬ nI a = -1 := by
  rw [← Int32.toInt_inj, nI_toInt ha]
  intro h
  have : ((-1 : Int32)).toInt = -1 := by decide
  omega
theorem q_sub {a b : Nat} (h : b ≤ a) : nI a - nI b = nI (a - b) := by
  have e : nI a = nI (a - b) + nI b := by rw [nI_add]; congr 1; omega
  rw [e, Int32.add_sub_cancel]
theorem q_mul (a b : Nat) : nI a * nI b = nI (a * b) := (Int32.ofNat_mul a b).symm
/-- what is not negative is a number -/
theorem q_nat {v : Int32} (h : ¬ v < 0) : ∃ j : Nat, j < 2 ^ 31 ∧ v = nI j := by
  have h0 : ¬ v.toInt < 0 := by
    intro q; exact h (Int32.lt_iff_toInt_lt.mpr q)
  have h1 := Int32.toInt_lt v
  refine ⟨v.toInt.toNat, by omega, ?_⟩
  rw [← Int32.toInt_inj, nI_toInt (by omega)]; omega
theorem q_cl {k : Nat} (h : k < 2 ^ 31) : (nI k).toNatClampNeg = k := nI_clamp h
theorem e_lA {a n k : Nat} {σ : fx_S} (h : k < n) (hn : n < 2 ^ 31) : fx_lA a n (nI k) σ = some (σ.2.1 a k, σ) := by
  unfold fx_lA
  rw [if_neg (nI_in h hn), nI_clamp (by omega)]
theorem e_lL {a n k : Nat} {σ : fx_S} (h : k < n) (hn : n < 2 ^ 31) : fx_lL a n (nI k) σ = some (σ.2.2 a k, σ) := by
  unfold fx_lL
  rw [if_neg (nI_in h hn), nI_clamp (by omega)]
theorem e_sA {a n k : Nat} {v : Int32} {σ : fx_S} (h : k < n) (hn : n < 2 ^ 31) : fx_sA a n (nI k) v σ = some ((), (σ.1, va_up σ.2.1 a (upd (σ.2.1 a) k v), σ.2.2)) := by
  unfold fx_sA
  rw [if_neg (nI_in h hn), nI_clamp (by omega)]
theorem e_sZ {a n k : Nat} {v : Int32} {σ : fx_S} (h : k < n) (hn : n < 2 ^ 31) (hv : v = 0 ∨ v = 1) : fx_sZ a n (nI k) v σ = some ((), (σ.1, va_up σ.2.1 a (upd (σ.2.1 a) k v), σ.2.2)) := by
  have e : vp_nar .boolean v = v := by rcases hv with rfl | rfl <;> rfl
  unfold fx_sZ
  rw [if_neg (nI_in h hn), nI_clamp (by omega), e]
theorem e_sZ0 {a n k : Nat} {σ : fx_S} (h : k < n) (hn : n < 2 ^ 31) : fx_sZ a n (nI k) 0 σ = some ((), (σ.1, va_up σ.2.1 a (upd (σ.2.1 a) k 0), σ.2.2)) := e_sZ h hn (Or.inl rfl)
theorem e_sZ1 {a n k : Nat} {σ : fx_S} (h : k < n) (hn : n < 2 ^ 31) : fx_sZ a n (nI k) 1 σ = some ((), (σ.1, va_up σ.2.1 a (upd (σ.2.1 a) k 1), σ.2.2)) := e_sZ h hn (Or.inr rfl)
theorem e_sL {a n k : Nat} {v : Int64} {σ : fx_S} (h : k < n) (hn : n < 2 ^ 31) : fx_sL a n (nI k) v σ = some ((), (σ.1, σ.2.1, va_up σ.2.2 a (vp_updL (σ.2.2 a) k v))) := by
  unfold fx_sL
  rw [if_neg (nI_in h hn), nI_clamp (by omega)]
theorem e_gI (r : Nat) (σ : fx_S) : fx_gI r σ = some (σ.1 r, σ) := rfl
theorem e_pI (r : Nat) (v : Int32) (σ : fx_S) : fx_pI r v σ = some ((), (va_up σ.1 r v, σ.2.1, σ.2.2)) := rfl
theorem e_pZ {r : Nat} {v : Int32} {σ : fx_S} (hv : v = 0 ∨ v = 1) : fx_pZ r v σ = some ((), (va_up σ.1 r v, σ.2.1, σ.2.2)) := by
  unfold fx_pZ; rw [if_pos hv]
theorem e_rz0 (σ : fx_S) : fx_retz 0 σ = some (0, σ) := rfl
theorem e_rz1 (σ : fx_S) : fx_retz 1 σ = some (1, σ) := rfl
theorem e_rz {v : Int32} {σ : fx_S} (hv : v = 0 ∨ v = 1) : fx_retz v σ = some (v, σ) := by
  unfold fx_retz; rw [if_pos hv]
theorem e_ret {α : Type} (a : α) (σ : fx_S) : fx_ret a σ = some (a, σ) := rfl
theorem e_pur {α : Type} (a : α) (σ : fx_S) : fx_pur a σ = some (a, σ) := rfl
theorem e_thr {α : Type} (e : Nat) (σ : fx_S) : fx_thr (α := α) e σ = some (.inr e, σ) := rfl
theorem e_bnd {α β : Type} {m : fx_M α} {k : α → fx_M β} {σ σ' : fx_S} {a : α} (h : m σ = some (a, σ')) : fx_bnd m k σ = k a σ' := by
  unfold fx_bnd; rw [h]
theorem e_bndx {α β : Type} {m : fx_M (α ⊕ Nat)} {k : α → fx_M (β ⊕ Nat)} {σ σ' : fx_S} {a : α} (h : m σ = some (.inl a, σ')) : fx_bndx m k σ = k a σ' := by
  unfold fx_bndx; rw [h]
theorem e_bndt {α β : Type} {m : fx_M (α ⊕ Nat)} {k : α → fx_M (β ⊕ Nat)} {σ σ' : fx_S} {e : Nat} (h : m σ = some (.inr e, σ')) : fx_bndx m k σ = some (.inr e, σ') := by
  unfold fx_bndx; rw [h]
theorem e_if {β : Type} {c : Prop} [Decidable c] {a b : fx_M β} {σ : fx_S} (h : c) : (if c then a else b) σ = a σ := by rw [if_pos h]
theorem e_el {β : Type} {c : Prop} [Decidable c] {a b : fx_M β} {σ : fx_S} (h : ¬ c) : (if c then a else b) σ = b σ := by rw [if_neg h]
theorem q_us (f : Nat → Int32) (k : Nat) (v : Int32) : upd f k v k = v := by simp [upd]
theorem q_un (f : Nat → Int32) {k j : Nat} (v : Int32) (h : j ≠ k) : upd f k v j = f j := by simp [upd, h]
theorem q_usL (f : Nat → Int64) (k : Nat) (v : Int64) : vp_updL f k v k = v := by simp [vp_updL]
theorem q_unL (f : Nat → Int64) {k j : Nat} (v : Int64) (h : j ≠ k) : vp_updL f k v j = f j := by simp [vp_updL, h]
theorem q_0 : (0 : Int32) = nI 0 := rfl
theorem q_lt0 {a : Nat} (ha : a < 2 ^ 31) : nI a < 0 ↔ a < 0 := q_lt (b := 0) ha (by decide)
theorem q_0lt {a : Nat} (ha : a < 2 ^ 31) : 0 < nI a ↔ 0 < a := q_lt (a := 0) (by decide) ha
theorem q_le0 {a : Nat} (ha : a < 2 ^ 31) : nI a ≤ 0 ↔ a ≤ 0 := q_le (b := 0) ha (by decide)
theorem q_0le {a : Nat} (ha : a < 2 ^ 31) : 0 ≤ nI a ↔ 0 ≤ a := q_le (a := 0) (by decide) ha
theorem q_eq0 {a : Nat} (ha : a < 2 ^ 31) : nI a = 0 ↔ a = 0 := q_eq (b := 0) ha (by decide)
theorem q_0eq {a : Nat} (ha : a < 2 ^ 31) : 0 = nI a ↔ 0 = a := q_eq (a := 0) (by decide) ha
theorem q_lt1 {a : Nat} (ha : a < 2 ^ 31) : nI a < 1 ↔ a < 1 := q_lt (b := 1) ha (by decide)
theorem q_1lt {a : Nat} (ha : a < 2 ^ 31) : 1 < nI a ↔ 1 < a := q_lt (a := 1) (by decide) ha
theorem q_le1 {a : Nat} (ha : a < 2 ^ 31) : nI a ≤ 1 ↔ a ≤ 1 := q_le (b := 1) ha (by decide)
theorem q_1le {a : Nat} (ha : a < 2 ^ 31) : 1 ≤ nI a ↔ 1 ≤ a := q_le (a := 1) (by decide) ha
theorem q_eq1 {a : Nat} (ha : a < 2 ^ 31) : nI a = 1 ↔ a = 1 := q_eq (b := 1) ha (by decide)
theorem q_1eq {a : Nat} (ha : a < 2 ^ 31) : 1 = nI a ↔ 1 = a := q_eq (a := 1) (by decide) ha
theorem q_lt2 {a : Nat} (ha : a < 2 ^ 31) : nI a < 2 ↔ a < 2 := q_lt (b := 2) ha (by decide)
theorem q_2lt {a : Nat} (ha : a < 2 ^ 31) : 2 < nI a ↔ 2 < a := q_lt (a := 2) (by decide) ha
theorem q_le2 {a : Nat} (ha : a < 2 ^ 31) : nI a ≤ 2 ↔ a ≤ 2 := q_le (b := 2) ha (by decide)
theorem q_2le {a : Nat} (ha : a < 2 ^ 31) : 2 ≤ nI a ↔ 2 ≤ a := q_le (a := 2) (by decide) ha
theorem q_eq2 {a : Nat} (ha : a < 2 ^ 31) : nI a = 2 ↔ a = 2 := q_eq (b := 2) ha (by decide)
theorem q_2eq {a : Nat} (ha : a < 2 ^ 31) : 2 = nI a ↔ 2 = a := q_eq (a := 2) (by decide) ha
theorem q_lt3 {a : Nat} (ha : a < 2 ^ 31) : nI a < 3 ↔ a < 3 := q_lt (b := 3) ha (by decide)
theorem q_3lt {a : Nat} (ha : a < 2 ^ 31) : 3 < nI a ↔ 3 < a := q_lt (a := 3) (by decide) ha
theorem q_le3 {a : Nat} (ha : a < 2 ^ 31) : nI a ≤ 3 ↔ a ≤ 3 := q_le (b := 3) ha (by decide)
theorem q_3le {a : Nat} (ha : a < 2 ^ 31) : 3 ≤ nI a ↔ 3 ≤ a := q_le (a := 3) (by decide) ha
theorem q_eq3 {a : Nat} (ha : a < 2 ^ 31) : nI a = 3 ↔ a = 3 := q_eq (b := 3) ha (by decide)
theorem q_3eq {a : Nat} (ha : a < 2 ^ 31) : 3 = nI a ↔ 3 = a := q_eq (a := 3) (by decide) ha
theorem q_lt4 {a : Nat} (ha : a < 2 ^ 31) : nI a < 4 ↔ a < 4 := q_lt (b := 4) ha (by decide)
theorem q_4lt {a : Nat} (ha : a < 2 ^ 31) : 4 < nI a ↔ 4 < a := q_lt (a := 4) (by decide) ha
theorem q_le4 {a : Nat} (ha : a < 2 ^ 31) : nI a ≤ 4 ↔ a ≤ 4 := q_le (b := 4) ha (by decide)
theorem q_4le {a : Nat} (ha : a < 2 ^ 31) : 4 ≤ nI a ↔ 4 ≤ a := q_le (a := 4) (by decide) ha
theorem q_eq4 {a : Nat} (ha : a < 2 ^ 31) : nI a = 4 ↔ a = 4 := q_eq (b := 4) ha (by decide)
theorem q_4eq {a : Nat} (ha : a < 2 ^ 31) : 4 = nI a ↔ 4 = a := q_eq (a := 4) (by decide) ha
theorem q_1a (a : Nat) : 1 + nI a = nI (1 + a) := nI_add 1 a
theorem q_lt6 {a : Nat} (ha : a < 2 ^ 31) : nI a < 6 ↔ a < 6 := q_lt (b := 6) ha (by decide)
theorem q_6lt {a : Nat} (ha : a < 2 ^ 31) : 6 < nI a ↔ 6 < a := q_lt (a := 6) (by decide) ha
theorem q_le6 {a : Nat} (ha : a < 2 ^ 31) : nI a ≤ 6 ↔ a ≤ 6 := q_le (b := 6) ha (by decide)
theorem q_6le {a : Nat} (ha : a < 2 ^ 31) : 6 ≤ nI a ↔ 6 ≤ a := q_le (a := 6) (by decide) ha
theorem q_eq6 {a : Nat} (ha : a < 2 ^ 31) : nI a = 6 ↔ a = 6 := q_eq (b := 6) ha (by decide)
theorem q_lt10 {a : Nat} (ha : a < 2 ^ 31) : nI a < 10 ↔ a < 10 := q_lt (b := 10) ha (by decide)
theorem q_10lt {a : Nat} (ha : a < 2 ^ 31) : 10 < nI a ↔ 10 < a := q_lt (a := 10) (by decide) ha
theorem q_le10 {a : Nat} (ha : a < 2 ^ 31) : nI a ≤ 10 ↔ a ≤ 10 := q_le (b := 10) ha (by decide)
theorem q_10le {a : Nat} (ha : a < 2 ^ 31) : 10 ≤ nI a ↔ 10 ≤ a := q_le (a := 10) (by decide) ha
theorem q_eq10 {a : Nat} (ha : a < 2 ^ 31) : nI a = 10 ↔ a = 10 := q_eq (b := 10) ha (by decide)
theorem q_lt30 {a : Nat} (ha : a < 2 ^ 31) : nI a < 30 ↔ a < 30 := q_lt (b := 30) ha (by decide)
theorem q_30lt {a : Nat} (ha : a < 2 ^ 31) : 30 < nI a ↔ 30 < a := q_lt (a := 30) (by decide) ha
theorem q_le30 {a : Nat} (ha : a < 2 ^ 31) : nI a ≤ 30 ↔ a ≤ 30 := q_le (b := 30) ha (by decide)
theorem q_30le {a : Nat} (ha : a < 2 ^ 31) : 30 ≤ nI a ↔ 30 ≤ a := q_le (a := 30) (by decide) ha
theorem q_eq30 {a : Nat} (ha : a < 2 ^ 31) : nI a = 30 ↔ a = 30 := q_eq (b := 30) ha (by decide)
theorem q_lt40 {a : Nat} (ha : a < 2 ^ 31) : nI a < 40 ↔ a < 40 := q_lt (b := 40) ha (by decide)
theorem q_40lt {a : Nat} (ha : a < 2 ^ 31) : 40 < nI a ↔ 40 < a := q_lt (a := 40) (by decide) ha
theorem q_le40 {a : Nat} (ha : a < 2 ^ 31) : nI a ≤ 40 ↔ a ≤ 40 := q_le (b := 40) ha (by decide)
theorem q_40le {a : Nat} (ha : a < 2 ^ 31) : 40 ≤ nI a ↔ 40 ≤ a := q_le (a := 40) (by decide) ha
theorem q_eq40 {a : Nat} (ha : a < 2 ^ 31) : nI a = 40 ↔ a = 40 := q_eq (b := 40) ha (by decide)
theorem q_lt41 {a : Nat} (ha : a < 2 ^ 31) : nI a < 41 ↔ a < 41 := q_lt (b := 41) ha (by decide)
theorem q_41lt {a : Nat} (ha : a < 2 ^ 31) : 41 < nI a ↔ 41 < a := q_lt (a := 41) (by decide) ha
theorem q_le41 {a : Nat} (ha : a < 2 ^ 31) : nI a ≤ 41 ↔ a ≤ 41 := q_le (b := 41) ha (by decide)
theorem q_41le {a : Nat} (ha : a < 2 ^ 31) : 41 ≤ nI a ↔ 41 ≤ a := q_le (a := 41) (by decide) ha
theorem q_eq41 {a : Nat} (ha : a < 2 ^ 31) : nI a = 41 ↔ a = 41 := q_eq (b := 41) ha (by decide)
theorem q_lt200 {a : Nat} (ha : a < 2 ^ 31) : nI a < 200 ↔ a < 200 := q_lt (b := 200) ha (by decide)
theorem q_200lt {a : Nat} (ha : a < 2 ^ 31) : 200 < nI a ↔ 200 < a := q_lt (a := 200) (by decide) ha
theorem q_le200 {a : Nat} (ha : a < 2 ^ 31) : nI a ≤ 200 ↔ a ≤ 200 := q_le (b := 200) ha (by decide)
theorem q_200le {a : Nat} (ha : a < 2 ^ 31) : 200 ≤ nI a ↔ 200 ≤ a := q_le (a := 200) (by decide) ha
theorem q_eq200 {a : Nat} (ha : a < 2 ^ 31) : nI a = 200 ↔ a = 200 := q_eq (b := 200) ha (by decide)
theorem q_lt400 {a : Nat} (ha : a < 2 ^ 31) : nI a < 400 ↔ a < 400 := q_lt (b := 400) ha (by decide)
theorem q_400lt {a : Nat} (ha : a < 2 ^ 31) : 400 < nI a ↔ 400 < a := q_lt (a := 400) (by decide) ha
theorem q_le400 {a : Nat} (ha : a < 2 ^ 31) : nI a ≤ 400 ↔ a ≤ 400 := q_le (b := 400) ha (by decide)
theorem q_400le {a : Nat} (ha : a < 2 ^ 31) : 400 ≤ nI a ↔ 400 ≤ a := q_le (a := 400) (by decide) ha
theorem q_eq400 {a : Nat} (ha : a < 2 ^ 31) : nI a = 400 ↔ a = 400 := q_eq (b := 400) ha (by decide)
theorem q_lt600 {a : Nat} (ha : a < 2 ^ 31) : nI a < 600 ↔ a < 600 := q_lt (b := 600) ha (by decide)
theorem q_600lt {a : Nat} (ha : a < 2 ^ 31) : 600 < nI a ↔ 600 < a := q_lt (a := 600) (by decide) ha
theorem q_le600 {a : Nat} (ha : a < 2 ^ 31) : nI a ≤ 600 ↔ a ≤ 600 := q_le (b := 600) ha (by decide)
theorem q_600le {a : Nat} (ha : a < 2 ^ 31) : 600 ≤ nI a ↔ 600 ≤ a := q_le (a := 600) (by decide) ha
theorem q_eq600 {a : Nat} (ha : a < 2 ^ 31) : nI a = 600 ↔ a = 600 := q_eq (b := 600) ha (by decide)
theorem q_lt800 {a : Nat} (ha : a < 2 ^ 31) : nI a < 800 ↔ a < 800 := q_lt (b := 800) ha (by decide)
theorem q_800lt {a : Nat} (ha : a < 2 ^ 31) : 800 < nI a ↔ 800 < a := q_lt (a := 800) (by decide) ha
theorem q_le800 {a : Nat} (ha : a < 2 ^ 31) : nI a ≤ 800 ↔ a ≤ 800 := q_le (b := 800) ha (by decide)
theorem q_800le {a : Nat} (ha : a < 2 ^ 31) : 800 ≤ nI a ↔ 800 ≤ a := q_le (a := 800) (by decide) ha
theorem q_eq800 {a : Nat} (ha : a < 2 ^ 31) : nI a = 800 ↔ a = 800 := q_eq (b := 800) ha (by decide)
theorem q_lt900 {a : Nat} (ha : a < 2 ^ 31) : nI a < 900 ↔ a < 900 := q_lt (b := 900) ha (by decide)
theorem q_900lt {a : Nat} (ha : a < 2 ^ 31) : 900 < nI a ↔ 900 < a := q_lt (a := 900) (by decide) ha
theorem q_le900 {a : Nat} (ha : a < 2 ^ 31) : nI a ≤ 900 ↔ a ≤ 900 := q_le (b := 900) ha (by decide)
theorem q_900le {a : Nat} (ha : a < 2 ^ 31) : 900 ≤ nI a ↔ 900 ≤ a := q_le (a := 900) (by decide) ha
theorem q_eq900 {a : Nat} (ha : a < 2 ^ 31) : nI a = 900 ↔ a = 900 := q_eq (b := 900) ha (by decide)
theorem q_m41 (a : Nat) : nI a * 41 = nI (a * 41) := q_mul a 41
theorem q_41m (a : Nat) : 41 * nI a = nI (41 * a) := q_mul 41 a
theorem q_dm10 : (((-1) : Int32) = 0) = False := eq_false (by decide)
theorem q_dm11 : (((-1) : Int32) = 1) = False := eq_false (by decide)
theorem q_dm12 : (((-1) : Int32) = 2) = False := eq_false (by decide)
theorem q_dm13 : (((-1) : Int32) = 3) = False := eq_false (by decide)
theorem q_dm14 : (((-1) : Int32) = 4) = False := eq_false (by decide)
theorem q_d0m1 : ((0 : Int32) = (-1)) = False := eq_false (by decide)
theorem q_d01 : ((0 : Int32) = 1) = False := eq_false (by decide)
theorem q_d02 : ((0 : Int32) = 2) = False := eq_false (by decide)
theorem q_d03 : ((0 : Int32) = 3) = False := eq_false (by decide)
theorem q_d04 : ((0 : Int32) = 4) = False := eq_false (by decide)
theorem q_d1m1 : ((1 : Int32) = (-1)) = False := eq_false (by decide)
theorem q_d10 : ((1 : Int32) = 0) = False := eq_false (by decide)
theorem q_d12 : ((1 : Int32) = 2) = False := eq_false (by decide)
theorem q_d13 : ((1 : Int32) = 3) = False := eq_false (by decide)
theorem q_d14 : ((1 : Int32) = 4) = False := eq_false (by decide)
theorem q_d2m1 : ((2 : Int32) = (-1)) = False := eq_false (by decide)
theorem q_d20 : ((2 : Int32) = 0) = False := eq_false (by decide)
theorem q_d21 : ((2 : Int32) = 1) = False := eq_false (by decide)
theorem q_d23 : ((2 : Int32) = 3) = False := eq_false (by decide)
theorem q_d24 : ((2 : Int32) = 4) = False := eq_false (by decide)
theorem q_d3m1 : ((3 : Int32) = (-1)) = False := eq_false (by decide)
theorem q_d30 : ((3 : Int32) = 0) = False := eq_false (by decide)
theorem q_d31 : ((3 : Int32) = 1) = False := eq_false (by decide)
theorem q_d32 : ((3 : Int32) = 2) = False := eq_false (by decide)
theorem q_d34 : ((3 : Int32) = 4) = False := eq_false (by decide)
theorem q_d4m1 : ((4 : Int32) = (-1)) = False := eq_false (by decide)
theorem q_d40 : ((4 : Int32) = 0) = False := eq_false (by decide)
theorem q_d41 : ((4 : Int32) = 1) = False := eq_false (by decide)
theorem q_d42 : ((4 : Int32) = 2) = False := eq_false (by decide)
theorem q_d43 : ((4 : Int32) = 3) = False := eq_false (by decide)
theorem q_dn : ((-1 : Int32) < 0) = True := eq_true (by decide)
theorem q_9lt {a : Nat} (ha : a < 2 ^ 31) : 9 < nI a ↔ 9 < a := q_lt (a := 9) (by decide) ha
theorem q_s1 {a : Nat} (h : 0 < a) : nI a - 1 = nI (a - 1) := q_sub (b := 1) h
theorem q_m1l {a : Nat} (ha : a < 2 ^ 31) : ¬ (-1 : Int32) = nI a := fun h => q_m1 ha h.symm
/-- answers of both sides -/
theorem op_ret {α β : Type} {Rel : fx_S → fx_S → Prop} {hs : List (Nat × Int32)} {FC : fx_M (α ⊕ Nat)} {FR : fx_M β} {cmp : α → β → Prop} {σ τ σ' τ' : fx_S} {r : α} {b : β} (h1 : FC σ = some (.inl r, σ')) (h2 : FR τ = some (b, τ')) (h3 : τ'.1 0 = 0) (h4 : cmp r b) (h5 : Rel σ' τ') : lw_op Rel hs FC FR cmp σ τ := ⟨b, σ', τ', h2, h5, Or.inl ⟨r, h1, h3, h4⟩⟩
theorem op_thr {α β : Type} {Rel : fx_S → fx_S → Prop} {hs : List (Nat × Int32)} {FC : fx_M (α ⊕ Nat)} {FR : fx_M β} {cmp : α → β → Prop} {σ τ σ' τ' : fx_S} {b : β} (e : Nat) (k : Int32) (hm : (e, k) ∈ hs) (h1 : FC σ = some (.inr e, σ')) (h2 : FR τ = some (b, τ')) (h3 : τ'.1 0 = k) (h5 : Rel σ' τ') : lw_op Rel hs FC FR cmp σ τ := ⟨b, σ', τ', h2, h5, Or.inr ⟨(e, k), hm, h1, h3⟩⟩
theorem q_idx (v : Int32) (n : Nat) : (∃ j, j < n ∧ j < 2 ^ 31 ∧ v = nI j) ∨ v < 0 ∨ ∃ j, n ≤ j ∧ j < 2 ^ 31 ∧ v = nI j := by
  by_cases h : v < 0
  · exact Or.inr (Or.inl h)
  · obtain ⟨j, hj, rfl⟩ := q_nat h
    by_cases hn : j < n
    · exact Or.inl ⟨j, hn, hj, rfl⟩
    · exact Or.inr (Or.inr ⟨j, by omega, hj, rfl⟩)
theorem e_loop0 {R : Type} (b : fx_M R → fx_M R) (n : Nat) : fx_loop0 b (n + 1) = b (fx_loop0 b n) := rfl
theorem e_loop1 {A R : Type} (b : (A → fx_M R) → A → fx_M R) (n : Nat) : fx_loop1 b (n + 1) = b (fx_loop1 b n) := rfl
theorem e_loop2 {A A2 R : Type} (b : (A → A2 → fx_M R) → A → A2 → fx_M R) (n : Nat) : fx_loop2 b (n + 1) = b (fx_loop2 b n) := rfl
theorem e_loop3 {A A2 A3 R : Type} (b : (A → A2 → A3 → fx_M R) → A → A2 → A3 → fx_M R) (n : Nat) : fx_loop3 b (n + 1) = b (fx_loop3 b n) := rfl
theorem e_loop4 {A A2 A3 A4 R : Type} (b : (A → A2 → A3 → A4 → fx_M R) → A → A2 → A3 → A4 → fx_M R) (n : Nat) : fx_loop4 b (n + 1) = b (fx_loop4 b n) := rfl
theorem e_loop5 {A A2 A3 A4 A5 R : Type} (b : (A → A2 → A3 → A4 → A5 → fx_M R) → A → A2 → A3 → A4 → A5 → fx_M R) (n : Nat) : fx_loop5 b (n + 1) = b (fx_loop5 b n) := rfl
/-! THE RELATION between class and reference -/
/-- the open brackets ahead of item j, innermost first -/
def stk (K : Nat → Int32) : Nat → List Nat
  | 0 => []
  | j + 1 => if K j = 3 then j :: stk K j else if K j = 4 then (stk K j).tail else stk K j
theorem stk_congr {K K' : Nat → Int32} : ∀ {j : Nat}, (∀ i, i < j → K' i = K i) → stk K' j = stk K j
  | 0, _ => rfl
  | j + 1, h => by
    have ih := stk_congr (j := j) (fun i hi => h i (by omega))
    simp only [stk, ih, h j (by omega)]
/-- an operand is due at j -/
def dueA (K : Nat → Int32) (j : Nat) : Prop := j = 0 ∨ K (j - 1) = 1 ∨ K (j - 1) = 2 ∨ K (j - 1) = 3
/-- item j may stand where it stands -/
def gj (K : Nat → Int32) (j : Nat) : Prop :=
  ((K j = 0 ∨ K j = 2 ∨ K j = 3) ∧ dueA K j) ∨ (K j = 1 ∧ (¬ dueA K j ∨ (0 < j ∧ K (j - 1) = 3))) ∨ (K j = 4 ∧ ∃ b s, stk K j = b :: s ∧ (¬ dueA K j ∨ (0 < j ∧ K (j - 1) = 1 ∧ ¬ K (b + 1) = 1)))
/-- what an item holds -/
def gi (k o : Int32) (v : Int64) : Prop := (k = 0 ∧ o = -1) ∨ (k = 1 ∧ (∃ q : Nat, q < 41 ∧ o = nI q) ∧ v = 0) ∨ (k = 2 ∧ o = 0 ∧ v = 0) ∨ ((k = 3 ∨ k = 4) ∧ o = -1 ∧ v = 0)
def gr (K O : Nat → Int32) (V : Nat → Int64) (n : Nat) : Prop := ∀ j, j < n → gj K j ∧ gi (K j) (O j) (V j)
theorem gj_congr {K K' : Nat → Int32} {j : Nat} (h : ∀ i, i ≤ j → K' i = K i) (hb : ∀ b s, stk K j = b :: s → b < j) (g : gj K j) : gj K' j := by
  have e := stk_congr (K := K) (K' := K') (j := j) (fun i hi => h i (by omega))
  have d : dueA K' j ↔ dueA K j := by
    unfold dueA
    rw [h (j - 1) (by omega)]
  unfold gj at g ⊢
  rw [e, h j (Nat.le_refl _), d, h (j - 1) (by omega)]
  rcases g with g | g | ⟨g, b, s, hs, g2⟩
  · exact Or.inl g
  · exact Or.inr (Or.inl g)
  · refine Or.inr (Or.inr ⟨g, b, s, hs, ?_⟩)
    rw [h (b + 1) (by have := hb b s hs; omega)]
    exact g2
theorem stk_lt {K : Nat → Int32} : ∀ {j b : Nat}, b ∈ stk K j → b < j
  | 0, b, h => by simp [stk] at h
  | j + 1, b, h => by
    unfold stk at h
    split at h
    · rcases List.mem_cons.mp h with rfl | h
      · omega
      · have := stk_lt h; omega
    · split at h
      · have := stk_lt (List.mem_of_mem_tail h); omega
      · have := stk_lt h; omega
theorem stk_hd {K : Nat → Int32} {j b : Nat} {s : List Nat} (h : stk K j = b :: s) : b < j := stk_lt (K := K) (by rw [h]; exact List.mem_cons_self)
theorem gj_upd {K K' : Nat → Int32} {j n : Nat} (hj : j < n) (h : ∀ i, i < n → K' i = K i) (g : gj K j) : gj K' j := gj_congr (fun i hi => h i (by omega)) (fun _ _ hs => stk_hd hs) g
/-- the kind of a place's node -/
def nkA (K : Nat → Int32) (n j : Nat) : Int32 := if K j = 3 ∨ K j = 4 then -1 else if K j = 1 ∧ 0 < j ∧ K (j - 1) = 3 then 4 else if K j = 1 ∧ j + 1 < n ∧ K (j + 1) = 4 then 3 else K j
/-- whether the group that is open at b begins a right section -/
def rsA (K : Nat → Int32) (n b : Nat) : Int32 := if b + 1 < n ∧ K (b + 1) = 1 then 1 else 0
/-- the class's row -/
def rowC (z zo : Int32) (K NK O : Nat → Int32) (V : Nat → Int64) (S : Nat → Int32) (n : Nat) : Prop :=
  n ≤ 200 ∧ z = nI n ∧ zo = nI (stk K n).length ∧ (∀ j, j ≤ n → (stk K j).length ≤ 40) ∧ gr K O V n ∧ (∀ j, j < n → NK j = nkA K n j) ∧ (∀ e b, (stk K n).reverse[e]? = some b → S e = rsA K n b)
/-- the reference's row -/
def rowR (z zo : Int32) (K' O' : Nat → Int32) (V' : Nat → Int64) (OA : Nat → Int32) (K O : Nat → Int32) (V : Nat → Int64) (n : Nat) : Prop :=
  z = nI n ∧ zo = nI (stk K n).length ∧ (∀ j, j < n → K' j = K j ∧ O' j = O j ∧ V' j = V j) ∧ (∀ e b, (stk K n).reverse[e]? = some b → OA e = nI b)
def RR (σ τ : fx_S) : Prop := ∃ n, rowC (σ.1 117) (σ.1 118) (σ.2.1 8) (σ.2.1 9) (σ.2.1 10) (σ.2.2 11) (σ.2.1 12) n ∧ rowR (τ.1 5) (τ.1 10) (τ.2.1 4) (τ.2.1 5) (τ.2.2 6) (τ.2.1 7) (σ.2.1 8) (σ.2.1 10) (σ.2.2 11) n ∧ σ.1 119 = τ.1 6 ∧ (τ.1 6 = 0 ∨ τ.1 6 = 1)
/-- what a scope tells of an operator -/
def scd (c s r : Int32) : Prop := (c = 0 ∧ s = -1) ∨ ∃ d k : Nat, d < 3 ∧ k < 10 ∧ c = nI (d * 10 + k + 1) ∧ s = nI d ∧ r = nI k
def RSn (σ τ : fx_S) (n : Nat) : Prop := 1 ≤ n ∧ n ≤ 30 ∧ σ.1 18 = nI n ∧ τ.1 1 = nI n ∧ (∀ k, k < n → τ.2.1 1 k = σ.2.1 2 k ∧ (σ.2.1 2 k = -1 ∨ ∃ j, j < k ∧ σ.2.1 2 k = nI j)) ∧ (∀ k o, k < n → o < 41 → scd (σ.2.1 3 (41 * k + o)) (τ.2.1 2 (41 * k + o)) (τ.2.1 3 (41 * k + o))) ∧ (∀ k o, n ≤ k → k < 30 → o < 41 → σ.2.1 3 (41 * k + o) = 0)
def RS (σ τ : fx_S) : Prop := ∃ n, RSn σ τ n
def RC (σ τ : fx_S) : Prop := σ.1 7 = τ.1 22 ∧ σ.1 8 = τ.1 23 ∧ σ.1 9 = τ.1 24 ∧ σ.1 10 = τ.1 25
/-- a node of a tree in preorder; sz its subtrees' sizes -/
def ptk (K O F G : Nat → Int32) (V : Nat → Int64) (sz : Nat → Nat) (n k : Nat) : Prop :=
  k + sz k ≤ n ∧ ((K k = 0 ∧ O k = -1 ∧ F k = -1 ∧ G k = -1 ∧ sz k = 1) ∨
  ((∃ o : Nat, o < 41 ∧ O k = nI o ∧ (K k = 2 → o = 0)) ∧ V k = 0 ∧ F k = nI (k + 1) ∧ k + 1 < n ∧
    (((K k = 2 ∨ K k = 3 ∨ K k = 4) ∧ G k = -1 ∧ sz k = 1 + sz (k + 1)) ∨
     (K k = 1 ∧ G k = nI (k + 1 + sz (k + 1)) ∧ k + 1 + sz (k + 1) < n ∧ sz k = 1 + sz (k + 1) + sz (k + 1 + sz (k + 1))))))
def ptA (K O F G : Nat → Int32) (V : Nat → Int64) (n : Nat) : Prop := n = 0 ∨ ∃ sz : Nat → Nat, sz 0 = n ∧ ∀ k, k < n → ptk K O F G V sz n k
def RTn (σ τ : fx_S) (n : Nat) : Prop := n ≤ 200 ∧ σ.1 422 = nI n ∧ τ.1 12 = nI n ∧ σ.1 423 = (if n = 0 then 0 else τ.1 21) ∧
  (∀ k, k < n → τ.2.1 8 k = σ.2.1 27 k ∧ τ.2.1 9 k = σ.2.1 28 k ∧ τ.2.1 10 k = σ.2.1 29 k ∧ τ.2.1 11 k = σ.2.1 30 k ∧ τ.2.1 12 k = σ.2.1 31 k ∧ τ.2.2 14 k = σ.2.2 32 k) ∧ ptA (σ.2.1 27) (σ.2.1 28) (σ.2.1 29) (σ.2.1 30) (σ.2.2 32) n
def RT (σ τ : fx_S) : Prop := ∃ n, RTn σ τ n
/-- the most that are open at once -/
def mxA (K : Nat → Int32) : Nat → Nat
  | 0 => 0
  | j + 1 => max (mxA K j) (stk K (j + 1)).length
def RWn (σ τ : fx_S) (n : Nat) : Prop := n ≤ 600 ∧ σ.1 646 = nI n ∧ τ.1 40 = nI n ∧ ((τ.1 39 = 0 ∧ n = 0) ∨ (τ.1 39 = 1 ∧ 0 < n)) ∧
  (∀ k, k < n → τ.2.1 23 k = σ.2.1 41 k ∧ τ.2.1 24 k = σ.2.1 42 k ∧ τ.2.1 25 k = σ.2.1 43 k ∧ τ.2.2 26 k = σ.2.2 44 k) ∧ σ.1 647 = nI (mxA (σ.2.1 41) n) ∧ gr (σ.2.1 41) (σ.2.1 42) (σ.2.2 44) n ∧ stk (σ.2.1 41) n = []
def RW (σ τ : fx_S) : Prop := ∃ n, RWn σ τ n
def Rel (σ τ : fx_S) : Prop := RS σ τ ∧ RR σ τ ∧ RC σ τ ∧ RT σ τ ∧ RW σ τ
/-! SCOPES -/
theorem s_has {σ : fx_S} {n j : Nat} (h : σ.1 18 = nI n) (hn : n ≤ 30) (hj : j < n) : F_Scopes_has (nI j) σ = some (1, σ) := by
  simp (disch := omega) only [F_Scopes_has, fx_bnd, fx_bndx, e_gI, e_pI, e_rz0, e_rz1, e_ret, e_pur, e_thr, e_if, e_el, h, q_lt, q_le, q_eq, q_lt0, q_0lt, q_le0, q_0le, q_eq0, q_lt1, q_1lt, q_le1, q_1le, q_eq1, q_lt2, q_2lt, q_le2, q_2le, q_eq2, q_lt3, q_3lt, q_le3, q_3le, q_eq3, q_lt4, q_4lt, q_le4, q_4le, q_eq4, q_lt6, q_6lt, q_le6, q_6le, q_eq6, q_lt10, q_10lt, q_le10, q_10le, q_eq10, q_lt30, q_30lt, q_le30, q_30le, q_eq30, q_lt40, q_40lt, q_le40, q_40le, q_eq40, q_lt41, q_41lt, q_le41, q_41le, q_eq41, q_lt200, q_200lt, q_le200, q_200le, q_eq200, q_lt400, q_400lt, q_le400, q_400le, q_eq400, q_lt600, q_600lt, q_le600, q_600le, q_eq600, q_lt800, q_800lt, q_le800, q_800le, q_eq800, q_lt900, q_900lt, q_le900, q_900le, q_eq900, q_0eq, q_1eq, q_2eq, q_3eq, q_4eq, q_neg, q_m1, q_m1l, q_s1, nI_1, q_1a, nI_add, q_mul, q_m41, q_41m, q_dn, q_dm10, q_dm11, q_dm12, q_dm13, q_dm14, q_d0m1, q_d01, q_d02, q_d03, q_d04, q_d1m1, q_d10, q_d12, q_d13, q_d14, q_d2m1, q_d20, q_d21, q_d23, q_d24, q_d3m1, q_d30, q_d31, q_d32, q_d34, q_d4m1, q_d40, q_d41, q_d42, q_d43, if_true, if_false, eq_self]
theorem s_hasn {σ : fx_S} {n : Nat} {v : Int32} (h : σ.1 18 = nI n) (hn : n ≤ 30) (hv : v < 0 ∨ ∃ j, n ≤ j ∧ j < 2 ^ 31 ∧ v = nI j) : F_Scopes_has v σ = some (0, σ) := by
  rcases hv with hv | ⟨j, h1, h2, rfl⟩
  · simp [F_Scopes_has, fx_bnd, fx_bndx, e_gI, e_pI, e_rz0, e_rz1, e_ret, e_pur, e_thr, e_if, e_el, hv]
  · simp (disch := omega) only [F_Scopes_has, fx_bnd, fx_bndx, e_gI, e_pI, e_rz0, e_rz1, e_ret, e_pur, e_thr, e_if, e_el, h, q_lt, q_le, q_eq, q_lt0, q_0lt, q_le0, q_0le, q_eq0, q_lt1, q_1lt, q_le1, q_1le, q_eq1, q_lt2, q_2lt, q_le2, q_2le, q_eq2, q_lt3, q_3lt, q_le3, q_3le, q_eq3, q_lt4, q_4lt, q_le4, q_4le, q_eq4, q_lt6, q_6lt, q_le6, q_6le, q_eq6, q_lt10, q_10lt, q_le10, q_10le, q_eq10, q_lt30, q_30lt, q_le30, q_30le, q_eq30, q_lt40, q_40lt, q_le40, q_40le, q_eq40, q_lt41, q_41lt, q_le41, q_41le, q_eq41, q_lt200, q_200lt, q_le200, q_200le, q_eq200, q_lt400, q_400lt, q_le400, q_400le, q_eq400, q_lt600, q_600lt, q_le600, q_600le, q_eq600, q_lt800, q_800lt, q_le800, q_800le, q_eq800, q_lt900, q_900lt, q_le900, q_900le, q_eq900, q_0eq, q_1eq, q_2eq, q_3eq, q_4eq, q_neg, q_m1, q_m1l, q_s1, nI_1, q_1a, nI_add, q_mul, q_m41, q_41m, q_dn, q_dm10, q_dm11, q_dm12, q_dm13, q_dm14, q_d0m1, q_d01, q_d02, q_d03, q_d04, q_d1m1, q_d10, q_d12, q_d13, q_d14, q_d2m1, q_d20, q_d21, q_d23, q_d24, q_d3m1, q_d30, q_d31, q_d32, q_d34, q_d4m1, q_d40, q_d41, q_d42, q_d43, if_true, if_false, eq_self]
theorem s_isc {τ : fx_S} {n j : Nat} (h : τ.1 1 = nI n) (hn : n ≤ 30) (hj : j < n) : F_Md_isScope (nI j) τ = some (1, τ) := by
  simp (disch := omega) only [F_Md_isScope, F_Md_isIn, fx_bnd, fx_bndx, e_gI, e_pI, e_rz0, e_rz1, e_ret, e_pur, e_thr, e_if, e_el, h, q_lt, q_le, q_eq, q_lt0, q_0lt, q_le0, q_0le, q_eq0, q_lt1, q_1lt, q_le1, q_1le, q_eq1, q_lt2, q_2lt, q_le2, q_2le, q_eq2, q_lt3, q_3lt, q_le3, q_3le, q_eq3, q_lt4, q_4lt, q_le4, q_4le, q_eq4, q_lt6, q_6lt, q_le6, q_6le, q_eq6, q_lt10, q_10lt, q_le10, q_10le, q_eq10, q_lt30, q_30lt, q_le30, q_30le, q_eq30, q_lt40, q_40lt, q_le40, q_40le, q_eq40, q_lt41, q_41lt, q_le41, q_41le, q_eq41, q_lt200, q_200lt, q_le200, q_200le, q_eq200, q_lt400, q_400lt, q_le400, q_400le, q_eq400, q_lt600, q_600lt, q_le600, q_600le, q_eq600, q_lt800, q_800lt, q_le800, q_800le, q_eq800, q_lt900, q_900lt, q_le900, q_900le, q_eq900, q_0eq, q_1eq, q_2eq, q_3eq, q_4eq, q_neg, q_m1, q_m1l, q_s1, nI_1, q_1a, nI_add, q_mul, q_m41, q_41m, q_dn, q_dm10, q_dm11, q_dm12, q_dm13, q_dm14, q_d0m1, q_d01, q_d02, q_d03, q_d04, q_d1m1, q_d10, q_d12, q_d13, q_d14, q_d2m1, q_d20, q_d21, q_d23, q_d24, q_d3m1, q_d30, q_d31, q_d32, q_d34, q_d4m1, q_d40, q_d41, q_d42, q_d43, if_true, if_false, eq_self]
theorem s_iscn {τ : fx_S} {n : Nat} {v : Int32} (h : τ.1 1 = nI n) (h1 : 1 ≤ n) (hn : n ≤ 30) (hv : v < 0 ∨ ∃ j, n ≤ j ∧ j < 2 ^ 31 ∧ v = nI j) : F_Md_isScope v τ = some (0, τ) := by
  rcases hv with hv | ⟨j, h1, h2, rfl⟩
  · simp [F_Md_isScope, F_Md_isIn, fx_bnd, fx_bndx, e_gI, e_pI, e_rz0, e_rz1, e_ret, e_pur, e_thr, e_if, e_el, hv]
  · simp (disch := omega) only [F_Md_isScope, F_Md_isIn, fx_bnd, fx_bndx, e_gI, e_pI, e_rz0, e_rz1, e_ret, e_pur, e_thr, e_if, e_el, h, q_lt, q_le, q_eq, q_lt0, q_0lt, q_le0, q_0le, q_eq0, q_lt1, q_1lt, q_le1, q_1le, q_eq1, q_lt2, q_2lt, q_le2, q_2le, q_eq2, q_lt3, q_3lt, q_le3, q_3le, q_eq3, q_lt4, q_4lt, q_le4, q_4le, q_eq4, q_lt6, q_6lt, q_le6, q_6le, q_eq6, q_lt10, q_10lt, q_le10, q_10le, q_eq10, q_lt30, q_30lt, q_le30, q_30le, q_eq30, q_lt40, q_40lt, q_le40, q_40le, q_eq40, q_lt41, q_41lt, q_le41, q_41le, q_eq41, q_lt200, q_200lt, q_le200, q_200le, q_eq200, q_lt400, q_400lt, q_le400, q_400le, q_eq400, q_lt600, q_600lt, q_le600, q_600le, q_eq600, q_lt800, q_800lt, q_le800, q_800le, q_eq800, q_lt900, q_900lt, q_le900, q_900le, q_eq900, q_0eq, q_1eq, q_2eq, q_3eq, q_4eq, q_neg, q_m1, q_m1l, q_s1, nI_1, q_1a, nI_add, q_mul, q_m41, q_41m, q_dn, q_dm10, q_dm11, q_dm12, q_dm13, q_dm14, q_d0m1, q_d01, q_d02, q_d03, q_d04, q_d1m1, q_d10, q_d12, q_d13, q_d14, q_d2m1, q_d20, q_d21, q_d23, q_d24, q_d3m1, q_d30, q_d31, q_d32, q_d34, q_d4m1, q_d40, q_d41, q_d42, q_d43, if_true, if_false, eq_self]
theorem s_op {σ : fx_S} {j : Nat} (hj : j < 41) : F_FixityTrees_isOperator (nI j) σ = some (1, σ) := by
  simp (disch := omega) only [F_FixityTrees_isOperator, fx_bnd, fx_bndx, e_gI, e_pI, e_rz0, e_rz1, e_ret, e_pur, e_thr, e_if, e_el, q_lt, q_le, q_eq, q_lt0, q_0lt, q_le0, q_0le, q_eq0, q_lt1, q_1lt, q_le1, q_1le, q_eq1, q_lt2, q_2lt, q_le2, q_2le, q_eq2, q_lt3, q_3lt, q_le3, q_3le, q_eq3, q_lt4, q_4lt, q_le4, q_4le, q_eq4, q_lt6, q_6lt, q_le6, q_6le, q_eq6, q_lt10, q_10lt, q_le10, q_10le, q_eq10, q_lt30, q_30lt, q_le30, q_30le, q_eq30, q_lt40, q_40lt, q_le40, q_40le, q_eq40, q_lt41, q_41lt, q_le41, q_41le, q_eq41, q_lt200, q_200lt, q_le200, q_200le, q_eq200, q_lt400, q_400lt, q_le400, q_400le, q_eq400, q_lt600, q_600lt, q_le600, q_600le, q_eq600, q_lt800, q_800lt, q_le800, q_800le, q_eq800, q_lt900, q_900lt, q_le900, q_900le, q_eq900, q_0eq, q_1eq, q_2eq, q_3eq, q_4eq, q_neg, q_m1, q_m1l, q_s1, nI_1, q_1a, nI_add, q_mul, q_m41, q_41m, q_dn, q_dm10, q_dm11, q_dm12, q_dm13, q_dm14, q_d0m1, q_d01, q_d02, q_d03, q_d04, q_d1m1, q_d10, q_d12, q_d13, q_d14, q_d2m1, q_d20, q_d21, q_d23, q_d24, q_d3m1, q_d30, q_d31, q_d32, q_d34, q_d4m1, q_d40, q_d41, q_d42, q_d43, if_true, if_false, eq_self]
theorem s_opn {σ : fx_S} {v : Int32} (hv : v < 0 ∨ ∃ j, 41 ≤ j ∧ j < 2 ^ 31 ∧ v = nI j) : F_FixityTrees_isOperator v σ = some (0, σ) := by
  rcases hv with hv | ⟨j, h1, h2, rfl⟩
  · simp [F_FixityTrees_isOperator, fx_bnd, fx_bndx, e_gI, e_pI, e_rz0, e_rz1, e_ret, e_pur, e_thr, e_if, e_el, hv]
  · simp (disch := omega) only [F_FixityTrees_isOperator, fx_bnd, fx_bndx, e_gI, e_pI, e_rz0, e_rz1, e_ret, e_pur, e_thr, e_if, e_el, q_lt, q_le, q_eq, q_lt0, q_0lt, q_le0, q_0le, q_eq0, q_lt1, q_1lt, q_le1, q_1le, q_eq1, q_lt2, q_2lt, q_le2, q_2le, q_eq2, q_lt3, q_3lt, q_le3, q_3le, q_eq3, q_lt4, q_4lt, q_le4, q_4le, q_eq4, q_lt6, q_6lt, q_le6, q_6le, q_eq6, q_lt10, q_10lt, q_le10, q_10le, q_eq10, q_lt30, q_30lt, q_le30, q_30le, q_eq30, q_lt40, q_40lt, q_le40, q_40le, q_eq40, q_lt41, q_41lt, q_le41, q_41le, q_eq41, q_lt200, q_200lt, q_le200, q_200le, q_eq200, q_lt400, q_400lt, q_le400, q_400le, q_eq400, q_lt600, q_600lt, q_le600, q_600le, q_eq600, q_lt800, q_800lt, q_le800, q_800le, q_eq800, q_lt900, q_900lt, q_le900, q_900le, q_eq900, q_0eq, q_1eq, q_2eq, q_3eq, q_4eq, q_neg, q_m1, q_m1l, q_s1, nI_1, q_1a, nI_add, q_mul, q_m41, q_41m, q_dn, q_dm10, q_dm11, q_dm12, q_dm13, q_dm14, q_d0m1, q_d01, q_d02, q_d03, q_d04, q_d1m1, q_d10, q_d12, q_d13, q_d14, q_d2m1, q_d20, q_d21, q_d23, q_d24, q_d3m1, q_d30, q_d31, q_d32, q_d34, q_d4m1, q_d40, q_d41, q_d42, q_d43, if_true, if_false, eq_self]
theorem s_iop {τ : fx_S} {j : Nat} (hj : j < 41) : F_Md_isOperator (nI j) τ = some (1, τ) := by
  simp (disch := omega) only [F_Md_isOperator, F_Md_isIn, fx_bnd, fx_bndx, e_gI, e_pI, e_rz0, e_rz1, e_ret, e_pur, e_thr, e_if, e_el, q_lt, q_le, q_eq, q_lt0, q_0lt, q_le0, q_0le, q_eq0, q_lt1, q_1lt, q_le1, q_1le, q_eq1, q_lt2, q_2lt, q_le2, q_2le, q_eq2, q_lt3, q_3lt, q_le3, q_3le, q_eq3, q_lt4, q_4lt, q_le4, q_4le, q_eq4, q_lt6, q_6lt, q_le6, q_6le, q_eq6, q_lt10, q_10lt, q_le10, q_10le, q_eq10, q_lt30, q_30lt, q_le30, q_30le, q_eq30, q_lt40, q_40lt, q_le40, q_40le, q_eq40, q_lt41, q_41lt, q_le41, q_41le, q_eq41, q_lt200, q_200lt, q_le200, q_200le, q_eq200, q_lt400, q_400lt, q_le400, q_400le, q_eq400, q_lt600, q_600lt, q_le600, q_600le, q_eq600, q_lt800, q_800lt, q_le800, q_800le, q_eq800, q_lt900, q_900lt, q_le900, q_900le, q_eq900, q_0eq, q_1eq, q_2eq, q_3eq, q_4eq, q_neg, q_m1, q_m1l, q_s1, nI_1, q_1a, nI_add, q_mul, q_m41, q_41m, q_dn, q_dm10, q_dm11, q_dm12, q_dm13, q_dm14, q_d0m1, q_d01, q_d02, q_d03, q_d04, q_d1m1, q_d10, q_d12, q_d13, q_d14, q_d2m1, q_d20, q_d21, q_d23, q_d24, q_d3m1, q_d30, q_d31, q_d32, q_d34, q_d4m1, q_d40, q_d41, q_d42, q_d43, if_true, if_false, eq_self]
theorem s_iopn {τ : fx_S} {v : Int32} (hv : v < 0 ∨ ∃ j, 41 ≤ j ∧ j < 2 ^ 31 ∧ v = nI j) : F_Md_isOperator v τ = some (0, τ) := by
  rcases hv with hv | ⟨j, h1, h2, rfl⟩
  · simp [F_Md_isOperator, F_Md_isIn, fx_bnd, fx_bndx, e_gI, e_pI, e_rz0, e_rz1, e_ret, e_pur, e_thr, e_if, e_el, hv]
  · simp (disch := omega) only [F_Md_isOperator, F_Md_isIn, fx_bnd, fx_bndx, e_gI, e_pI, e_rz0, e_rz1, e_ret, e_pur, e_thr, e_if, e_el, q_lt, q_le, q_eq, q_lt0, q_0lt, q_le0, q_0le, q_eq0, q_lt1, q_1lt, q_le1, q_1le, q_eq1, q_lt2, q_2lt, q_le2, q_2le, q_eq2, q_lt3, q_3lt, q_le3, q_3le, q_eq3, q_lt4, q_4lt, q_le4, q_4le, q_eq4, q_lt6, q_6lt, q_le6, q_6le, q_eq6, q_lt10, q_10lt, q_le10, q_10le, q_eq10, q_lt30, q_30lt, q_le30, q_30le, q_eq30, q_lt40, q_40lt, q_le40, q_40le, q_eq40, q_lt41, q_41lt, q_le41, q_41le, q_eq41, q_lt200, q_200lt, q_le200, q_200le, q_eq200, q_lt400, q_400lt, q_le400, q_400le, q_eq400, q_lt600, q_600lt, q_le600, q_600le, q_eq600, q_lt800, q_800lt, q_le800, q_800le, q_eq800, q_lt900, q_900lt, q_le900, q_900le, q_eq900, q_0eq, q_1eq, q_2eq, q_3eq, q_4eq, q_neg, q_m1, q_m1l, q_s1, nI_1, q_1a, nI_add, q_mul, q_m41, q_41m, q_dn, q_dm10, q_dm11, q_dm12, q_dm13, q_dm14, q_d0m1, q_d01, q_d02, q_d03, q_d04, q_d1m1, q_d10, q_d12, q_d13, q_d14, q_d2m1, q_d20, q_d21, q_d23, q_d24, q_d3m1, q_d30, q_d31, q_d32, q_d34, q_d4m1, q_d40, q_d41, q_d42, q_d43, if_true, if_false, eq_self]
theorem s_code {σ : fx_S} {n s o : Nat} (h : σ.1 18 = nI n) (hn : n ≤ 30) (hs : s < n) (ho : o < 41) : F_Scopes_codeAt (nI s) (nI o) σ = some (σ.2.1 3 (41 * s + o), σ) := by
  have e : s * 41 + o = 41 * s + o := by omega
  simp (disch := omega) only [F_Scopes_codeAt, fx_bnd, fx_bndx, e_gI, e_pI, e_rz0, e_rz1, e_ret, e_pur, e_thr, e_if, e_el, s_has h hn hs, s_op ho, q_lt, q_le, q_eq, q_lt0, q_0lt, q_le0, q_0le, q_eq0, q_lt1, q_1lt, q_le1, q_1le, q_eq1, q_lt2, q_2lt, q_le2, q_2le, q_eq2, q_lt3, q_3lt, q_le3, q_3le, q_eq3, q_lt4, q_4lt, q_le4, q_4le, q_eq4, q_lt6, q_6lt, q_le6, q_6le, q_eq6, q_lt10, q_10lt, q_le10, q_10le, q_eq10, q_lt30, q_30lt, q_le30, q_30le, q_eq30, q_lt40, q_40lt, q_le40, q_40le, q_eq40, q_lt41, q_41lt, q_le41, q_41le, q_eq41, q_lt200, q_200lt, q_le200, q_200le, q_eq200, q_lt400, q_400lt, q_le400, q_400le, q_eq400, q_lt600, q_600lt, q_le600, q_600le, q_eq600, q_lt800, q_800lt, q_le800, q_800le, q_eq800, q_lt900, q_900lt, q_le900, q_900le, q_eq900, q_0eq, q_1eq, q_2eq, q_3eq, q_4eq, q_neg, q_m1, q_m1l, q_s1, nI_1, q_1a, nI_add, q_mul, q_m41, q_41m, q_dn, q_dm10, q_dm11, q_dm12, q_dm13, q_dm14, q_d0m1, q_d01, q_d02, q_d03, q_d04, q_d1m1, q_d10, q_d12, q_d13, q_d14, q_d2m1, q_d20, q_d21, q_d23, q_d24, q_d3m1, q_d30, q_d31, q_d32, q_d34, q_d4m1, q_d40, q_d41, q_d42, q_d43, if_true, if_false, eq_self, e_lA, e]
theorem s_coden {σ : fx_S} {n o : Nat} {v : Int32} (h : σ.1 18 = nI n) (hn : n ≤ 30) (hv : v < 0) : F_Scopes_codeAt v (nI o) σ = some (0, σ) := by
  simp (disch := omega) only [F_Scopes_codeAt, fx_bnd, fx_bndx, e_gI, e_pI, e_rz0, e_rz1, e_ret, e_pur, e_thr, e_if, e_el, s_hasn h hn (Or.inl hv)]
  rfl
theorem s_tel {σ τ : fx_S} {n o : Nat} (H : RSn σ τ n) (ho : o < 41) : ∀ s, s < n → ∃ t : Int32, (∀ f c, c + s < 30 → fx_loop3 F_Scopes_tellerOf_B5 (f + s + 2) (nI o) (nI s) (nI c) σ = some (t, σ)) ∧ (∀ f, fx_loop2 F_Md_teller_B2 (f + s + 2) (nI o) (nI s) τ = some (t, τ)) ∧ (t = -1 ∨ ∃ j, j < n ∧ t = nI j ∧ ¬ σ.2.1 3 (41 * j + o) = 0) := by
  obtain ⟨h1, h30, hz, hz', hou, hco, -⟩ := H
  intro s
  induction s using Nat.strongRecOn with
  | _ s ih =>
    intro hs
    have hc := hco s o hs ho
    have ec := s_code hz h30 hs ho
    have eh := s_has hz h30 hs
    have er : ∀ f, fx_loop2 F_Md_teller_B2 (f + 1) (nI o) (nI s) τ = (if τ.2.1 2 (41 * s + o) = -1 then fx_bnd (l_Md_outer (nI s)) fun x2 => fx_loop2 F_Md_teller_B2 f (nI o) x2 else fx_ret (nI s)) τ := by
      intro f
      simp (disch := omega) only [e_loop2, F_Md_teller_B2, fx_bnd, fx_bndx, e_gI, e_pI, e_rz0, e_rz1, e_ret, e_pur, e_thr, e_if, e_el, q_lt, q_le, q_eq, q_lt0, q_0lt, q_le0, q_0le, q_eq0, q_lt1, q_1lt, q_le1, q_1le, q_eq1, q_lt2, q_2lt, q_le2, q_2le, q_eq2, q_lt3, q_3lt, q_le3, q_3le, q_eq3, q_lt4, q_4lt, q_le4, q_4le, q_eq4, q_lt6, q_6lt, q_le6, q_6le, q_eq6, q_lt10, q_10lt, q_le10, q_10le, q_eq10, q_lt30, q_30lt, q_le30, q_30le, q_eq30, q_lt40, q_40lt, q_le40, q_40le, q_eq40, q_lt41, q_41lt, q_le41, q_41le, q_eq41, q_lt200, q_200lt, q_le200, q_200le, q_eq200, q_lt400, q_400lt, q_le400, q_400le, q_eq400, q_lt600, q_600lt, q_le600, q_600le, q_eq600, q_lt800, q_800lt, q_le800, q_800le, q_eq800, q_lt900, q_900lt, q_le900, q_900le, q_eq900, q_0eq, q_1eq, q_2eq, q_3eq, q_4eq, q_neg, q_m1, q_m1l, q_s1, nI_1, q_1a, nI_add, q_mul, q_m41, q_41m, q_dn, q_dm10, q_dm11, q_dm12, q_dm13, q_dm14, q_d0m1, q_d01, q_d02, q_d03, q_d04, q_d1m1, q_d10, q_d12, q_d13, q_d14, q_d2m1, q_d20, q_d21, q_d23, q_d24, q_d3m1, q_d30, q_d31, q_d32, q_d34, q_d4m1, q_d40, q_d41, q_d42, q_d43, if_true, if_false, eq_self, e_lA, if_false]
    rcases hc with ⟨hc0, hs0⟩ | ⟨d, k, hd, hk, hcc, hss, hrr⟩
    · obtain ⟨ho1, ho2⟩ := hou s hs
      rcases ho2 with ho2 | ⟨j, hj, ho2⟩
      · refine ⟨-1, ?_, ?_, Or.inl rfl⟩
        · intro f c hcs
          have e1 : ∀ c' : Nat, fx_loop3 F_Scopes_tellerOf_B5 (f + s + 1) (nI o) (-1) (nI c') σ = some (-1, σ) := by
            intro c'
            rw [show f + s + 1 = (f + s) + 1 from rfl, e_loop3]
            by_cases q : 30 ≤ nI c'
            · simp only [F_Scopes_tellerOf_B5, if_pos q, e_ret]
            · simp only [F_Scopes_tellerOf_B5, if_neg q, fx_bnd, s_hasn hz h30 (Or.inl (show (-1 : Int32) < 0 by decide)), if_pos, e_ret]
          rw [show f + s + 2 = (f + s + 1) + 1 from rfl, e_loop3]
          simp (disch := omega) only [F_Scopes_tellerOf_B5, fx_bnd, fx_bndx, e_gI, e_pI, e_rz0, e_rz1, e_ret, e_pur, e_thr, e_if, e_el, q_lt, q_le, q_eq, q_lt0, q_0lt, q_le0, q_0le, q_eq0, q_lt1, q_1lt, q_le1, q_1le, q_eq1, q_lt2, q_2lt, q_le2, q_2le, q_eq2, q_lt3, q_3lt, q_le3, q_3le, q_eq3, q_lt4, q_4lt, q_le4, q_4le, q_eq4, q_lt6, q_6lt, q_le6, q_6le, q_eq6, q_lt10, q_10lt, q_le10, q_10le, q_eq10, q_lt30, q_30lt, q_le30, q_30le, q_eq30, q_lt40, q_40lt, q_le40, q_40le, q_eq40, q_lt41, q_41lt, q_le41, q_41le, q_eq41, q_lt200, q_200lt, q_le200, q_200le, q_eq200, q_lt400, q_400lt, q_le400, q_400le, q_eq400, q_lt600, q_600lt, q_le600, q_600le, q_eq600, q_lt800, q_800lt, q_le800, q_800le, q_eq800, q_lt900, q_900lt, q_le900, q_900le, q_eq900, q_0eq, q_1eq, q_2eq, q_3eq, q_4eq, q_neg, q_m1, q_m1l, q_s1, nI_1, q_1a, nI_add, q_mul, q_m41, q_41m, q_dn, q_dm10, q_dm11, q_dm12, q_dm13, q_dm14, q_d0m1, q_d01, q_d02, q_d03, q_d04, q_d1m1, q_d10, q_d12, q_d13, q_d14, q_d2m1, q_d20, q_d21, q_d23, q_d24, q_d3m1, q_d30, q_d31, q_d32, q_d34, q_d4m1, q_d40, q_d41, q_d42, q_d43, if_true, if_false, eq_self, eh, ec, hc0, e_lA, ho2, e1]
        · intro f
          rw [show f + s + 2 = (f + s + 1) + 1 from rfl, er, if_pos hs0]
          simp (disch := omega) only [fx_bnd, fx_bndx, e_gI, e_pI, e_rz0, e_rz1, e_ret, e_pur, e_thr, e_if, e_el, q_lt, q_le, q_eq, q_lt0, q_0lt, q_le0, q_0le, q_eq0, q_lt1, q_1lt, q_le1, q_1le, q_eq1, q_lt2, q_2lt, q_le2, q_2le, q_eq2, q_lt3, q_3lt, q_le3, q_3le, q_eq3, q_lt4, q_4lt, q_le4, q_4le, q_eq4, q_lt6, q_6lt, q_le6, q_6le, q_eq6, q_lt10, q_10lt, q_le10, q_10le, q_eq10, q_lt30, q_30lt, q_le30, q_30le, q_eq30, q_lt40, q_40lt, q_le40, q_40le, q_eq40, q_lt41, q_41lt, q_le41, q_41le, q_eq41, q_lt200, q_200lt, q_le200, q_200le, q_eq200, q_lt400, q_400lt, q_le400, q_400le, q_eq400, q_lt600, q_600lt, q_le600, q_600le, q_eq600, q_lt800, q_800lt, q_le800, q_800le, q_eq800, q_lt900, q_900lt, q_le900, q_900le, q_eq900, q_0eq, q_1eq, q_2eq, q_3eq, q_4eq, q_neg, q_m1, q_m1l, q_s1, nI_1, q_1a, nI_add, q_mul, q_m41, q_41m, q_dn, q_dm10, q_dm11, q_dm12, q_dm13, q_dm14, q_d0m1, q_d01, q_d02, q_d03, q_d04, q_d1m1, q_d10, q_d12, q_d13, q_d14, q_d2m1, q_d20, q_d21, q_d23, q_d24, q_d3m1, q_d30, q_d31, q_d32, q_d34, q_d4m1, q_d40, q_d41, q_d42, q_d43, if_true, if_false, eq_self, e_lA, ho1, ho2, e_loop2, F_Md_teller_B2]
      · obtain ⟨t, t1, t2, t3⟩ := ih j hj (by omega)
        refine ⟨t, ?_, ?_, t3⟩
        · intro f c hcs
          rw [show f + s + 2 = (f + s + 1) + 1 from rfl, e_loop3]
          have e2 := t1 (f + s - j - 1) (c + 1) (by omega)
          rw [show f + s - j - 1 + j + 2 = f + s + 1 by omega] at e2
          simp (disch := omega) only [F_Scopes_tellerOf_B5, fx_bnd, fx_bndx, e_gI, e_pI, e_rz0, e_rz1, e_ret, e_pur, e_thr, e_if, e_el, q_lt, q_le, q_eq, q_lt0, q_0lt, q_le0, q_0le, q_eq0, q_lt1, q_1lt, q_le1, q_1le, q_eq1, q_lt2, q_2lt, q_le2, q_2le, q_eq2, q_lt3, q_3lt, q_le3, q_3le, q_eq3, q_lt4, q_4lt, q_le4, q_4le, q_eq4, q_lt6, q_6lt, q_le6, q_6le, q_eq6, q_lt10, q_10lt, q_le10, q_10le, q_eq10, q_lt30, q_30lt, q_le30, q_30le, q_eq30, q_lt40, q_40lt, q_le40, q_40le, q_eq40, q_lt41, q_41lt, q_le41, q_41le, q_eq41, q_lt200, q_200lt, q_le200, q_200le, q_eq200, q_lt400, q_400lt, q_le400, q_400le, q_eq400, q_lt600, q_600lt, q_le600, q_600le, q_eq600, q_lt800, q_800lt, q_le800, q_800le, q_eq800, q_lt900, q_900lt, q_le900, q_900le, q_eq900, q_0eq, q_1eq, q_2eq, q_3eq, q_4eq, q_neg, q_m1, q_m1l, q_s1, nI_1, q_1a, nI_add, q_mul, q_m41, q_41m, q_dn, q_dm10, q_dm11, q_dm12, q_dm13, q_dm14, q_d0m1, q_d01, q_d02, q_d03, q_d04, q_d1m1, q_d10, q_d12, q_d13, q_d14, q_d2m1, q_d20, q_d21, q_d23, q_d24, q_d3m1, q_d30, q_d31, q_d32, q_d34, q_d4m1, q_d40, q_d41, q_d42, q_d43, if_true, if_false, eq_self, eh, ec, hc0, e_lA, ho2, e2]
        · intro f
          rw [show f + s + 2 = (f + s + 1) + 1 from rfl, er, if_pos hs0]
          have e2 := t2 (f + s - j - 1)
          rw [show f + s - j - 1 + j + 2 = f + s + 1 by omega] at e2
          simp (disch := omega) only [fx_bnd, fx_bndx, e_gI, e_pI, e_rz0, e_rz1, e_ret, e_pur, e_thr, e_if, e_el, e_lA, ho1, ho2, e2]
    · have hn0 : ¬ σ.2.1 3 (41 * s + o) = 0 := by
        rw [hcc]
        exact nI_ne0 (by omega) (by omega)
      refine ⟨nI s, ?_, ?_, Or.inr ⟨s, hs, rfl, hn0⟩⟩
      · intro f c hcs
        rw [show f + s + 2 = (f + s + 1) + 1 from rfl, e_loop3]
        simp (disch := omega) only [F_Scopes_tellerOf_B5, fx_bnd, fx_bndx, e_gI, e_pI, e_rz0, e_rz1, e_ret, e_pur, e_thr, e_if, e_el, q_lt, q_le, q_eq, q_lt0, q_0lt, q_le0, q_0le, q_eq0, q_lt1, q_1lt, q_le1, q_1le, q_eq1, q_lt2, q_2lt, q_le2, q_2le, q_eq2, q_lt3, q_3lt, q_le3, q_3le, q_eq3, q_lt4, q_4lt, q_le4, q_4le, q_eq4, q_lt6, q_6lt, q_le6, q_6le, q_eq6, q_lt10, q_10lt, q_le10, q_10le, q_eq10, q_lt30, q_30lt, q_le30, q_30le, q_eq30, q_lt40, q_40lt, q_le40, q_40le, q_eq40, q_lt41, q_41lt, q_le41, q_41le, q_eq41, q_lt200, q_200lt, q_le200, q_200le, q_eq200, q_lt400, q_400lt, q_le400, q_400le, q_eq400, q_lt600, q_600lt, q_le600, q_600le, q_eq600, q_lt800, q_800lt, q_le800, q_800le, q_eq800, q_lt900, q_900lt, q_le900, q_900le, q_eq900, q_0eq, q_1eq, q_2eq, q_3eq, q_4eq, q_neg, q_m1, q_m1l, q_s1, nI_1, q_1a, nI_add, q_mul, q_m41, q_41m, q_dn, q_dm10, q_dm11, q_dm12, q_dm13, q_dm14, q_d0m1, q_d01, q_d02, q_d03, q_d04, q_d1m1, q_d10, q_d12, q_d13, q_d14, q_d2m1, q_d20, q_d21, q_d23, q_d24, q_d3m1, q_d30, q_d31, q_d32, q_d34, q_d4m1, q_d40, q_d41, q_d42, q_d43, if_true, if_false, eq_self, eh, ec, hn0]
      · intro f
        rw [show f + s + 2 = (f + s + 1) + 1 from rfl, er, if_neg (by rw [hss]; exact q_m1 (by omega))]
        rfl
/-- what both look up of an operator in a scope -/
theorem s_dv : ∀ d, d < 3 → ∀ k, k < 10 → (nI (d * 10 + k + 1) - 1) / 10 = nI d ∧ (nI (d * 10 + k + 1) - 1) - (nI (d * 10 + k + 1) - 1) / 10 * 10 = nI k := by decide +kernel
theorem s_look {σ τ : fx_S} {n s o : Nat} (H : RSn σ τ n) (hs : s < n) (ho : o < 41) : ∃ (t : Int32) (d k : Nat), d < 3 ∧ k < 10 ∧ (o = 0 → k = 6) ∧ F_Scopes_tellerOf (nI s) (nI o) σ = some (t, σ) ∧ F_Md_teller (nI s) (nI o) τ = some (t, τ) ∧ F_Scopes_sideOf (nI s) (nI o) σ = some (nI d, σ) ∧ F_Md_sideOf (nI s) (nI o) τ = some (nI d, τ) ∧ F_Scopes_rankOf (nI s) (nI o) σ = some (nI k, σ) ∧ F_Md_rankOf (nI s) (nI o) τ = some (nI k, τ) := by
  obtain ⟨t, t1, t2, t3⟩ := s_tel H ho s hs
  obtain ⟨h1, h30, hz, hz', hou, hco, -⟩ := H
  have e1 : F_Scopes_tellerOf (nI s) (nI o) σ = some (t, σ) := by
    have := t1 (fx_fuel - s - 2) 0 (by omega)
    rw [show fx_fuel - s - 2 + s + 2 = fx_fuel by unfold fx_fuel; omega] at this
    exact this
  have e2 : F_Md_teller (nI s) (nI o) τ = some (t, τ) := by
    have := t2 (fx_fuel - s - 2)
    rw [show fx_fuel - s - 2 + s + 2 = fx_fuel by unfold fx_fuel; omega] at this
    exact this
  rcases t3 with rfl | ⟨j, hj, rfl, hne⟩
  · have e3 := s_coden (o := o) hz h30 (show (-1 : Int32) < 0 by decide)
    by_cases h0 : o = 0
    · subst h0
      refine ⟨-1, 0, 6, by omega, by omega, fun _ => rfl, e1, e2, ?_, ?_, ?_, ?_⟩
      · simp (disch := omega) only [F_Scopes_sideOf, fx_bnd, fx_bndx, e_gI, e_pI, e_rz0, e_rz1, e_ret, e_pur, e_thr, e_if, e_el, q_lt, q_le, q_eq, q_lt0, q_0lt, q_le0, q_0le, q_eq0, q_lt1, q_1lt, q_le1, q_1le, q_eq1, q_lt2, q_2lt, q_le2, q_2le, q_eq2, q_lt3, q_3lt, q_le3, q_3le, q_eq3, q_lt4, q_4lt, q_le4, q_4le, q_eq4, q_lt6, q_6lt, q_le6, q_6le, q_eq6, q_lt10, q_10lt, q_le10, q_10le, q_eq10, q_lt30, q_30lt, q_le30, q_30le, q_eq30, q_lt40, q_40lt, q_le40, q_40le, q_eq40, q_lt41, q_41lt, q_le41, q_41le, q_eq41, q_lt200, q_200lt, q_le200, q_200le, q_eq200, q_lt400, q_400lt, q_le400, q_400le, q_eq400, q_lt600, q_600lt, q_le600, q_600le, q_eq600, q_lt800, q_800lt, q_le800, q_800le, q_eq800, q_lt900, q_900lt, q_le900, q_900le, q_eq900, q_0eq, q_1eq, q_2eq, q_3eq, q_4eq, q_neg, q_m1, q_m1l, q_s1, nI_1, q_1a, nI_add, q_mul, q_m41, q_41m, q_dn, q_dm10, q_dm11, q_dm12, q_dm13, q_dm14, q_d0m1, q_d01, q_d02, q_d03, q_d04, q_d1m1, q_d10, q_d12, q_d13, q_d14, q_d2m1, q_d20, q_d21, q_d23, q_d24, q_d3m1, q_d30, q_d31, q_d32, q_d34, q_d4m1, q_d40, q_d41, q_d42, q_d43, if_true, if_false, eq_self, e1, e3]; rfl
      · simp (disch := omega) only [F_Md_sideOf, fx_bnd, fx_bndx, e_gI, e_pI, e_rz0, e_rz1, e_ret, e_pur, e_thr, e_if, e_el, q_lt, q_le, q_eq, q_lt0, q_0lt, q_le0, q_0le, q_eq0, q_lt1, q_1lt, q_le1, q_1le, q_eq1, q_lt2, q_2lt, q_le2, q_2le, q_eq2, q_lt3, q_3lt, q_le3, q_3le, q_eq3, q_lt4, q_4lt, q_le4, q_4le, q_eq4, q_lt6, q_6lt, q_le6, q_6le, q_eq6, q_lt10, q_10lt, q_le10, q_10le, q_eq10, q_lt30, q_30lt, q_le30, q_30le, q_eq30, q_lt40, q_40lt, q_le40, q_40le, q_eq40, q_lt41, q_41lt, q_le41, q_41le, q_eq41, q_lt200, q_200lt, q_le200, q_200le, q_eq200, q_lt400, q_400lt, q_le400, q_400le, q_eq400, q_lt600, q_600lt, q_le600, q_600le, q_eq600, q_lt800, q_800lt, q_le800, q_800le, q_eq800, q_lt900, q_900lt, q_le900, q_900le, q_eq900, q_0eq, q_1eq, q_2eq, q_3eq, q_4eq, q_neg, q_m1, q_m1l, q_s1, nI_1, q_1a, nI_add, q_mul, q_m41, q_41m, q_dn, q_dm10, q_dm11, q_dm12, q_dm13, q_dm14, q_d0m1, q_d01, q_d02, q_d03, q_d04, q_d1m1, q_d10, q_d12, q_d13, q_d14, q_d2m1, q_d20, q_d21, q_d23, q_d24, q_d3m1, q_d30, q_d31, q_d32, q_d34, q_d4m1, q_d40, q_d41, q_d42, q_d43, if_true, if_false, eq_self, e2]; rfl
      · simp (disch := omega) only [F_Scopes_rankOf, fx_bnd, fx_bndx, e_gI, e_pI, e_rz0, e_rz1, e_ret, e_pur, e_thr, e_if, e_el, q_lt, q_le, q_eq, q_lt0, q_0lt, q_le0, q_0le, q_eq0, q_lt1, q_1lt, q_le1, q_1le, q_eq1, q_lt2, q_2lt, q_le2, q_2le, q_eq2, q_lt3, q_3lt, q_le3, q_3le, q_eq3, q_lt4, q_4lt, q_le4, q_4le, q_eq4, q_lt6, q_6lt, q_le6, q_6le, q_eq6, q_lt10, q_10lt, q_le10, q_10le, q_eq10, q_lt30, q_30lt, q_le30, q_30le, q_eq30, q_lt40, q_40lt, q_le40, q_40le, q_eq40, q_lt41, q_41lt, q_le41, q_41le, q_eq41, q_lt200, q_200lt, q_le200, q_200le, q_eq200, q_lt400, q_400lt, q_le400, q_400le, q_eq400, q_lt600, q_600lt, q_le600, q_600le, q_eq600, q_lt800, q_800lt, q_le800, q_800le, q_eq800, q_lt900, q_900lt, q_le900, q_900le, q_eq900, q_0eq, q_1eq, q_2eq, q_3eq, q_4eq, q_neg, q_m1, q_m1l, q_s1, nI_1, q_1a, nI_add, q_mul, q_m41, q_41m, q_dn, q_dm10, q_dm11, q_dm12, q_dm13, q_dm14, q_d0m1, q_d01, q_d02, q_d03, q_d04, q_d1m1, q_d10, q_d12, q_d13, q_d14, q_d2m1, q_d20, q_d21, q_d23, q_d24, q_d3m1, q_d30, q_d31, q_d32, q_d34, q_d4m1, q_d40, q_d41, q_d42, q_d43, if_true, if_false, eq_self]; rfl
      · simp (disch := omega) only [F_Md_rankOf, fx_bnd, fx_bndx, e_gI, e_pI, e_rz0, e_rz1, e_ret, e_pur, e_thr, e_if, e_el, q_lt, q_le, q_eq, q_lt0, q_0lt, q_le0, q_0le, q_eq0, q_lt1, q_1lt, q_le1, q_1le, q_eq1, q_lt2, q_2lt, q_le2, q_2le, q_eq2, q_lt3, q_3lt, q_le3, q_3le, q_eq3, q_lt4, q_4lt, q_le4, q_4le, q_eq4, q_lt6, q_6lt, q_le6, q_6le, q_eq6, q_lt10, q_10lt, q_le10, q_10le, q_eq10, q_lt30, q_30lt, q_le30, q_30le, q_eq30, q_lt40, q_40lt, q_le40, q_40le, q_eq40, q_lt41, q_41lt, q_le41, q_41le, q_eq41, q_lt200, q_200lt, q_le200, q_200le, q_eq200, q_lt400, q_400lt, q_le400, q_400le, q_eq400, q_lt600, q_600lt, q_le600, q_600le, q_eq600, q_lt800, q_800lt, q_le800, q_800le, q_eq800, q_lt900, q_900lt, q_le900, q_900le, q_eq900, q_0eq, q_1eq, q_2eq, q_3eq, q_4eq, q_neg, q_m1, q_m1l, q_s1, nI_1, q_1a, nI_add, q_mul, q_m41, q_41m, q_dn, q_dm10, q_dm11, q_dm12, q_dm13, q_dm14, q_d0m1, q_d01, q_d02, q_d03, q_d04, q_d1m1, q_d10, q_d12, q_d13, q_d14, q_d2m1, q_d20, q_d21, q_d23, q_d24, q_d3m1, q_d30, q_d31, q_d32, q_d34, q_d4m1, q_d40, q_d41, q_d42, q_d43, if_true, if_false, eq_self, e2]; rfl
    · refine ⟨-1, 0, 9, by omega, by omega, fun h => absurd h h0, e1, e2, ?_, ?_, ?_, ?_⟩
      · simp (disch := omega) only [F_Scopes_sideOf, fx_bnd, fx_bndx, e_gI, e_pI, e_rz0, e_rz1, e_ret, e_pur, e_thr, e_if, e_el, q_lt, q_le, q_eq, q_lt0, q_0lt, q_le0, q_0le, q_eq0, q_lt1, q_1lt, q_le1, q_1le, q_eq1, q_lt2, q_2lt, q_le2, q_2le, q_eq2, q_lt3, q_3lt, q_le3, q_3le, q_eq3, q_lt4, q_4lt, q_le4, q_4le, q_eq4, q_lt6, q_6lt, q_le6, q_6le, q_eq6, q_lt10, q_10lt, q_le10, q_10le, q_eq10, q_lt30, q_30lt, q_le30, q_30le, q_eq30, q_lt40, q_40lt, q_le40, q_40le, q_eq40, q_lt41, q_41lt, q_le41, q_41le, q_eq41, q_lt200, q_200lt, q_le200, q_200le, q_eq200, q_lt400, q_400lt, q_le400, q_400le, q_eq400, q_lt600, q_600lt, q_le600, q_600le, q_eq600, q_lt800, q_800lt, q_le800, q_800le, q_eq800, q_lt900, q_900lt, q_le900, q_900le, q_eq900, q_0eq, q_1eq, q_2eq, q_3eq, q_4eq, q_neg, q_m1, q_m1l, q_s1, nI_1, q_1a, nI_add, q_mul, q_m41, q_41m, q_dn, q_dm10, q_dm11, q_dm12, q_dm13, q_dm14, q_d0m1, q_d01, q_d02, q_d03, q_d04, q_d1m1, q_d10, q_d12, q_d13, q_d14, q_d2m1, q_d20, q_d21, q_d23, q_d24, q_d3m1, q_d30, q_d31, q_d32, q_d34, q_d4m1, q_d40, q_d41, q_d42, q_d43, if_true, if_false, eq_self, e1, e3]; rfl
      · simp (disch := omega) only [F_Md_sideOf, fx_bnd, fx_bndx, e_gI, e_pI, e_rz0, e_rz1, e_ret, e_pur, e_thr, e_if, e_el, q_lt, q_le, q_eq, q_lt0, q_0lt, q_le0, q_0le, q_eq0, q_lt1, q_1lt, q_le1, q_1le, q_eq1, q_lt2, q_2lt, q_le2, q_2le, q_eq2, q_lt3, q_3lt, q_le3, q_3le, q_eq3, q_lt4, q_4lt, q_le4, q_4le, q_eq4, q_lt6, q_6lt, q_le6, q_6le, q_eq6, q_lt10, q_10lt, q_le10, q_10le, q_eq10, q_lt30, q_30lt, q_le30, q_30le, q_eq30, q_lt40, q_40lt, q_le40, q_40le, q_eq40, q_lt41, q_41lt, q_le41, q_41le, q_eq41, q_lt200, q_200lt, q_le200, q_200le, q_eq200, q_lt400, q_400lt, q_le400, q_400le, q_eq400, q_lt600, q_600lt, q_le600, q_600le, q_eq600, q_lt800, q_800lt, q_le800, q_800le, q_eq800, q_lt900, q_900lt, q_le900, q_900le, q_eq900, q_0eq, q_1eq, q_2eq, q_3eq, q_4eq, q_neg, q_m1, q_m1l, q_s1, nI_1, q_1a, nI_add, q_mul, q_m41, q_41m, q_dn, q_dm10, q_dm11, q_dm12, q_dm13, q_dm14, q_d0m1, q_d01, q_d02, q_d03, q_d04, q_d1m1, q_d10, q_d12, q_d13, q_d14, q_d2m1, q_d20, q_d21, q_d23, q_d24, q_d3m1, q_d30, q_d31, q_d32, q_d34, q_d4m1, q_d40, q_d41, q_d42, q_d43, if_true, if_false, eq_self, e2]; rfl
      · simp (disch := omega) only [F_Scopes_rankOf, fx_bnd, fx_bndx, e_gI, e_pI, e_rz0, e_rz1, e_ret, e_pur, e_thr, e_if, e_el, q_lt, q_le, q_eq, q_lt0, q_0lt, q_le0, q_0le, q_eq0, q_lt1, q_1lt, q_le1, q_1le, q_eq1, q_lt2, q_2lt, q_le2, q_2le, q_eq2, q_lt3, q_3lt, q_le3, q_3le, q_eq3, q_lt4, q_4lt, q_le4, q_4le, q_eq4, q_lt6, q_6lt, q_le6, q_6le, q_eq6, q_lt10, q_10lt, q_le10, q_10le, q_eq10, q_lt30, q_30lt, q_le30, q_30le, q_eq30, q_lt40, q_40lt, q_le40, q_40le, q_eq40, q_lt41, q_41lt, q_le41, q_41le, q_eq41, q_lt200, q_200lt, q_le200, q_200le, q_eq200, q_lt400, q_400lt, q_le400, q_400le, q_eq400, q_lt600, q_600lt, q_le600, q_600le, q_eq600, q_lt800, q_800lt, q_le800, q_800le, q_eq800, q_lt900, q_900lt, q_le900, q_900le, q_eq900, q_0eq, q_1eq, q_2eq, q_3eq, q_4eq, q_neg, q_m1, q_m1l, q_s1, nI_1, q_1a, nI_add, q_mul, q_m41, q_41m, q_dn, q_dm10, q_dm11, q_dm12, q_dm13, q_dm14, q_d0m1, q_d01, q_d02, q_d03, q_d04, q_d1m1, q_d10, q_d12, q_d13, q_d14, q_d2m1, q_d20, q_d21, q_d23, q_d24, q_d3m1, q_d30, q_d31, q_d32, q_d34, q_d4m1, q_d40, q_d41, q_d42, q_d43, if_true, if_false, eq_self, e1, e3]; rfl
      · simp (disch := omega) only [F_Md_rankOf, fx_bnd, fx_bndx, e_gI, e_pI, e_rz0, e_rz1, e_ret, e_pur, e_thr, e_if, e_el, q_lt, q_le, q_eq, q_lt0, q_0lt, q_le0, q_0le, q_eq0, q_lt1, q_1lt, q_le1, q_1le, q_eq1, q_lt2, q_2lt, q_le2, q_2le, q_eq2, q_lt3, q_3lt, q_le3, q_3le, q_eq3, q_lt4, q_4lt, q_le4, q_4le, q_eq4, q_lt6, q_6lt, q_le6, q_6le, q_eq6, q_lt10, q_10lt, q_le10, q_10le, q_eq10, q_lt30, q_30lt, q_le30, q_30le, q_eq30, q_lt40, q_40lt, q_le40, q_40le, q_eq40, q_lt41, q_41lt, q_le41, q_41le, q_eq41, q_lt200, q_200lt, q_le200, q_200le, q_eq200, q_lt400, q_400lt, q_le400, q_400le, q_eq400, q_lt600, q_600lt, q_le600, q_600le, q_eq600, q_lt800, q_800lt, q_le800, q_800le, q_eq800, q_lt900, q_900lt, q_le900, q_900le, q_eq900, q_0eq, q_1eq, q_2eq, q_3eq, q_4eq, q_neg, q_m1, q_m1l, q_s1, nI_1, q_1a, nI_add, q_mul, q_m41, q_41m, q_dn, q_dm10, q_dm11, q_dm12, q_dm13, q_dm14, q_d0m1, q_d01, q_d02, q_d03, q_d04, q_d1m1, q_d10, q_d12, q_d13, q_d14, q_d2m1, q_d20, q_d21, q_d23, q_d24, q_d3m1, q_d30, q_d31, q_d32, q_d34, q_d4m1, q_d40, q_d41, q_d42, q_d43, if_true, if_false, eq_self, e2]; rfl
  · have e3 := s_code hz h30 hj ho
    rcases hco j o hj ho with ⟨hc, -⟩ | ⟨d, k, hd, hk, hc, hs, hr⟩
    · exact absurd hc hne
    · obtain ⟨g1, g2⟩ := s_dv d hd k hk
      by_cases h0 : o = 0
      · subst h0
        refine ⟨nI j, d, 6, hd, by omega, fun _ => rfl, e1, e2, ?_, ?_, ?_, ?_⟩
        · simp (disch := omega) only [F_Scopes_sideOf, fx_bnd, fx_bndx, e_gI, e_pI, e_rz0, e_rz1, e_ret, e_pur, e_thr, e_if, e_el, e1, e3, hc, e_el (show ¬ nI (d * 10 + k + 1) = 0 from nI_ne0 (by omega) (by omega)), g1]
        · simp (disch := omega) only [F_Md_sideOf, fx_bnd, fx_bndx, e_gI, e_pI, e_rz0, e_rz1, e_ret, e_pur, e_thr, e_if, e_el, q_lt, q_le, q_eq, q_lt0, q_0lt, q_le0, q_0le, q_eq0, q_lt1, q_1lt, q_le1, q_1le, q_eq1, q_lt2, q_2lt, q_le2, q_2le, q_eq2, q_lt3, q_3lt, q_le3, q_3le, q_eq3, q_lt4, q_4lt, q_le4, q_4le, q_eq4, q_lt6, q_6lt, q_le6, q_6le, q_eq6, q_lt10, q_10lt, q_le10, q_10le, q_eq10, q_lt30, q_30lt, q_le30, q_30le, q_eq30, q_lt40, q_40lt, q_le40, q_40le, q_eq40, q_lt41, q_41lt, q_le41, q_41le, q_eq41, q_lt200, q_200lt, q_le200, q_200le, q_eq200, q_lt400, q_400lt, q_le400, q_400le, q_eq400, q_lt600, q_600lt, q_le600, q_600le, q_eq600, q_lt800, q_800lt, q_le800, q_800le, q_eq800, q_lt900, q_900lt, q_le900, q_900le, q_eq900, q_0eq, q_1eq, q_2eq, q_3eq, q_4eq, q_neg, q_m1, q_m1l, q_s1, nI_1, q_1a, nI_add, q_mul, q_m41, q_41m, q_dn, q_dm10, q_dm11, q_dm12, q_dm13, q_dm14, q_d0m1, q_d01, q_d02, q_d03, q_d04, q_d1m1, q_d10, q_d12, q_d13, q_d14, q_d2m1, q_d20, q_d21, q_d23, q_d24, q_d3m1, q_d30, q_d31, q_d32, q_d34, q_d4m1, q_d40, q_d41, q_d42, q_d43, if_true, if_false, eq_self, e2, e_lA, hs]
        · simp (disch := omega) only [F_Scopes_rankOf, fx_bnd, fx_bndx, e_gI, e_pI, e_rz0, e_rz1, e_ret, e_pur, e_thr, e_if, e_el, q_lt, q_le, q_eq, q_lt0, q_0lt, q_le0, q_0le, q_eq0, q_lt1, q_1lt, q_le1, q_1le, q_eq1, q_lt2, q_2lt, q_le2, q_2le, q_eq2, q_lt3, q_3lt, q_le3, q_3le, q_eq3, q_lt4, q_4lt, q_le4, q_4le, q_eq4, q_lt6, q_6lt, q_le6, q_6le, q_eq6, q_lt10, q_10lt, q_le10, q_10le, q_eq10, q_lt30, q_30lt, q_le30, q_30le, q_eq30, q_lt40, q_40lt, q_le40, q_40le, q_eq40, q_lt41, q_41lt, q_le41, q_41le, q_eq41, q_lt200, q_200lt, q_le200, q_200le, q_eq200, q_lt400, q_400lt, q_le400, q_400le, q_eq400, q_lt600, q_600lt, q_le600, q_600le, q_eq600, q_lt800, q_800lt, q_le800, q_800le, q_eq800, q_lt900, q_900lt, q_le900, q_900le, q_eq900, q_0eq, q_1eq, q_2eq, q_3eq, q_4eq, q_neg, q_m1, q_m1l, q_s1, nI_1, q_1a, nI_add, q_mul, q_m41, q_41m, q_dn, q_dm10, q_dm11, q_dm12, q_dm13, q_dm14, q_d0m1, q_d01, q_d02, q_d03, q_d04, q_d1m1, q_d10, q_d12, q_d13, q_d14, q_d2m1, q_d20, q_d21, q_d23, q_d24, q_d3m1, q_d30, q_d31, q_d32, q_d34, q_d4m1, q_d40, q_d41, q_d42, q_d43, if_true, if_false, eq_self]; rfl
        · simp (disch := omega) only [F_Md_rankOf, fx_bnd, fx_bndx, e_gI, e_pI, e_rz0, e_rz1, e_ret, e_pur, e_thr, e_if, e_el, q_lt, q_le, q_eq, q_lt0, q_0lt, q_le0, q_0le, q_eq0, q_lt1, q_1lt, q_le1, q_1le, q_eq1, q_lt2, q_2lt, q_le2, q_2le, q_eq2, q_lt3, q_3lt, q_le3, q_3le, q_eq3, q_lt4, q_4lt, q_le4, q_4le, q_eq4, q_lt6, q_6lt, q_le6, q_6le, q_eq6, q_lt10, q_10lt, q_le10, q_10le, q_eq10, q_lt30, q_30lt, q_le30, q_30le, q_eq30, q_lt40, q_40lt, q_le40, q_40le, q_eq40, q_lt41, q_41lt, q_le41, q_41le, q_eq41, q_lt200, q_200lt, q_le200, q_200le, q_eq200, q_lt400, q_400lt, q_le400, q_400le, q_eq400, q_lt600, q_600lt, q_le600, q_600le, q_eq600, q_lt800, q_800lt, q_le800, q_800le, q_eq800, q_lt900, q_900lt, q_le900, q_900le, q_eq900, q_0eq, q_1eq, q_2eq, q_3eq, q_4eq, q_neg, q_m1, q_m1l, q_s1, nI_1, q_1a, nI_add, q_mul, q_m41, q_41m, q_dn, q_dm10, q_dm11, q_dm12, q_dm13, q_dm14, q_d0m1, q_d01, q_d02, q_d03, q_d04, q_d1m1, q_d10, q_d12, q_d13, q_d14, q_d2m1, q_d20, q_d21, q_d23, q_d24, q_d3m1, q_d30, q_d31, q_d32, q_d34, q_d4m1, q_d40, q_d41, q_d42, q_d43, if_true, if_false, eq_self, e2]; rfl
      · refine ⟨nI j, d, k, hd, hk, fun h => absurd h h0, e1, e2, ?_, ?_, ?_, ?_⟩
        · simp (disch := omega) only [F_Scopes_sideOf, fx_bnd, fx_bndx, e_gI, e_pI, e_rz0, e_rz1, e_ret, e_pur, e_thr, e_if, e_el, e1, e3, hc, e_el (show ¬ nI (d * 10 + k + 1) = 0 from nI_ne0 (by omega) (by omega)), g1]
        · simp (disch := omega) only [F_Md_sideOf, fx_bnd, fx_bndx, e_gI, e_pI, e_rz0, e_rz1, e_ret, e_pur, e_thr, e_if, e_el, q_lt, q_le, q_eq, q_lt0, q_0lt, q_le0, q_0le, q_eq0, q_lt1, q_1lt, q_le1, q_1le, q_eq1, q_lt2, q_2lt, q_le2, q_2le, q_eq2, q_lt3, q_3lt, q_le3, q_3le, q_eq3, q_lt4, q_4lt, q_le4, q_4le, q_eq4, q_lt6, q_6lt, q_le6, q_6le, q_eq6, q_lt10, q_10lt, q_le10, q_10le, q_eq10, q_lt30, q_30lt, q_le30, q_30le, q_eq30, q_lt40, q_40lt, q_le40, q_40le, q_eq40, q_lt41, q_41lt, q_le41, q_41le, q_eq41, q_lt200, q_200lt, q_le200, q_200le, q_eq200, q_lt400, q_400lt, q_le400, q_400le, q_eq400, q_lt600, q_600lt, q_le600, q_600le, q_eq600, q_lt800, q_800lt, q_le800, q_800le, q_eq800, q_lt900, q_900lt, q_le900, q_900le, q_eq900, q_0eq, q_1eq, q_2eq, q_3eq, q_4eq, q_neg, q_m1, q_m1l, q_s1, nI_1, q_1a, nI_add, q_mul, q_m41, q_41m, q_dn, q_dm10, q_dm11, q_dm12, q_dm13, q_dm14, q_d0m1, q_d01, q_d02, q_d03, q_d04, q_d1m1, q_d10, q_d12, q_d13, q_d14, q_d2m1, q_d20, q_d21, q_d23, q_d24, q_d3m1, q_d30, q_d31, q_d32, q_d34, q_d4m1, q_d40, q_d41, q_d42, q_d43, if_true, if_false, eq_self, e2, e_lA, hs]
        · rw [F_Scopes_rankOf, e_el (show ¬ nI o = 0 from nI_ne0 (by omega) (by omega))]
          simp (disch := omega) only [fx_bnd, fx_bndx, e_gI, e_pI, e_rz0, e_rz1, e_ret, e_pur, e_thr, e_if, e_el, e1, e3, hc, e_el (show ¬ nI (d * 10 + k + 1) = 0 from nI_ne0 (by omega) (by omega)), g2]
        · simp (disch := omega) only [F_Md_rankOf, fx_bnd, fx_bndx, e_gI, e_pI, e_rz0, e_rz1, e_ret, e_pur, e_thr, e_if, e_el, q_lt, q_le, q_eq, q_lt0, q_0lt, q_le0, q_0le, q_eq0, q_lt1, q_1lt, q_le1, q_1le, q_eq1, q_lt2, q_2lt, q_le2, q_2le, q_eq2, q_lt3, q_3lt, q_le3, q_3le, q_eq3, q_lt4, q_4lt, q_le4, q_4le, q_eq4, q_lt6, q_6lt, q_le6, q_6le, q_eq6, q_lt10, q_10lt, q_le10, q_10le, q_eq10, q_lt30, q_30lt, q_le30, q_30le, q_eq30, q_lt40, q_40lt, q_le40, q_40le, q_eq40, q_lt41, q_41lt, q_le41, q_41le, q_eq41, q_lt200, q_200lt, q_le200, q_200le, q_eq200, q_lt400, q_400lt, q_le400, q_400le, q_eq400, q_lt600, q_600lt, q_le600, q_600le, q_eq600, q_lt800, q_800lt, q_le800, q_800le, q_eq800, q_lt900, q_900lt, q_le900, q_900le, q_eq900, q_0eq, q_1eq, q_2eq, q_3eq, q_4eq, q_neg, q_m1, q_m1l, q_s1, nI_1, q_1a, nI_add, q_mul, q_m41, q_41m, q_dn, q_dm10, q_dm11, q_dm12, q_dm13, q_dm14, q_d0m1, q_d01, q_d02, q_d03, q_d04, q_d1m1, q_d10, q_d12, q_d13, q_d14, q_d2m1, q_d20, q_d21, q_d23, q_d24, q_d3m1, q_d30, q_d31, q_d32, q_d34, q_d4m1, q_d40, q_d41, q_d42, q_d43, if_true, if_false, eq_self, e2, e_lA, hr]
/-! SCOPE, FIXITY, LOOKED -/
theorem s_sideEval {k o : Nat} (hk : k < 30) (ho : o < 41) : 41 * k + o < 1230 := by omega
theorem s_tellN {τ : fx_S} {n : Nat} (hn : n < 30) : ∀ (m o f : Nat), m + o = 41 → ∃ τ', fx_loop2 F_Md_tellNothing_B2 (f + m + 1) (nI n) (nI o) τ = some ((), τ') ∧ τ'.1 = τ.1 ∧ τ'.2.2 = τ.2.2 ∧ (∀ a, a ≠ 2 → τ'.2.1 a = τ.2.1 a) ∧ (∀ i, τ'.2.1 2 i = if 41 * n + o ≤ i ∧ i < 41 * n + 41 then -1 else τ.2.1 2 i) := by
  intro m
  induction m generalizing τ with
  | zero =>
    intro o f ho
    have : o = 41 := by omega
    subst this
    refine ⟨τ, ?_, rfl, rfl, fun _ _ => rfl, fun i => ?_⟩
    · simp (disch := omega) only [e_loop2, F_Md_tellNothing_B2, fx_bnd, fx_bndx, e_gI, e_pI, e_rz0, e_rz1, e_ret, e_pur, e_thr, e_if, e_el, q_lt, q_le, q_eq, q_lt0, q_0lt, q_le0, q_0le, q_eq0, q_lt1, q_1lt, q_le1, q_1le, q_eq1, q_lt2, q_2lt, q_le2, q_2le, q_eq2, q_lt3, q_3lt, q_le3, q_3le, q_eq3, q_lt4, q_4lt, q_le4, q_4le, q_eq4, q_lt6, q_6lt, q_le6, q_6le, q_eq6, q_lt10, q_10lt, q_le10, q_10le, q_eq10, q_lt30, q_30lt, q_le30, q_30le, q_eq30, q_lt40, q_40lt, q_le40, q_40le, q_eq40, q_lt41, q_41lt, q_le41, q_41le, q_eq41, q_lt200, q_200lt, q_le200, q_200le, q_eq200, q_lt400, q_400lt, q_le400, q_400le, q_eq400, q_lt600, q_600lt, q_le600, q_600le, q_eq600, q_lt800, q_800lt, q_le800, q_800le, q_eq800, q_lt900, q_900lt, q_le900, q_900le, q_eq900, q_0eq, q_1eq, q_2eq, q_3eq, q_4eq, q_neg, q_m1, q_m1l, q_s1, nI_1, q_1a, nI_add, q_mul, q_m41, q_41m, q_dn, q_dm10, q_dm11, q_dm12, q_dm13, q_dm14, q_d0m1, q_d01, q_d02, q_d03, q_d04, q_d1m1, q_d10, q_d12, q_d13, q_d14, q_d2m1, q_d20, q_d21, q_d23, q_d24, q_d3m1, q_d30, q_d31, q_d32, q_d34, q_d4m1, q_d40, q_d41, q_d42, q_d43, if_true, if_false, eq_self]
    · rw [if_neg (by omega)]
  | succ m ih =>
    intro o f ho
    obtain ⟨τ', h1, h2, h3, h4, h5⟩ := ih (τ := (τ.1, va_up τ.2.1 2 (upd (τ.2.1 2) (41 * n + o) (-1)), τ.2.2)) (o + 1) f (by omega)
    refine ⟨τ', ?_, h2, h3, fun a ha => ?_, fun i => ?_⟩
    · rw [show f + (m + 1) + 1 = (f + m + 1) + 1 by omega]
      simp (disch := omega) only [e_loop2 _ (f + m + 1), F_Md_tellNothing_B2, fx_bnd, fx_bndx, e_gI, e_pI, e_rz0, e_rz1, e_ret, e_pur, e_thr, e_if, e_el, q_lt, q_le, q_eq, q_lt0, q_0lt, q_le0, q_0le, q_eq0, q_lt1, q_1lt, q_le1, q_1le, q_eq1, q_lt2, q_2lt, q_le2, q_2le, q_eq2, q_lt3, q_3lt, q_le3, q_3le, q_eq3, q_lt4, q_4lt, q_le4, q_4le, q_eq4, q_lt6, q_6lt, q_le6, q_6le, q_eq6, q_lt10, q_10lt, q_le10, q_10le, q_eq10, q_lt30, q_30lt, q_le30, q_30le, q_eq30, q_lt40, q_40lt, q_le40, q_40le, q_eq40, q_lt41, q_41lt, q_le41, q_41le, q_eq41, q_lt200, q_200lt, q_le200, q_200le, q_eq200, q_lt400, q_400lt, q_le400, q_400le, q_eq400, q_lt600, q_600lt, q_le600, q_600le, q_eq600, q_lt800, q_800lt, q_le800, q_800le, q_eq800, q_lt900, q_900lt, q_le900, q_900le, q_eq900, q_0eq, q_1eq, q_2eq, q_3eq, q_4eq, q_neg, q_m1, q_m1l, q_s1, nI_1, q_1a, nI_add, q_mul, q_m41, q_41m, q_dn, q_dm10, q_dm11, q_dm12, q_dm13, q_dm14, q_d0m1, q_d01, q_d02, q_d03, q_d04, q_d1m1, q_d10, q_d12, q_d13, q_d14, q_d2m1, q_d20, q_d21, q_d23, q_d24, q_d3m1, q_d30, q_d31, q_d32, q_d34, q_d4m1, q_d40, q_d41, q_d42, q_d43, if_true, if_false, eq_self, e_sA, h1]
    · rw [h4 a ha]
      exact va_up_ne _ _ ha
    · rw [h5 i]
      show (if _ then _ else va_up τ.2.1 2 (upd (τ.2.1 2) (41 * n + o) (-1)) 2 i) = _
      rw [va_up_self]
      by_cases hi : i = 41 * n + o
      · subst hi
        rw [if_neg (by omega), if_pos (by omega), q_us]
      · rw [q_un _ _ hi]
        by_cases h9 : 41 * n + (o + 1) ≤ i ∧ i < 41 * n + 41
        · rw [if_pos h9, if_pos (by omega)]
        · rw [if_neg h9, if_neg (by omega)]
theorem s_tellN0 {τ : fx_S} {n : Nat} (hn : n < 30) : ∃ τ', F_Md_tellNothing (nI n) τ = some ((), τ') ∧ τ'.1 = τ.1 ∧ τ'.2.2 = τ.2.2 ∧ (∀ a, a ≠ 2 → τ'.2.1 a = τ.2.1 a) ∧ (∀ i, τ'.2.1 2 i = if 41 * n ≤ i ∧ i < 41 * n + 41 then -1 else τ.2.1 2 i) := by
  obtain ⟨τ', h1, h⟩ := s_tellN (τ := τ) hn 41 0 (fx_fuel - 42) rfl
  rw [show fx_fuel - 42 + 41 + 1 = fx_fuel by unfold fx_fuel; omega] at h1
  exact ⟨τ', h1, h⟩
/-- what of two states the relation reads: the rest may change -/
theorem Rel_code {σ τ : fx_S} (h : Rel σ τ) (v : Int32) : Rel σ (va_up τ.1 0 v, τ.2.1, τ.2.2) := h
theorem o_scope {σ τ : fx_S} (h : Rel σ τ) (a : Int32) : lw_op Rel [(0, 1), (1, 2)] (F_FixityTrees_scope a) (F_Md_scope a) (fun r b => r = b) σ τ := by
  obtain ⟨⟨n, HS⟩, HR, HC, HT, HW⟩ := id h
  obtain ⟨h1, h30, hz, hz', hou, hco, hnew⟩ := id HS
  rcases q_idx a n with ⟨j, hj, hjb, rfl⟩ | hbad
  · by_cases hf : n = 30
    · refine op_thr 1 2 (by simp) (σ' := σ) (τ' := (va_up τ.1 0 2, τ.2.1, τ.2.2)) (b := 0) ?_ ?_ rfl (Rel_code h 2)
      · subst hf
        simp (disch := omega) only [F_FixityTrees_scope, F_FixityTrees_requireScope, F_Scopes_isFull, fx_bnd, fx_bndx, e_gI, e_pI, e_rz0, e_rz1, e_ret, e_pur, e_thr, e_if, e_el, s_has hz h30 hj, hz, q_lt, q_le, q_eq, q_lt0, q_0lt, q_le0, q_0le, q_eq0, q_lt1, q_1lt, q_le1, q_1le, q_eq1, q_lt2, q_2lt, q_le2, q_2le, q_eq2, q_lt3, q_3lt, q_le3, q_3le, q_eq3, q_lt4, q_4lt, q_le4, q_4le, q_eq4, q_lt6, q_6lt, q_le6, q_6le, q_eq6, q_lt10, q_10lt, q_le10, q_10le, q_eq10, q_lt30, q_30lt, q_le30, q_30le, q_eq30, q_lt40, q_40lt, q_le40, q_40le, q_eq40, q_lt41, q_41lt, q_le41, q_41le, q_eq41, q_lt200, q_200lt, q_le200, q_200le, q_eq200, q_lt400, q_400lt, q_le400, q_400le, q_eq400, q_lt600, q_600lt, q_le600, q_600le, q_eq600, q_lt800, q_800lt, q_le800, q_800le, q_eq800, q_lt900, q_900lt, q_le900, q_900le, q_eq900, q_0eq, q_1eq, q_2eq, q_3eq, q_4eq, q_neg, q_m1, q_m1l, q_s1, nI_1, q_1a, nI_add, q_mul, q_m41, q_41m, q_dn, q_dm10, q_dm11, q_dm12, q_dm13, q_dm14, q_d0m1, q_d01, q_d02, q_d03, q_d04, q_d1m1, q_d10, q_d12, q_d13, q_d14, q_d2m1, q_d20, q_d21, q_d23, q_d24, q_d3m1, q_d30, q_d31, q_d32, q_d34, q_d4m1, q_d40, q_d41, q_d42, q_d43, if_true, if_false, eq_self]
      · subst hf
        simp (disch := omega) only [F_Md_scope, F_Md_scope_J27, F_Md_isGood, fx_bnd, fx_bndx, e_gI, e_pI, e_rz0, e_rz1, e_ret, e_pur, e_thr, e_if, e_el, s_isc hz' h30 hj, hz', q_lt, q_le, q_eq, q_lt0, q_0lt, q_le0, q_0le, q_eq0, q_lt1, q_1lt, q_le1, q_1le, q_eq1, q_lt2, q_2lt, q_le2, q_2le, q_eq2, q_lt3, q_3lt, q_le3, q_3le, q_eq3, q_lt4, q_4lt, q_le4, q_4le, q_eq4, q_lt6, q_6lt, q_le6, q_6le, q_eq6, q_lt10, q_10lt, q_le10, q_10le, q_eq10, q_lt30, q_30lt, q_le30, q_30le, q_eq30, q_lt40, q_40lt, q_le40, q_40le, q_eq40, q_lt41, q_41lt, q_le41, q_41le, q_eq41, q_lt200, q_200lt, q_le200, q_200le, q_eq200, q_lt400, q_400lt, q_le400, q_400le, q_eq400, q_lt600, q_600lt, q_le600, q_600le, q_eq600, q_lt800, q_800lt, q_le800, q_800le, q_eq800, q_lt900, q_900lt, q_le900, q_900le, q_eq900, q_0eq, q_1eq, q_2eq, q_3eq, q_4eq, q_neg, q_m1, q_m1l, q_s1, nI_1, q_1a, nI_add, q_mul, q_m41, q_41m, q_dn, q_dm10, q_dm11, q_dm12, q_dm13, q_dm14, q_d0m1, q_d01, q_d02, q_d03, q_d04, q_d1m1, q_d10, q_d12, q_d13, q_d14, q_d2m1, q_d20, q_d21, q_d23, q_d24, q_d3m1, q_d30, q_d31, q_d32, q_d34, q_d4m1, q_d40, q_d41, q_d42, q_d43, if_true, if_false, eq_self]
    · obtain ⟨τ', t1, t2, t3, t4, t5⟩ := s_tellN0 (τ := (va_up τ.1 0 0, va_up τ.2.1 1 (upd (τ.2.1 1) n (nI j)), τ.2.2)) (n := n) (by omega)
      have e5 : τ'.1 = va_up τ.1 0 0 := t2
      refine op_ret (r := nI n) (b := nI n) (σ' := (va_up σ.1 18 (nI (n + 1)), va_up σ.2.1 2 (upd (σ.2.1 2) n (nI j)), σ.2.2)) (τ' := (va_up τ'.1 1 (nI (n + 1)), τ'.2.1, τ'.2.2)) ?_ ?_ ?_ rfl ?_
      · simp (disch := omega) only [F_FixityTrees_scope, F_FixityTrees_requireScope, F_Scopes_isFull, F_Scopes_add, fx_bnd, fx_bndx, e_gI, e_pI, e_rz0, e_rz1, e_ret, e_pur, e_thr, e_if, e_el, s_has hz h30 hj, hz, q_lt, q_le, q_eq, q_lt0, q_0lt, q_le0, q_0le, q_eq0, q_lt1, q_1lt, q_le1, q_1le, q_eq1, q_lt2, q_2lt, q_le2, q_2le, q_eq2, q_lt3, q_3lt, q_le3, q_3le, q_eq3, q_lt4, q_4lt, q_le4, q_4le, q_eq4, q_lt6, q_6lt, q_le6, q_6le, q_eq6, q_lt10, q_10lt, q_le10, q_10le, q_eq10, q_lt30, q_30lt, q_le30, q_30le, q_eq30, q_lt40, q_40lt, q_le40, q_40le, q_eq40, q_lt41, q_41lt, q_le41, q_41le, q_eq41, q_lt200, q_200lt, q_le200, q_200le, q_eq200, q_lt400, q_400lt, q_le400, q_400le, q_eq400, q_lt600, q_600lt, q_le600, q_600le, q_eq600, q_lt800, q_800lt, q_le800, q_800le, q_eq800, q_lt900, q_900lt, q_le900, q_900le, q_eq900, q_0eq, q_1eq, q_2eq, q_3eq, q_4eq, q_neg, q_m1, q_m1l, q_s1, nI_1, q_1a, nI_add, q_mul, q_m41, q_41m, q_dn, q_dm10, q_dm11, q_dm12, q_dm13, q_dm14, q_d0m1, q_d01, q_d02, q_d03, q_d04, q_d1m1, q_d10, q_d12, q_d13, q_d14, q_d2m1, q_d20, q_d21, q_d23, q_d24, q_d3m1, q_d30, q_d31, q_d32, q_d34, q_d4m1, q_d40, q_d41, q_d42, q_d43, if_true, if_false, eq_self, e_sA]
      · have e6 : va_up τ.1 0 0 1 = nI n := hz'
        simp (disch := omega) only [F_Md_scope, F_Md_scope_J27, F_Md_isGood, fx_bnd, fx_bndx, e_gI, e_pI, e_rz0, e_rz1, e_ret, e_pur, e_thr, e_if, e_el, s_isc hz' h30 hj, hz', q_lt, q_le, q_eq, q_lt0, q_0lt, q_le0, q_0le, q_eq0, q_lt1, q_1lt, q_le1, q_1le, q_eq1, q_lt2, q_2lt, q_le2, q_2le, q_eq2, q_lt3, q_3lt, q_le3, q_3le, q_eq3, q_lt4, q_4lt, q_le4, q_4le, q_eq4, q_lt6, q_6lt, q_le6, q_6le, q_eq6, q_lt10, q_10lt, q_le10, q_10le, q_eq10, q_lt30, q_30lt, q_le30, q_30le, q_eq30, q_lt40, q_40lt, q_le40, q_40le, q_eq40, q_lt41, q_41lt, q_le41, q_41le, q_eq41, q_lt200, q_200lt, q_le200, q_200le, q_eq200, q_lt400, q_400lt, q_le400, q_400le, q_eq400, q_lt600, q_600lt, q_le600, q_600le, q_eq600, q_lt800, q_800lt, q_le800, q_800le, q_eq800, q_lt900, q_900lt, q_le900, q_900le, q_eq900, q_0eq, q_1eq, q_2eq, q_3eq, q_4eq, q_neg, q_m1, q_m1l, q_s1, nI_1, q_1a, nI_add, q_mul, q_m41, q_41m, q_dn, q_dm10, q_dm11, q_dm12, q_dm13, q_dm14, q_d0m1, q_d01, q_d02, q_d03, q_d04, q_d1m1, q_d10, q_d12, q_d13, q_d14, q_d2m1, q_d20, q_d21, q_d23, q_d24, q_d3m1, q_d30, q_d31, q_d32, q_d34, q_d4m1, q_d40, q_d41, q_d42, q_d43, if_true, if_false, eq_self, e_sA, e6, t1, e5, va_up_self, Nat.add_sub_cancel]
      · rw [e5]; rfl
      · have b1 : τ'.2.1 1 = upd (τ.2.1 1) n (nI j) := by rw [t4 1 (by decide)]; rfl
        have b3 : τ'.2.1 3 = τ.2.1 3 := by rw [t4 3 (by decide)]; rfl
        have b2 : ∀ i, τ'.2.1 2 i = if 41 * n ≤ i ∧ i < 41 * n + 41 then -1 else τ.2.1 2 i := t5
        refine ⟨⟨n + 1, by omega, by omega, rfl, rfl, ?_, ?_, ?_⟩, ?_, ?_, ?_, ?_⟩
        · intro k hk
          show τ'.2.1 1 k = upd (σ.2.1 2) n (nI j) k ∧ (upd (σ.2.1 2) n (nI j) k = -1 ∨ ∃ j', j' < k ∧ upd (σ.2.1 2) n (nI j) k = nI j')
          rw [b1]
          by_cases hkn : k = n
          · subst hkn
            rw [q_us, q_us]
            exact ⟨rfl, Or.inr ⟨j, hj, rfl⟩⟩
          · rw [q_un _ _ hkn, q_un _ _ hkn]
            exact hou k (by omega)
        · intro k o hk ho
          show scd (σ.2.1 3 (41 * k + o)) (τ'.2.1 2 (41 * k + o)) (τ'.2.1 3 (41 * k + o))
          rw [b2, b3]
          by_cases hkn : k = n
          · subst hkn
            rw [if_pos (by omega)]
            exact Or.inl ⟨hnew k o (by omega) (by omega) ho, rfl⟩
          · rw [if_neg (by omega)]
            exact hco k o (by omega) ho
        · intro k o hk hk2 ho
          exact hnew k o (by omega) hk2 ho
        · obtain ⟨m, g1, g2, g3⟩ := HR
          refine ⟨m, g1, ?_, ?_⟩
          · show rowR (τ'.1 5) (τ'.1 10) (τ'.2.1 4) (τ'.2.1 5) (τ'.2.2 6) (τ'.2.1 7) _ _ _ m
            rw [e5, t3, t4 4 (by decide), t4 5 (by decide), t4 7 (by decide)]
            exact g2
          · show σ.1 119 = τ'.1 6 ∧ (τ'.1 6 = 0 ∨ τ'.1 6 = 1)
            rw [e5]; exact g3
        · show σ.1 7 = τ'.1 22 ∧ σ.1 8 = τ'.1 23 ∧ σ.1 9 = τ'.1 24 ∧ σ.1 10 = τ'.1 25
          rw [e5]; exact HC
        · obtain ⟨m, g⟩ := HT
          refine ⟨m, ?_⟩
          unfold RTn at g ⊢
          show m ≤ 200 ∧ σ.1 422 = nI m ∧ τ'.1 12 = nI m ∧ σ.1 423 = (if m = 0 then 0 else τ'.1 21) ∧ (∀ k, k < m → τ'.2.1 8 k = σ.2.1 27 k ∧ τ'.2.1 9 k = σ.2.1 28 k ∧ τ'.2.1 10 k = σ.2.1 29 k ∧ τ'.2.1 11 k = σ.2.1 30 k ∧ τ'.2.1 12 k = σ.2.1 31 k ∧ τ'.2.2 14 k = σ.2.2 32 k) ∧ ptA (σ.2.1 27) (σ.2.1 28) (σ.2.1 29) (σ.2.1 30) (σ.2.2 32) m
          rw [e5, t3, t4 8 (by decide), t4 9 (by decide), t4 10 (by decide), t4 11 (by decide), t4 12 (by decide)]
          exact g
        · obtain ⟨m, g⟩ := HW
          refine ⟨m, ?_⟩
          unfold RWn at g ⊢
          show m ≤ 600 ∧ σ.1 646 = nI m ∧ τ'.1 40 = nI m ∧ ((τ'.1 39 = 0 ∧ m = 0) ∨ (τ'.1 39 = 1 ∧ 0 < m)) ∧ (∀ k, k < m → τ'.2.1 23 k = σ.2.1 41 k ∧ τ'.2.1 24 k = σ.2.1 42 k ∧ τ'.2.1 25 k = σ.2.1 43 k ∧ τ'.2.2 26 k = σ.2.2 44 k) ∧ σ.1 647 = nI (mxA (σ.2.1 41) m) ∧ gr (σ.2.1 41) (σ.2.1 42) (σ.2.2 44) m ∧ stk (σ.2.1 41) m = []
          rw [e5, t3, t4 23 (by decide), t4 24 (by decide), t4 25 (by decide)]
          exact g
  · refine op_thr 0 1 (by simp) (σ' := σ) (τ' := (va_up τ.1 0 1, τ.2.1, τ.2.2)) (b := 0) ?_ ?_ rfl (Rel_code h 1)
    · simp (disch := omega) only [F_FixityTrees_scope, F_FixityTrees_requireScope, fx_bnd, fx_bndx, e_gI, e_pI, e_rz0, e_rz1, e_ret, e_pur, e_thr, e_if, e_el, s_hasn hz h30 hbad, q_lt, q_le, q_eq, q_lt0, q_0lt, q_le0, q_0le, q_eq0, q_lt1, q_1lt, q_le1, q_1le, q_eq1, q_lt2, q_2lt, q_le2, q_2le, q_eq2, q_lt3, q_3lt, q_le3, q_3le, q_eq3, q_lt4, q_4lt, q_le4, q_4le, q_eq4, q_lt6, q_6lt, q_le6, q_6le, q_eq6, q_lt10, q_10lt, q_le10, q_10le, q_eq10, q_lt30, q_30lt, q_le30, q_30le, q_eq30, q_lt40, q_40lt, q_le40, q_40le, q_eq40, q_lt41, q_41lt, q_le41, q_41le, q_eq41, q_lt200, q_200lt, q_le200, q_200le, q_eq200, q_lt400, q_400lt, q_le400, q_400le, q_eq400, q_lt600, q_600lt, q_le600, q_600le, q_eq600, q_lt800, q_800lt, q_le800, q_800le, q_eq800, q_lt900, q_900lt, q_le900, q_900le, q_eq900, q_0eq, q_1eq, q_2eq, q_3eq, q_4eq, q_neg, q_m1, q_m1l, q_s1, nI_1, q_1a, nI_add, q_mul, q_m41, q_41m, q_dn, q_dm10, q_dm11, q_dm12, q_dm13, q_dm14, q_d0m1, q_d01, q_d02, q_d03, q_d04, q_d1m1, q_d10, q_d12, q_d13, q_d14, q_d2m1, q_d20, q_d21, q_d23, q_d24, q_d3m1, q_d30, q_d31, q_d32, q_d34, q_d4m1, q_d40, q_d41, q_d42, q_d43, if_true, if_false, eq_self]
    · simp (disch := omega) only [F_Md_scope, F_Md_scope_J27, F_Md_isGood, fx_bnd, fx_bndx, e_gI, e_pI, e_rz0, e_rz1, e_ret, e_pur, e_thr, e_if, e_el, s_iscn hz' h1 h30 hbad, q_lt, q_le, q_eq, q_lt0, q_0lt, q_le0, q_0le, q_eq0, q_lt1, q_1lt, q_le1, q_1le, q_eq1, q_lt2, q_2lt, q_le2, q_2le, q_eq2, q_lt3, q_3lt, q_le3, q_3le, q_eq3, q_lt4, q_4lt, q_le4, q_4le, q_eq4, q_lt6, q_6lt, q_le6, q_6le, q_eq6, q_lt10, q_10lt, q_le10, q_10le, q_eq10, q_lt30, q_30lt, q_le30, q_30le, q_eq30, q_lt40, q_40lt, q_le40, q_40le, q_eq40, q_lt41, q_41lt, q_le41, q_41le, q_eq41, q_lt200, q_200lt, q_le200, q_200le, q_eq200, q_lt400, q_400lt, q_le400, q_400le, q_eq400, q_lt600, q_600lt, q_le600, q_600le, q_eq600, q_lt800, q_800lt, q_le800, q_800le, q_eq800, q_lt900, q_900lt, q_le900, q_900le, q_eq900, q_0eq, q_1eq, q_2eq, q_3eq, q_4eq, q_neg, q_m1, q_m1l, q_s1, nI_1, q_1a, nI_add, q_mul, q_m41, q_41m, q_dn, q_dm10, q_dm11, q_dm12, q_dm13, q_dm14, q_d0m1, q_d01, q_d02, q_d03, q_d04, q_d1m1, q_d10, q_d12, q_d13, q_d14, q_d2m1, q_d20, q_d21, q_d23, q_d24, q_d3m1, q_d30, q_d31, q_d32, q_d34, q_d4m1, q_d40, q_d41, q_d42, q_d43, if_true, if_false, eq_self]
/-! what the relation reads of a state -/
def kS (σ : fx_S) := (σ.1 18, σ.2.1 2, σ.2.1 3)
def kS' (τ : fx_S) := (τ.1 1, τ.2.1 1, τ.2.1 2, τ.2.1 3)
def kR (σ : fx_S) := (σ.1 117, σ.1 118, σ.1 119, σ.2.1 8, σ.2.1 9, σ.2.1 10, σ.2.2 11, σ.2.1 12)
def kR' (τ : fx_S) := (τ.1 5, τ.1 10, τ.1 6, τ.2.1 4, τ.2.1 5, τ.2.2 6, τ.2.1 7)
def kC (σ : fx_S) := (σ.1 7, σ.1 8, σ.1 9, σ.1 10)
def kC' (τ : fx_S) := (τ.1 22, τ.1 23, τ.1 24, τ.1 25)
def kT (σ : fx_S) := (σ.1 422, σ.1 423, σ.2.1 27, σ.2.1 28, σ.2.1 29, σ.2.1 30, σ.2.1 31, σ.2.2 32)
def kT' (τ : fx_S) := (τ.1 12, τ.1 21, τ.2.1 8, τ.2.1 9, τ.2.1 10, τ.2.1 11, τ.2.1 12, τ.2.2 14)
def kW (σ : fx_S) := (σ.1 646, σ.1 647, σ.2.1 41, σ.2.1 42, σ.2.1 43, σ.2.2 44)
def kW' (τ : fx_S) := (τ.1 39, τ.1 40, τ.2.1 23, τ.2.1 24, τ.2.1 25, τ.2.2 26)
theorem RSn_cg {σ τ σ' τ' : fx_S} {n : Nat} (h : RSn σ τ n) (e : kS σ' = kS σ) (e' : kS' τ' = kS' τ) : RSn σ' τ' n := by
  simp only [kS, kS', Prod.mk.injEq] at e e'
  obtain ⟨a1, a2, a3⟩ := e
  obtain ⟨b1, b2, b3, b4⟩ := e'
  unfold RSn at h ⊢
  rw [a1, a2, a3, b1, b2, b3, b4]; exact h
theorem RS_cg {σ τ σ' τ' : fx_S} (h : RS σ τ) (e : kS σ' = kS σ) (e' : kS' τ' = kS' τ) : RS σ' τ' := let ⟨n, g⟩ := h; ⟨n, RSn_cg g e e'⟩
theorem RR_cg {σ τ σ' τ' : fx_S} (h : RR σ τ) (e : kR σ' = kR σ) (e' : kR' τ' = kR' τ) : RR σ' τ' := by
  simp only [kR, kR', Prod.mk.injEq] at e e'
  obtain ⟨a1, a2, a3, a4, a5, a6, a7, a8⟩ := e
  obtain ⟨b1, b2, b3, b4, b5, b6, b7⟩ := e'
  unfold RR at h ⊢
  rw [a1, a2, a3, a4, a5, a6, a7, a8, b1, b2, b3, b4, b5, b6, b7]; exact h
theorem RC_cg {σ τ σ' τ' : fx_S} (h : RC σ τ) (e : kC σ' = kC σ) (e' : kC' τ' = kC' τ) : RC σ' τ' := by
  simp only [kC, kC', Prod.mk.injEq] at e e'
  obtain ⟨a1, a2, a3, a4⟩ := e
  obtain ⟨b1, b2, b3, b4⟩ := e'
  unfold RC at h ⊢
  rw [a1, a2, a3, a4, b1, b2, b3, b4]; exact h
theorem RT_cg {σ τ σ' τ' : fx_S} (h : RT σ τ) (e : kT σ' = kT σ) (e' : kT' τ' = kT' τ) : RT σ' τ' := by
  simp only [kT, kT', Prod.mk.injEq] at e e'
  obtain ⟨a1, a2, a3, a4, a5, a6, a7, a8⟩ := e
  obtain ⟨b1, b2, b3, b4, b5, b6, b7, b8⟩ := e'
  unfold RT RTn at h ⊢
  rw [a1, a2, a3, a4, a5, a6, a7, a8, b1, b2, b3, b4, b5, b6, b7, b8]; exact h
theorem RW_cg {σ τ σ' τ' : fx_S} (h : RW σ τ) (e : kW σ' = kW σ) (e' : kW' τ' = kW' τ) : RW σ' τ' := by
  simp only [kW, kW', Prod.mk.injEq] at e e'
  obtain ⟨a1, a2, a3, a4, a5, a6⟩ := e
  obtain ⟨b1, b2, b3, b4, b5, b6⟩ := e'
  unfold RW RWn at h ⊢
  rw [a1, a2, a3, a4, a5, a6, b1, b2, b3, b4, b5, b6]; exact h
/-- only the reference's code changes -/
theorem op_thr0 {α β : Type} {hs : List (Nat × Int32)} {FC : fx_M (α ⊕ Nat)} {FR : fx_M β} {cmp : α → β → Prop} {σ τ : fx_S} (h : Rel σ τ) {b : β} (e : Nat) (k : Int32) (hm : (e, k) ∈ hs) (h1 : FC σ = some (.inr e, σ)) (h2 : FR τ = some (b, (va_up τ.1 0 k, τ.2.1, τ.2.2))) : lw_op Rel hs FC FR cmp σ τ := op_thr e k hm h1 h2 rfl (Rel_code h k)
theorem op_ret0 {α β : Type} {hs : List (Nat × Int32)} {FC : fx_M (α ⊕ Nat)} {FR : fx_M β} {cmp : α → β → Prop} {σ τ : fx_S} (h : Rel σ τ) {r : α} {b : β} (h1 : FC σ = some (.inl r, σ)) (h2 : FR τ = some (b, (va_up τ.1 0 0, τ.2.1, τ.2.2))) (h4 : cmp r b) : lw_op Rel hs FC FR cmp σ τ := op_ret h1 h2 rfl h4 (Rel_code h 0)
theorem m_good {k : Int32} (hk : ¬ k = 0) (τ : fx_S) : F_Md_isGood k τ = some (0, (va_up τ.1 0 k, τ.2.1, τ.2.2)) := by
  rw [F_Md_isGood, e_bnd (e_pI _ _ _), e_el hk]; rfl
theorem m_good0 (τ : fx_S) : F_Md_isGood 0 τ = some (1, (va_up τ.1 0 0, τ.2.1, τ.2.2)) := by
  rw [F_Md_isGood, e_bnd (e_pI _ _ _), e_if rfl]; rfl
theorem m_in {a b j : Nat} (h1 : a ≤ j) (h2 : j ≤ b) (hb : b < 2 ^ 31) (τ : fx_S) : F_Md_isIn (nI j) (nI a) (nI b) τ = some (1, τ) := by
  rw [F_Md_isIn, e_el (by rw [q_lt (by omega) (by omega)]; omega), e_el (by rw [q_lt (by omega) (by omega)]; omega)]; rfl
theorem m_inn {n : Nat} {v : Int32} (hn : n < 2 ^ 31) (hv : v < 0 ∨ ∃ j, n + 1 ≤ j ∧ j < 2 ^ 31 ∧ v = nI j) (τ : fx_S) : F_Md_isIn v 0 (nI n) τ = some (0, τ) := by
  rcases hv with hv | ⟨j, h1, h2, rfl⟩
  · rw [F_Md_isIn, e_if hv]; rfl
  · rw [F_Md_isIn, e_el (q_neg h2), e_if (by rw [q_lt (by omega) (by omega)]; omega)]; rfl
theorem m_in2 {j : Nat} (h : j < 3) (τ : fx_S) : F_Md_isIn (nI j) 0 2 τ = some (1, τ) := m_in (a := 0) (b := 2) (by omega) (by omega) (by omega) τ
theorem m_inn2 {v : Int32} (hv : v < 0 ∨ ∃ j, 3 ≤ j ∧ j < 2 ^ 31 ∧ v = nI j) (τ : fx_S) : F_Md_isIn v 0 2 τ = some (0, τ) := m_inn (n := 2) (by omega) hv τ
theorem m_in4 {j : Nat} (h : j < 5) (τ : fx_S) : F_Md_isIn (nI j) 0 4 τ = some (1, τ) := m_in (a := 0) (b := 4) (by omega) (by omega) (by omega) τ
theorem m_inn4 {v : Int32} (hv : v < 0 ∨ ∃ j, 5 ≤ j ∧ j < 2 ^ 31 ∧ v = nI j) (τ : fx_S) : F_Md_isIn v 0 4 τ = some (0, τ) := m_inn (n := 4) (by omega) hv τ
theorem m_in6 {j : Nat} (h : j < 7) (τ : fx_S) : F_Md_isIn (nI j) 0 6 τ = some (1, τ) := m_in (a := 0) (b := 6) (by omega) (by omega) (by omega) τ
theorem m_inn6 {v : Int32} (hv : v < 0 ∨ ∃ j, 7 ≤ j ∧ j < 2 ^ 31 ∧ v = nI j) (τ : fx_S) : F_Md_isIn v 0 6 τ = some (0, τ) := m_inn (n := 6) (by omega) hv τ
theorem m_in9 {j : Nat} (h : j < 10) (τ : fx_S) : F_Md_isIn (nI j) 0 9 τ = some (1, τ) := m_in (a := 0) (b := 9) (by omega) (by omega) (by omega) τ
theorem m_inn9 {v : Int32} (hv : v < 0 ∨ ∃ j, 10 ≤ j ∧ j < 2 ^ 31 ∧ v = nI j) (τ : fx_S) : F_Md_isIn v 0 9 τ = some (0, τ) := m_inn (n := 9) (by omega) hv τ
theorem m_fx77 {k : Int32} (hk : ¬ k = 0) (a b c d : Int32) (τ : fx_S) : F_Md_fixity_J77 a b c d k τ = some ((), (va_up τ.1 0 k, τ.2.1, τ.2.2)) := by
  rw [F_Md_fixity_J77, e_bnd (m_good hk τ), e_if rfl]; rfl
theorem m_fx49 {k : Int32} (hk : ¬ k = 0) (a b c d : Int32) (τ : fx_S) : F_Md_fixity_J49 a b c d k τ = some ((), (va_up τ.1 0 k, τ.2.1, τ.2.2)) := by
  rw [F_Md_fixity_J49, e_el hk, m_fx77 hk]
theorem o_fixity {σ τ : fx_S} (h : Rel σ τ) (a0 a1 a2 a3 : Int32) : lw_op Rel [(0, 1), (1, 2), (2, 3)] (F_FixityTrees_fixity a0 a1 a2 a3) (F_Md_fixity a0 a1 a2 a3) (fun _ _ => True) σ τ := by
  obtain ⟨⟨n, HS⟩, HR, HC, HT, HW⟩ := id h
  obtain ⟨h1, h30, hz, hz', hou, hco, hnew⟩ := id HS
  rcases q_idx a0 n with ⟨s, hs, -, rfl⟩ | hbad
  · rcases q_idx a1 41 with ⟨o, ho, -, rfl⟩ | hbad
    · by_cases h0 : o = 0
      · subst h0
        refine op_thr0 h (b := ()) 1 2 (by simp) ?_ ?_
        · simp (disch := omega) only [F_FixityTrees_fixity, F_FixityTrees_requireScope, F_FixityTrees_requireOperator, fx_bnd, fx_bndx, e_gI, e_pI, e_rz0, e_rz1, e_ret, e_pur, e_thr, e_if, e_el, s_has hz h30 hs, s_op ho, q_lt, q_le, q_eq, q_lt0, q_0lt, q_le0, q_0le, q_eq0, q_lt1, q_1lt, q_le1, q_1le, q_eq1, q_lt2, q_2lt, q_le2, q_2le, q_eq2, q_lt3, q_3lt, q_le3, q_3le, q_eq3, q_lt4, q_4lt, q_le4, q_4le, q_eq4, q_lt6, q_6lt, q_le6, q_6le, q_eq6, q_lt10, q_10lt, q_le10, q_10le, q_eq10, q_lt30, q_30lt, q_le30, q_30le, q_eq30, q_lt40, q_40lt, q_le40, q_40le, q_eq40, q_lt41, q_41lt, q_le41, q_41le, q_eq41, q_lt200, q_200lt, q_le200, q_200le, q_eq200, q_lt400, q_400lt, q_le400, q_400le, q_eq400, q_lt600, q_600lt, q_le600, q_600le, q_eq600, q_lt800, q_800lt, q_le800, q_800le, q_eq800, q_lt900, q_900lt, q_le900, q_900le, q_eq900, q_0eq, q_1eq, q_2eq, q_3eq, q_4eq, q_neg, q_m1, q_m1l, q_s1, nI_1, q_1a, nI_add, q_mul, q_m41, q_41m, q_dn, q_dm10, q_dm11, q_dm12, q_dm13, q_dm14, q_d0m1, q_d01, q_d02, q_d03, q_d04, q_d1m1, q_d10, q_d12, q_d13, q_d14, q_d2m1, q_d20, q_d21, q_d23, q_d24, q_d3m1, q_d30, q_d31, q_d32, q_d34, q_d4m1, q_d40, q_d41, q_d42, q_d43, if_true, if_false, eq_self]
        · rw [F_Md_fixity, e_bnd (s_isc hz' h30 hs), e_el (by decide), e_bnd (s_iop ho), e_el (by decide), F_Md_fixity_J20, e_if rfl, e_if (show nI 0 = 0 from rfl), F_Md_fixity_J46, m_fx49 (by decide)]
      · rcases hco s o hs ho with ⟨hc0, hs0⟩ | ⟨d, k, hd, hk, hcc, hss, hrr⟩
        · have ec : F_Scopes_tells (nI s) (nI o) σ = some (0, σ) := by
            simp (disch := omega) only [F_Scopes_tells, fx_bnd, fx_bndx, e_gI, e_pI, e_rz0, e_rz1, e_ret, e_pur, e_thr, e_if, e_el, s_code hz h30 hs ho, hc0, q_lt, q_le, q_eq, q_lt0, q_0lt, q_le0, q_0le, q_eq0, q_lt1, q_1lt, q_le1, q_1le, q_eq1, q_lt2, q_2lt, q_le2, q_2le, q_eq2, q_lt3, q_3lt, q_le3, q_3le, q_eq3, q_lt4, q_4lt, q_le4, q_4le, q_eq4, q_lt6, q_6lt, q_le6, q_6le, q_eq6, q_lt10, q_10lt, q_le10, q_10le, q_eq10, q_lt30, q_30lt, q_le30, q_30le, q_eq30, q_lt40, q_40lt, q_le40, q_40le, q_eq40, q_lt41, q_41lt, q_le41, q_41le, q_eq41, q_lt200, q_200lt, q_le200, q_200le, q_eq200, q_lt400, q_400lt, q_le400, q_400le, q_eq400, q_lt600, q_600lt, q_le600, q_600le, q_eq600, q_lt800, q_800lt, q_le800, q_800le, q_eq800, q_lt900, q_900lt, q_le900, q_900le, q_eq900, q_0eq, q_1eq, q_2eq, q_3eq, q_4eq, q_neg, q_m1, q_m1l, q_s1, nI_1, q_1a, nI_add, q_mul, q_m41, q_41m, q_dn, q_dm10, q_dm11, q_dm12, q_dm13, q_dm14, q_d0m1, q_d01, q_d02, q_d03, q_d04, q_d1m1, q_d10, q_d12, q_d13, q_d14, q_d2m1, q_d20, q_d21, q_d23, q_d24, q_d3m1, q_d30, q_d31, q_d32, q_d34, q_d4m1, q_d40, q_d41, q_d42, q_d43, if_true, if_false, eq_self]
          have mR : ∀ x y : Int32, F_Md_fixity (nI s) (nI o) x y τ = F_Md_fixity_J49 (nI s) (nI o) x y 0 τ := by
            intro x y
            rw [F_Md_fixity, e_bnd (s_isc hz' h30 hs), e_el (by decide), e_bnd (s_iop ho), e_el (by decide), F_Md_fixity_J20, e_if rfl, e_el (nI_ne0 (by omega) (by omega)), q_41m, nI_add, e_bnd (e_lA (by omega) (by omega)), e_if hs0]
          have main : (∃ d, d < 3 ∧ a2 = nI d) ∧ (∃ k, k < 10 ∧ a3 = nI k) ∨ (F_FixityTrees_fixity (nI s) (nI o) a2 a3 σ = some (.inr 2, σ) ∧ F_Md_fixity (nI s) (nI o) a2 a3 τ = some ((), (va_up τ.1 0 3, τ.2.1, τ.2.2))) := by
            rcases q_idx a2 3 with ⟨d, hd, -, rfl⟩ | hb2
            · rcases q_idx a3 10 with ⟨k, hk, -, rfl⟩ | hb3
              · exact Or.inl ⟨⟨d, hd, rfl⟩, k, hk, rfl⟩
              · refine Or.inr ⟨?_, ?_⟩
                · rcases hb3 with hb3 | ⟨k, g1, g2, rfl⟩
                  · simp (disch := omega) only [F_FixityTrees_fixity, F_FixityTrees_requireScope, F_FixityTrees_requireOperator, fx_bnd, fx_bndx, e_gI, e_pI, e_rz0, e_rz1, e_ret, e_pur, e_thr, e_if, e_el, s_has hz h30 hs, s_op ho, ec, q_lt, q_le, q_eq, q_lt0, q_0lt, q_le0, q_0le, q_eq0, q_lt1, q_1lt, q_le1, q_1le, q_eq1, q_lt2, q_2lt, q_le2, q_2le, q_eq2, q_lt3, q_3lt, q_le3, q_3le, q_eq3, q_lt4, q_4lt, q_le4, q_4le, q_eq4, q_lt6, q_6lt, q_le6, q_6le, q_eq6, q_lt10, q_10lt, q_le10, q_10le, q_eq10, q_lt30, q_30lt, q_le30, q_30le, q_eq30, q_lt40, q_40lt, q_le40, q_40le, q_eq40, q_lt41, q_41lt, q_le41, q_41le, q_eq41, q_lt200, q_200lt, q_le200, q_200le, q_eq200, q_lt400, q_400lt, q_le400, q_400le, q_eq400, q_lt600, q_600lt, q_le600, q_600le, q_eq600, q_lt800, q_800lt, q_le800, q_800le, q_eq800, q_lt900, q_900lt, q_le900, q_900le, q_eq900, q_0eq, q_1eq, q_2eq, q_3eq, q_4eq, q_neg, q_m1, q_m1l, q_s1, nI_1, q_1a, nI_add, q_mul, q_m41, q_41m, q_dn, q_dm10, q_dm11, q_dm12, q_dm13, q_dm14, q_d0m1, q_d01, q_d02, q_d03, q_d04, q_d1m1, q_d10, q_d12, q_d13, q_d14, q_d2m1, q_d20, q_d21, q_d23, q_d24, q_d3m1, q_d30, q_d31, q_d32, q_d34, q_d4m1, q_d40, q_d41, q_d42, q_d43, if_true, if_false, eq_self, if_pos hb3]
                  · simp (disch := omega) only [F_FixityTrees_fixity, F_FixityTrees_requireScope, F_FixityTrees_requireOperator, fx_bnd, fx_bndx, e_gI, e_pI, e_rz0, e_rz1, e_ret, e_pur, e_thr, e_if, e_el, s_has hz h30 hs, s_op ho, ec, q_lt, q_le, q_eq, q_lt0, q_0lt, q_le0, q_0le, q_eq0, q_lt1, q_1lt, q_le1, q_1le, q_eq1, q_lt2, q_2lt, q_le2, q_2le, q_eq2, q_lt3, q_3lt, q_le3, q_3le, q_eq3, q_lt4, q_4lt, q_le4, q_4le, q_eq4, q_lt6, q_6lt, q_le6, q_6le, q_eq6, q_lt10, q_10lt, q_le10, q_10le, q_eq10, q_lt30, q_30lt, q_le30, q_30le, q_eq30, q_lt40, q_40lt, q_le40, q_40le, q_eq40, q_lt41, q_41lt, q_le41, q_41le, q_eq41, q_lt200, q_200lt, q_le200, q_200le, q_eq200, q_lt400, q_400lt, q_le400, q_400le, q_eq400, q_lt600, q_600lt, q_le600, q_600le, q_eq600, q_lt800, q_800lt, q_le800, q_800le, q_eq800, q_lt900, q_900lt, q_le900, q_900le, q_eq900, q_0eq, q_1eq, q_2eq, q_3eq, q_4eq, q_neg, q_m1, q_m1l, q_s1, nI_1, q_1a, nI_add, q_mul, q_m41, q_41m, q_dn, q_dm10, q_dm11, q_dm12, q_dm13, q_dm14, q_d0m1, q_d01, q_d02, q_d03, q_d04, q_d1m1, q_d10, q_d12, q_d13, q_d14, q_d2m1, q_d20, q_d21, q_d23, q_d24, q_d3m1, q_d30, q_d31, q_d32, q_d34, q_d4m1, q_d40, q_d41, q_d42, q_d43, if_true, if_false, eq_self]
                · rw [mR, F_Md_fixity_J49, e_if rfl, e_bnd (m_in2 hd τ), e_el (by decide), e_bnd (m_inn9 hb3 τ), e_if rfl, F_Md_fixity_J74, m_fx77 (by decide)]
            · refine Or.inr ⟨?_, ?_⟩
              · rcases hb2 with hb2 | ⟨k, g1, g2, rfl⟩
                · simp (disch := omega) only [F_FixityTrees_fixity, F_FixityTrees_requireScope, F_FixityTrees_requireOperator, fx_bnd, fx_bndx, e_gI, e_pI, e_rz0, e_rz1, e_ret, e_pur, e_thr, e_if, e_el, s_has hz h30 hs, s_op ho, ec, q_lt, q_le, q_eq, q_lt0, q_0lt, q_le0, q_0le, q_eq0, q_lt1, q_1lt, q_le1, q_1le, q_eq1, q_lt2, q_2lt, q_le2, q_2le, q_eq2, q_lt3, q_3lt, q_le3, q_3le, q_eq3, q_lt4, q_4lt, q_le4, q_4le, q_eq4, q_lt6, q_6lt, q_le6, q_6le, q_eq6, q_lt10, q_10lt, q_le10, q_10le, q_eq10, q_lt30, q_30lt, q_le30, q_30le, q_eq30, q_lt40, q_40lt, q_le40, q_40le, q_eq40, q_lt41, q_41lt, q_le41, q_41le, q_eq41, q_lt200, q_200lt, q_le200, q_200le, q_eq200, q_lt400, q_400lt, q_le400, q_400le, q_eq400, q_lt600, q_600lt, q_le600, q_600le, q_eq600, q_lt800, q_800lt, q_le800, q_800le, q_eq800, q_lt900, q_900lt, q_le900, q_900le, q_eq900, q_0eq, q_1eq, q_2eq, q_3eq, q_4eq, q_neg, q_m1, q_m1l, q_s1, nI_1, q_1a, nI_add, q_mul, q_m41, q_41m, q_dn, q_dm10, q_dm11, q_dm12, q_dm13, q_dm14, q_d0m1, q_d01, q_d02, q_d03, q_d04, q_d1m1, q_d10, q_d12, q_d13, q_d14, q_d2m1, q_d20, q_d21, q_d23, q_d24, q_d3m1, q_d30, q_d31, q_d32, q_d34, q_d4m1, q_d40, q_d41, q_d42, q_d43, if_true, if_false, eq_self, if_pos hb2]
                · simp (disch := omega) only [F_FixityTrees_fixity, F_FixityTrees_requireScope, F_FixityTrees_requireOperator, fx_bnd, fx_bndx, e_gI, e_pI, e_rz0, e_rz1, e_ret, e_pur, e_thr, e_if, e_el, s_has hz h30 hs, s_op ho, ec, q_lt, q_le, q_eq, q_lt0, q_0lt, q_le0, q_0le, q_eq0, q_lt1, q_1lt, q_le1, q_1le, q_eq1, q_lt2, q_2lt, q_le2, q_2le, q_eq2, q_lt3, q_3lt, q_le3, q_3le, q_eq3, q_lt4, q_4lt, q_le4, q_4le, q_eq4, q_lt6, q_6lt, q_le6, q_6le, q_eq6, q_lt10, q_10lt, q_le10, q_10le, q_eq10, q_lt30, q_30lt, q_le30, q_30le, q_eq30, q_lt40, q_40lt, q_le40, q_40le, q_eq40, q_lt41, q_41lt, q_le41, q_41le, q_eq41, q_lt200, q_200lt, q_le200, q_200le, q_eq200, q_lt400, q_400lt, q_le400, q_400le, q_eq400, q_lt600, q_600lt, q_le600, q_600le, q_eq600, q_lt800, q_800lt, q_le800, q_800le, q_eq800, q_lt900, q_900lt, q_le900, q_900le, q_eq900, q_0eq, q_1eq, q_2eq, q_3eq, q_4eq, q_neg, q_m1, q_m1l, q_s1, nI_1, q_1a, nI_add, q_mul, q_m41, q_41m, q_dn, q_dm10, q_dm11, q_dm12, q_dm13, q_dm14, q_d0m1, q_d01, q_d02, q_d03, q_d04, q_d1m1, q_d10, q_d12, q_d13, q_d14, q_d2m1, q_d20, q_d21, q_d23, q_d24, q_d3m1, q_d30, q_d31, q_d32, q_d34, q_d4m1, q_d40, q_d41, q_d42, q_d43, if_true, if_false, eq_self]
              · rw [mR, F_Md_fixity_J49, e_if rfl, e_bnd (m_inn2 hb2 τ), e_if rfl, F_Md_fixity_J74, m_fx77 (by decide)]
          rcases main with ⟨⟨d, hd, rfl⟩, k, hk, rfl⟩ | ⟨m1, m2⟩
          · have e9 : s * 41 + o = 41 * s + o := by omega
            have e8 : (nI d * 10 + nI k) + 1 = nI (d * 10 + k + 1) := by
              rw [show (10 : Int32) = nI 10 from rfl, q_mul, nI_add, nI_1]
            refine op_ret (r := ()) (b := ()) (σ' := (σ.1, va_up σ.2.1 3 (upd (σ.2.1 3) (41 * s + o) (nI (d * 10 + k + 1))), σ.2.2)) (τ' := (va_up τ.1 0 0, va_up (va_up τ.2.1 2 (upd (τ.2.1 2) (41 * s + o) (nI d))) 3 (upd (τ.2.1 3) (41 * s + o) (nI k)), τ.2.2)) ?_ ?_ rfl trivial ?_
            · simp (disch := omega) only [F_FixityTrees_fixity, F_FixityTrees_requireScope, F_FixityTrees_requireOperator, F_Scopes_tell, fx_bnd, fx_bndx, e_gI, e_pI, e_rz0, e_rz1, e_ret, e_pur, e_thr, e_if, e_el, s_has hz h30 hs, s_op ho, ec, e8, q_lt, q_le, q_eq, q_lt0, q_0lt, q_le0, q_0le, q_eq0, q_lt1, q_1lt, q_le1, q_1le, q_eq1, q_lt2, q_2lt, q_le2, q_2le, q_eq2, q_lt3, q_3lt, q_le3, q_3le, q_eq3, q_lt4, q_4lt, q_le4, q_4le, q_eq4, q_lt6, q_6lt, q_le6, q_6le, q_eq6, q_lt10, q_10lt, q_le10, q_10le, q_eq10, q_lt30, q_30lt, q_le30, q_30le, q_eq30, q_lt40, q_40lt, q_le40, q_40le, q_eq40, q_lt41, q_41lt, q_le41, q_41le, q_eq41, q_lt200, q_200lt, q_le200, q_200le, q_eq200, q_lt400, q_400lt, q_le400, q_400le, q_eq400, q_lt600, q_600lt, q_le600, q_600le, q_eq600, q_lt800, q_800lt, q_le800, q_800le, q_eq800, q_lt900, q_900lt, q_le900, q_900le, q_eq900, q_0eq, q_1eq, q_2eq, q_3eq, q_4eq, q_neg, q_m1, q_m1l, q_s1, nI_1, q_1a, nI_add, q_mul, q_m41, q_41m, q_dn, q_dm10, q_dm11, q_dm12, q_dm13, q_dm14, q_d0m1, q_d01, q_d02, q_d03, q_d04, q_d1m1, q_d10, q_d12, q_d13, q_d14, q_d2m1, q_d20, q_d21, q_d23, q_d24, q_d3m1, q_d30, q_d31, q_d32, q_d34, q_d4m1, q_d40, q_d41, q_d42, q_d43, if_true, if_false, eq_self, e9, e_sA]
            · rw [mR, F_Md_fixity_J49, e_if rfl, e_bnd (m_in2 hd τ), e_el (by decide), e_bnd (m_in9 hk τ), e_el (by decide), F_Md_fixity_J77, e_bnd (m_good0 τ), e_el (by decide), q_41m, nI_add, e_bnd (e_sA (by omega) (by omega)), e_bnd (e_sA (by omega) (by omega))]
              rfl
            · refine ⟨⟨n, h1, h30, hz, hz', hou, ?_, ?_⟩, HR, HC, HT, HW⟩
              · intro k' o' hk' ho'
                show scd (upd (σ.2.1 3) (41 * s + o) (nI (d * 10 + k + 1)) (41 * k' + o')) (upd (τ.2.1 2) (41 * s + o) (nI d) (41 * k' + o')) (upd (τ.2.1 3) (41 * s + o) (nI k) (41 * k' + o'))
                by_cases e : 41 * k' + o' = 41 * s + o
                · rw [e, q_us, q_us, q_us]
                  exact Or.inr ⟨d, k, hd, hk, rfl, rfl, rfl⟩
                · rw [q_un _ _ e, q_un _ _ e, q_un _ _ e]
                  exact hco k' o' hk' ho'
              · intro k' o' hk' hk2 ho'
                show upd (σ.2.1 3) (41 * s + o) (nI (d * 10 + k + 1)) (41 * k' + o') = 0
                rw [q_un _ _ (by omega)]
                exact hnew k' o' hk' hk2 ho'
          · exact op_thr0 h (b := ()) 2 3 (by simp) m1 m2
        · have hn0 : ¬ σ.2.1 3 (41 * s + o) = 0 := by
            rw [hcc]; exact nI_ne0 (by omega) (by omega)
          refine op_thr0 h (b := ()) 1 2 (by simp) ?_ ?_
          · simp (disch := omega) only [F_FixityTrees_fixity, F_FixityTrees_requireScope, F_FixityTrees_requireOperator, F_Scopes_tells, fx_bnd, fx_bndx, e_gI, e_pI, e_rz0, e_rz1, e_ret, e_pur, e_thr, e_if, e_el, s_has hz h30 hs, s_op ho, s_code hz h30 hs ho, hn0, q_lt, q_le, q_eq, q_lt0, q_0lt, q_le0, q_0le, q_eq0, q_lt1, q_1lt, q_le1, q_1le, q_eq1, q_lt2, q_2lt, q_le2, q_2le, q_eq2, q_lt3, q_3lt, q_le3, q_3le, q_eq3, q_lt4, q_4lt, q_le4, q_4le, q_eq4, q_lt6, q_6lt, q_le6, q_6le, q_eq6, q_lt10, q_10lt, q_le10, q_10le, q_eq10, q_lt30, q_30lt, q_le30, q_30le, q_eq30, q_lt40, q_40lt, q_le40, q_40le, q_eq40, q_lt41, q_41lt, q_le41, q_41le, q_eq41, q_lt200, q_200lt, q_le200, q_200le, q_eq200, q_lt400, q_400lt, q_le400, q_400le, q_eq400, q_lt600, q_600lt, q_le600, q_600le, q_eq600, q_lt800, q_800lt, q_le800, q_800le, q_eq800, q_lt900, q_900lt, q_le900, q_900le, q_eq900, q_0eq, q_1eq, q_2eq, q_3eq, q_4eq, q_neg, q_m1, q_m1l, q_s1, nI_1, q_1a, nI_add, q_mul, q_m41, q_41m, q_dn, q_dm10, q_dm11, q_dm12, q_dm13, q_dm14, q_d0m1, q_d01, q_d02, q_d03, q_d04, q_d1m1, q_d10, q_d12, q_d13, q_d14, q_d2m1, q_d20, q_d21, q_d23, q_d24, q_d3m1, q_d30, q_d31, q_d32, q_d34, q_d4m1, q_d40, q_d41, q_d42, q_d43, if_true, if_false, eq_self]
          · rw [F_Md_fixity, e_bnd (s_isc hz' h30 hs), e_el (by decide), e_bnd (s_iop ho), e_el (by decide), F_Md_fixity_J20, e_if rfl, e_el (nI_ne0 (by omega) (by omega)), q_41m, nI_add, e_bnd (e_lA (by omega) (by omega)), e_el (by rw [hss]; exact q_m1 (by omega)), F_Md_fixity_J46, m_fx49 (by decide)]
    · refine op_thr0 h (b := ()) 0 1 (by simp) ?_ ?_
      · simp (disch := omega) only [F_FixityTrees_fixity, F_FixityTrees_requireScope, F_FixityTrees_requireOperator, fx_bnd, fx_bndx, e_gI, e_pI, e_rz0, e_rz1, e_ret, e_pur, e_thr, e_if, e_el, s_has hz h30 hs, s_opn hbad, q_lt, q_le, q_eq, q_lt0, q_0lt, q_le0, q_0le, q_eq0, q_lt1, q_1lt, q_le1, q_1le, q_eq1, q_lt2, q_2lt, q_le2, q_2le, q_eq2, q_lt3, q_3lt, q_le3, q_3le, q_eq3, q_lt4, q_4lt, q_le4, q_4le, q_eq4, q_lt6, q_6lt, q_le6, q_6le, q_eq6, q_lt10, q_10lt, q_le10, q_10le, q_eq10, q_lt30, q_30lt, q_le30, q_30le, q_eq30, q_lt40, q_40lt, q_le40, q_40le, q_eq40, q_lt41, q_41lt, q_le41, q_41le, q_eq41, q_lt200, q_200lt, q_le200, q_200le, q_eq200, q_lt400, q_400lt, q_le400, q_400le, q_eq400, q_lt600, q_600lt, q_le600, q_600le, q_eq600, q_lt800, q_800lt, q_le800, q_800le, q_eq800, q_lt900, q_900lt, q_le900, q_900le, q_eq900, q_0eq, q_1eq, q_2eq, q_3eq, q_4eq, q_neg, q_m1, q_m1l, q_s1, nI_1, q_1a, nI_add, q_mul, q_m41, q_41m, q_dn, q_dm10, q_dm11, q_dm12, q_dm13, q_dm14, q_d0m1, q_d01, q_d02, q_d03, q_d04, q_d1m1, q_d10, q_d12, q_d13, q_d14, q_d2m1, q_d20, q_d21, q_d23, q_d24, q_d3m1, q_d30, q_d31, q_d32, q_d34, q_d4m1, q_d40, q_d41, q_d42, q_d43, if_true, if_false, eq_self]
      · rw [F_Md_fixity, e_bnd (s_isc hz' h30 hs), e_el (by decide), e_bnd (s_iopn hbad), e_if rfl, F_Md_fixity_J15, F_Md_fixity_J20, e_el (by decide), m_fx49 (by decide)]
  · refine op_thr0 h (b := ()) 0 1 (by simp) ?_ ?_
    · simp (disch := omega) only [F_FixityTrees_fixity, F_FixityTrees_requireScope, F_FixityTrees_requireOperator, fx_bnd, fx_bndx, e_gI, e_pI, e_rz0, e_rz1, e_ret, e_pur, e_thr, e_if, e_el, s_hasn hz h30 hbad, q_lt, q_le, q_eq, q_lt0, q_0lt, q_le0, q_0le, q_eq0, q_lt1, q_1lt, q_le1, q_1le, q_eq1, q_lt2, q_2lt, q_le2, q_2le, q_eq2, q_lt3, q_3lt, q_le3, q_3le, q_eq3, q_lt4, q_4lt, q_le4, q_4le, q_eq4, q_lt6, q_6lt, q_le6, q_6le, q_eq6, q_lt10, q_10lt, q_le10, q_10le, q_eq10, q_lt30, q_30lt, q_le30, q_30le, q_eq30, q_lt40, q_40lt, q_le40, q_40le, q_eq40, q_lt41, q_41lt, q_le41, q_41le, q_eq41, q_lt200, q_200lt, q_le200, q_200le, q_eq200, q_lt400, q_400lt, q_le400, q_400le, q_eq400, q_lt600, q_600lt, q_le600, q_600le, q_eq600, q_lt800, q_800lt, q_le800, q_800le, q_eq800, q_lt900, q_900lt, q_le900, q_900le, q_eq900, q_0eq, q_1eq, q_2eq, q_3eq, q_4eq, q_neg, q_m1, q_m1l, q_s1, nI_1, q_1a, nI_add, q_mul, q_m41, q_41m, q_dn, q_dm10, q_dm11, q_dm12, q_dm13, q_dm14, q_d0m1, q_d01, q_d02, q_d03, q_d04, q_d1m1, q_d10, q_d12, q_d13, q_d14, q_d2m1, q_d20, q_d21, q_d23, q_d24, q_d3m1, q_d30, q_d31, q_d32, q_d34, q_d4m1, q_d40, q_d41, q_d42, q_d43, if_true, if_false, eq_self]
    · rw [F_Md_fixity, e_bnd (s_iscn hz' h1 h30 hbad), e_if rfl, F_Md_fixity_J15, F_Md_fixity_J20, e_el (by decide), m_fx49 (by decide)]
theorem o_looked {σ τ : fx_S} (h : Rel σ τ) (a0 a1 a2 : Int32) : lw_op Rel [(0, 1), (2, 2)] (F_FixityTrees_looked a0 a1 a2) (F_Md_looked a0 a1 a2) (fun r b => r = b) σ τ := by
  obtain ⟨⟨n, HS⟩, HR, HC, HT, HW⟩ := id h
  obtain ⟨h1, h30, hz, hz', hou, hco, hnew⟩ := id HS
  rcases q_idx a0 n with ⟨s, hs, -, rfl⟩ | hbad
  · rcases q_idx a1 41 with ⟨o, ho, -, rfl⟩ | hbad
    · obtain ⟨t, d, k, hd, hk, -, l1, l2, l3, l4, l5, l6⟩ := s_look HS hs ho
      have HS0 : RSn σ (va_up τ.1 0 0, τ.2.1, τ.2.2) n := HS
      obtain ⟨t', d', k', hd', hk', -, m1, m2, m3, m4, m5, m6⟩ := s_look HS0 hs ho
      cases Option.some.inj (l1.symm.trans m1)
      have ed := Option.some.inj (l3.symm.trans m3)
      have ek := Option.some.inj (l5.symm.trans m5)
      simp only [Prod.mk.injEq, and_true] at ed ek
      rcases q_idx a2 3 with ⟨w, hw, -, rfl⟩ | hb
      · rcases (show w = 0 ∨ w = 1 ∨ w = 2 by omega) with rfl | rfl | rfl
        · refine op_ret0 h (r := nI d) (b := nI d) ?_ ?_ rfl
          · simp (disch := omega) only [F_FixityTrees_looked, F_FixityTrees_requireScope, F_FixityTrees_requireOperator, fx_bnd, fx_bndx, e_gI, e_pI, e_rz0, e_rz1, e_ret, e_pur, e_thr, e_if, e_el, s_has hz h30 hs, s_op ho, q_lt, q_le, q_eq, q_lt0, q_0lt, q_le0, q_0le, q_eq0, q_lt1, q_1lt, q_le1, q_1le, q_eq1, q_lt2, q_2lt, q_le2, q_2le, q_eq2, q_lt3, q_3lt, q_le3, q_3le, q_eq3, q_lt4, q_4lt, q_le4, q_4le, q_eq4, q_lt6, q_6lt, q_le6, q_6le, q_eq6, q_lt10, q_10lt, q_le10, q_10le, q_eq10, q_lt30, q_30lt, q_le30, q_30le, q_eq30, q_lt40, q_40lt, q_le40, q_40le, q_eq40, q_lt41, q_41lt, q_le41, q_41le, q_eq41, q_lt200, q_200lt, q_le200, q_200le, q_eq200, q_lt400, q_400lt, q_le400, q_400le, q_eq400, q_lt600, q_600lt, q_le600, q_600le, q_eq600, q_lt800, q_800lt, q_le800, q_800le, q_eq800, q_lt900, q_900lt, q_le900, q_900le, q_eq900, q_0eq, q_1eq, q_2eq, q_3eq, q_4eq, q_neg, q_m1, q_m1l, q_s1, nI_1, q_1a, nI_add, q_mul, q_m41, q_41m, q_dn, q_dm10, q_dm11, q_dm12, q_dm13, q_dm14, q_d0m1, q_d01, q_d02, q_d03, q_d04, q_d1m1, q_d10, q_d12, q_d13, q_d14, q_d2m1, q_d20, q_d21, q_d23, q_d24, q_d3m1, q_d30, q_d31, q_d32, q_d34, q_d4m1, q_d40, q_d41, q_d42, q_d43, if_true, if_false, eq_self, l3]
          · simp (disch := omega) only [F_Md_looked, F_Md_looked_J34, F_Md_isIn, F_Md_isGood, fx_bnd, fx_bndx, e_gI, e_pI, e_rz0, e_rz1, e_ret, e_pur, e_thr, e_if, e_el, s_isc hz' h30 hs, s_iop ho, q_lt, q_le, q_eq, q_lt0, q_0lt, q_le0, q_0le, q_eq0, q_lt1, q_1lt, q_le1, q_1le, q_eq1, q_lt2, q_2lt, q_le2, q_2le, q_eq2, q_lt3, q_3lt, q_le3, q_3le, q_eq3, q_lt4, q_4lt, q_le4, q_4le, q_eq4, q_lt6, q_6lt, q_le6, q_6le, q_eq6, q_lt10, q_10lt, q_le10, q_10le, q_eq10, q_lt30, q_30lt, q_le30, q_30le, q_eq30, q_lt40, q_40lt, q_le40, q_40le, q_eq40, q_lt41, q_41lt, q_le41, q_41le, q_eq41, q_lt200, q_200lt, q_le200, q_200le, q_eq200, q_lt400, q_400lt, q_le400, q_400le, q_eq400, q_lt600, q_600lt, q_le600, q_600le, q_eq600, q_lt800, q_800lt, q_le800, q_800le, q_eq800, q_lt900, q_900lt, q_le900, q_900le, q_eq900, q_0eq, q_1eq, q_2eq, q_3eq, q_4eq, q_neg, q_m1, q_m1l, q_s1, nI_1, q_1a, nI_add, q_mul, q_m41, q_41m, q_dn, q_dm10, q_dm11, q_dm12, q_dm13, q_dm14, q_d0m1, q_d01, q_d02, q_d03, q_d04, q_d1m1, q_d10, q_d12, q_d13, q_d14, q_d2m1, q_d20, q_d21, q_d23, q_d24, q_d3m1, q_d30, q_d31, q_d32, q_d34, q_d4m1, q_d40, q_d41, q_d42, q_d43, if_true, if_false, eq_self, m4, ed]
        · refine op_ret0 h (r := nI k) (b := nI k) ?_ ?_ rfl
          · simp (disch := omega) only [F_FixityTrees_looked, F_FixityTrees_requireScope, F_FixityTrees_requireOperator, fx_bnd, fx_bndx, e_gI, e_pI, e_rz0, e_rz1, e_ret, e_pur, e_thr, e_if, e_el, s_has hz h30 hs, s_op ho, q_lt, q_le, q_eq, q_lt0, q_0lt, q_le0, q_0le, q_eq0, q_lt1, q_1lt, q_le1, q_1le, q_eq1, q_lt2, q_2lt, q_le2, q_2le, q_eq2, q_lt3, q_3lt, q_le3, q_3le, q_eq3, q_lt4, q_4lt, q_le4, q_4le, q_eq4, q_lt6, q_6lt, q_le6, q_6le, q_eq6, q_lt10, q_10lt, q_le10, q_10le, q_eq10, q_lt30, q_30lt, q_le30, q_30le, q_eq30, q_lt40, q_40lt, q_le40, q_40le, q_eq40, q_lt41, q_41lt, q_le41, q_41le, q_eq41, q_lt200, q_200lt, q_le200, q_200le, q_eq200, q_lt400, q_400lt, q_le400, q_400le, q_eq400, q_lt600, q_600lt, q_le600, q_600le, q_eq600, q_lt800, q_800lt, q_le800, q_800le, q_eq800, q_lt900, q_900lt, q_le900, q_900le, q_eq900, q_0eq, q_1eq, q_2eq, q_3eq, q_4eq, q_neg, q_m1, q_m1l, q_s1, nI_1, q_1a, nI_add, q_mul, q_m41, q_41m, q_dn, q_dm10, q_dm11, q_dm12, q_dm13, q_dm14, q_d0m1, q_d01, q_d02, q_d03, q_d04, q_d1m1, q_d10, q_d12, q_d13, q_d14, q_d2m1, q_d20, q_d21, q_d23, q_d24, q_d3m1, q_d30, q_d31, q_d32, q_d34, q_d4m1, q_d40, q_d41, q_d42, q_d43, if_true, if_false, eq_self, l5]
          · simp (disch := omega) only [F_Md_looked, F_Md_looked_J34, F_Md_isIn, F_Md_isGood, fx_bnd, fx_bndx, e_gI, e_pI, e_rz0, e_rz1, e_ret, e_pur, e_thr, e_if, e_el, s_isc hz' h30 hs, s_iop ho, q_lt, q_le, q_eq, q_lt0, q_0lt, q_le0, q_0le, q_eq0, q_lt1, q_1lt, q_le1, q_1le, q_eq1, q_lt2, q_2lt, q_le2, q_2le, q_eq2, q_lt3, q_3lt, q_le3, q_3le, q_eq3, q_lt4, q_4lt, q_le4, q_4le, q_eq4, q_lt6, q_6lt, q_le6, q_6le, q_eq6, q_lt10, q_10lt, q_le10, q_10le, q_eq10, q_lt30, q_30lt, q_le30, q_30le, q_eq30, q_lt40, q_40lt, q_le40, q_40le, q_eq40, q_lt41, q_41lt, q_le41, q_41le, q_eq41, q_lt200, q_200lt, q_le200, q_200le, q_eq200, q_lt400, q_400lt, q_le400, q_400le, q_eq400, q_lt600, q_600lt, q_le600, q_600le, q_eq600, q_lt800, q_800lt, q_le800, q_800le, q_eq800, q_lt900, q_900lt, q_le900, q_900le, q_eq900, q_0eq, q_1eq, q_2eq, q_3eq, q_4eq, q_neg, q_m1, q_m1l, q_s1, nI_1, q_1a, nI_add, q_mul, q_m41, q_41m, q_dn, q_dm10, q_dm11, q_dm12, q_dm13, q_dm14, q_d0m1, q_d01, q_d02, q_d03, q_d04, q_d1m1, q_d10, q_d12, q_d13, q_d14, q_d2m1, q_d20, q_d21, q_d23, q_d24, q_d3m1, q_d30, q_d31, q_d32, q_d34, q_d4m1, q_d40, q_d41, q_d42, q_d43, if_true, if_false, eq_self, m6, ek]
        · refine op_ret0 h (r := t) (b := t) ?_ ?_ rfl
          · simp (disch := omega) only [F_FixityTrees_looked, F_FixityTrees_requireScope, F_FixityTrees_requireOperator, fx_bnd, fx_bndx, e_gI, e_pI, e_rz0, e_rz1, e_ret, e_pur, e_thr, e_if, e_el, s_has hz h30 hs, s_op ho, q_lt, q_le, q_eq, q_lt0, q_0lt, q_le0, q_0le, q_eq0, q_lt1, q_1lt, q_le1, q_1le, q_eq1, q_lt2, q_2lt, q_le2, q_2le, q_eq2, q_lt3, q_3lt, q_le3, q_3le, q_eq3, q_lt4, q_4lt, q_le4, q_4le, q_eq4, q_lt6, q_6lt, q_le6, q_6le, q_eq6, q_lt10, q_10lt, q_le10, q_10le, q_eq10, q_lt30, q_30lt, q_le30, q_30le, q_eq30, q_lt40, q_40lt, q_le40, q_40le, q_eq40, q_lt41, q_41lt, q_le41, q_41le, q_eq41, q_lt200, q_200lt, q_le200, q_200le, q_eq200, q_lt400, q_400lt, q_le400, q_400le, q_eq400, q_lt600, q_600lt, q_le600, q_600le, q_eq600, q_lt800, q_800lt, q_le800, q_800le, q_eq800, q_lt900, q_900lt, q_le900, q_900le, q_eq900, q_0eq, q_1eq, q_2eq, q_3eq, q_4eq, q_neg, q_m1, q_m1l, q_s1, nI_1, q_1a, nI_add, q_mul, q_m41, q_41m, q_dn, q_dm10, q_dm11, q_dm12, q_dm13, q_dm14, q_d0m1, q_d01, q_d02, q_d03, q_d04, q_d1m1, q_d10, q_d12, q_d13, q_d14, q_d2m1, q_d20, q_d21, q_d23, q_d24, q_d3m1, q_d30, q_d31, q_d32, q_d34, q_d4m1, q_d40, q_d41, q_d42, q_d43, if_true, if_false, eq_self, l1]
          · simp (disch := omega) only [F_Md_looked, F_Md_looked_J34, F_Md_isIn, F_Md_isGood, fx_bnd, fx_bndx, e_gI, e_pI, e_rz0, e_rz1, e_ret, e_pur, e_thr, e_if, e_el, s_isc hz' h30 hs, s_iop ho, q_lt, q_le, q_eq, q_lt0, q_0lt, q_le0, q_0le, q_eq0, q_lt1, q_1lt, q_le1, q_1le, q_eq1, q_lt2, q_2lt, q_le2, q_2le, q_eq2, q_lt3, q_3lt, q_le3, q_3le, q_eq3, q_lt4, q_4lt, q_le4, q_4le, q_eq4, q_lt6, q_6lt, q_le6, q_6le, q_eq6, q_lt10, q_10lt, q_le10, q_10le, q_eq10, q_lt30, q_30lt, q_le30, q_30le, q_eq30, q_lt40, q_40lt, q_le40, q_40le, q_eq40, q_lt41, q_41lt, q_le41, q_41le, q_eq41, q_lt200, q_200lt, q_le200, q_200le, q_eq200, q_lt400, q_400lt, q_le400, q_400le, q_eq400, q_lt600, q_600lt, q_le600, q_600le, q_eq600, q_lt800, q_800lt, q_le800, q_800le, q_eq800, q_lt900, q_900lt, q_le900, q_900le, q_eq900, q_0eq, q_1eq, q_2eq, q_3eq, q_4eq, q_neg, q_m1, q_m1l, q_s1, nI_1, q_1a, nI_add, q_mul, q_m41, q_41m, q_dn, q_dm10, q_dm11, q_dm12, q_dm13, q_dm14, q_d0m1, q_d01, q_d02, q_d03, q_d04, q_d1m1, q_d10, q_d12, q_d13, q_d14, q_d2m1, q_d20, q_d21, q_d23, q_d24, q_d3m1, q_d30, q_d31, q_d32, q_d34, q_d4m1, q_d40, q_d41, q_d42, q_d43, if_true, if_false, eq_self, m2]
      · refine op_thr0 h (b := 0) 2 2 (by simp) ?_ ?_
        · have n0 : ¬ a2 = 0 ∧ ¬ a2 = 1 ∧ ¬ a2 = 2 := by
            rcases hb with hb | ⟨j, g1, g2, rfl⟩
            · refine ⟨?_, ?_, ?_⟩ <;> (rintro rfl; exact absurd hb (by decide))
            · refine ⟨?_, ?_, ?_⟩ <;> (simp (disch := omega) only [q_lt, q_le, q_eq, q_lt0, q_0lt, q_le0, q_0le, q_eq0, q_lt1, q_1lt, q_le1, q_1le, q_eq1, q_lt2, q_2lt, q_le2, q_2le, q_eq2, q_lt3, q_3lt, q_le3, q_3le, q_eq3, q_lt4, q_4lt, q_le4, q_4le, q_eq4, q_lt6, q_6lt, q_le6, q_6le, q_eq6, q_lt10, q_10lt, q_le10, q_10le, q_eq10, q_lt30, q_30lt, q_le30, q_30le, q_eq30, q_lt40, q_40lt, q_le40, q_40le, q_eq40, q_lt41, q_41lt, q_le41, q_41le, q_eq41, q_lt200, q_200lt, q_le200, q_200le, q_eq200, q_lt400, q_400lt, q_le400, q_400le, q_eq400, q_lt600, q_600lt, q_le600, q_600le, q_eq600, q_lt800, q_800lt, q_le800, q_800le, q_eq800, q_lt900, q_900lt, q_le900, q_900le, q_eq900, q_0eq, q_1eq, q_2eq, q_3eq, q_4eq, q_neg, q_m1, q_m1l, q_s1, nI_1, q_1a, nI_add, q_mul, q_m41, q_41m, q_dn, q_dm10, q_dm11, q_dm12, q_dm13, q_dm14, q_d0m1, q_d01, q_d02, q_d03, q_d04, q_d1m1, q_d10, q_d12, q_d13, q_d14, q_d2m1, q_d20, q_d21, q_d23, q_d24, q_d3m1, q_d30, q_d31, q_d32, q_d34, q_d4m1, q_d40, q_d41, q_d42, q_d43, if_true, if_false, eq_self]; omega)
          simp (disch := omega) only [F_FixityTrees_looked, F_FixityTrees_requireScope, F_FixityTrees_requireOperator, fx_bnd, fx_bndx, e_gI, e_pI, e_rz0, e_rz1, e_ret, e_pur, e_thr, e_if, e_el, s_has hz h30 hs, s_op ho, q_lt, q_le, q_eq, q_lt0, q_0lt, q_le0, q_0le, q_eq0, q_lt1, q_1lt, q_le1, q_1le, q_eq1, q_lt2, q_2lt, q_le2, q_2le, q_eq2, q_lt3, q_3lt, q_le3, q_3le, q_eq3, q_lt4, q_4lt, q_le4, q_4le, q_eq4, q_lt6, q_6lt, q_le6, q_6le, q_eq6, q_lt10, q_10lt, q_le10, q_10le, q_eq10, q_lt30, q_30lt, q_le30, q_30le, q_eq30, q_lt40, q_40lt, q_le40, q_40le, q_eq40, q_lt41, q_41lt, q_le41, q_41le, q_eq41, q_lt200, q_200lt, q_le200, q_200le, q_eq200, q_lt400, q_400lt, q_le400, q_400le, q_eq400, q_lt600, q_600lt, q_le600, q_600le, q_eq600, q_lt800, q_800lt, q_le800, q_800le, q_eq800, q_lt900, q_900lt, q_le900, q_900le, q_eq900, q_0eq, q_1eq, q_2eq, q_3eq, q_4eq, q_neg, q_m1, q_m1l, q_s1, nI_1, q_1a, nI_add, q_mul, q_m41, q_41m, q_dn, q_dm10, q_dm11, q_dm12, q_dm13, q_dm14, q_d0m1, q_d01, q_d02, q_d03, q_d04, q_d1m1, q_d10, q_d12, q_d13, q_d14, q_d2m1, q_d20, q_d21, q_d23, q_d24, q_d3m1, q_d30, q_d31, q_d32, q_d34, q_d4m1, q_d40, q_d41, q_d42, q_d43, if_true, if_false, eq_self, n0.1, n0.2.1, n0.2.2]
        · rcases hb with hb | ⟨j, g1, g2, rfl⟩
          · simp (disch := omega) only [F_Md_looked, F_Md_looked_J34, F_Md_isIn, F_Md_isGood, fx_bnd, fx_bndx, e_gI, e_pI, e_rz0, e_rz1, e_ret, e_pur, e_thr, e_if, e_el, s_isc hz' h30 hs, s_iop ho, q_lt, q_le, q_eq, q_lt0, q_0lt, q_le0, q_0le, q_eq0, q_lt1, q_1lt, q_le1, q_1le, q_eq1, q_lt2, q_2lt, q_le2, q_2le, q_eq2, q_lt3, q_3lt, q_le3, q_3le, q_eq3, q_lt4, q_4lt, q_le4, q_4le, q_eq4, q_lt6, q_6lt, q_le6, q_6le, q_eq6, q_lt10, q_10lt, q_le10, q_10le, q_eq10, q_lt30, q_30lt, q_le30, q_30le, q_eq30, q_lt40, q_40lt, q_le40, q_40le, q_eq40, q_lt41, q_41lt, q_le41, q_41le, q_eq41, q_lt200, q_200lt, q_le200, q_200le, q_eq200, q_lt400, q_400lt, q_le400, q_400le, q_eq400, q_lt600, q_600lt, q_le600, q_600le, q_eq600, q_lt800, q_800lt, q_le800, q_800le, q_eq800, q_lt900, q_900lt, q_le900, q_900le, q_eq900, q_0eq, q_1eq, q_2eq, q_3eq, q_4eq, q_neg, q_m1, q_m1l, q_s1, nI_1, q_1a, nI_add, q_mul, q_m41, q_41m, q_dn, q_dm10, q_dm11, q_dm12, q_dm13, q_dm14, q_d0m1, q_d01, q_d02, q_d03, q_d04, q_d1m1, q_d10, q_d12, q_d13, q_d14, q_d2m1, q_d20, q_d21, q_d23, q_d24, q_d3m1, q_d30, q_d31, q_d32, q_d34, q_d4m1, q_d40, q_d41, q_d42, q_d43, if_true, if_false, eq_self, if_pos hb]
          · simp (disch := omega) only [F_Md_looked, F_Md_looked_J34, F_Md_isIn, F_Md_isGood, fx_bnd, fx_bndx, e_gI, e_pI, e_rz0, e_rz1, e_ret, e_pur, e_thr, e_if, e_el, s_isc hz' h30 hs, s_iop ho, q_lt, q_le, q_eq, q_lt0, q_0lt, q_le0, q_0le, q_eq0, q_lt1, q_1lt, q_le1, q_1le, q_eq1, q_lt2, q_2lt, q_le2, q_2le, q_eq2, q_lt3, q_3lt, q_le3, q_3le, q_eq3, q_lt4, q_4lt, q_le4, q_4le, q_eq4, q_lt6, q_6lt, q_le6, q_6le, q_eq6, q_lt10, q_10lt, q_le10, q_10le, q_eq10, q_lt30, q_30lt, q_le30, q_30le, q_eq30, q_lt40, q_40lt, q_le40, q_40le, q_eq40, q_lt41, q_41lt, q_le41, q_41le, q_eq41, q_lt200, q_200lt, q_le200, q_200le, q_eq200, q_lt400, q_400lt, q_le400, q_400le, q_eq400, q_lt600, q_600lt, q_le600, q_600le, q_eq600, q_lt800, q_800lt, q_le800, q_800le, q_eq800, q_lt900, q_900lt, q_le900, q_900le, q_eq900, q_0eq, q_1eq, q_2eq, q_3eq, q_4eq, q_neg, q_m1, q_m1l, q_s1, nI_1, q_1a, nI_add, q_mul, q_m41, q_41m, q_dn, q_dm10, q_dm11, q_dm12, q_dm13, q_dm14, q_d0m1, q_d01, q_d02, q_d03, q_d04, q_d1m1, q_d10, q_d12, q_d13, q_d14, q_d2m1, q_d20, q_d21, q_d23, q_d24, q_d3m1, q_d30, q_d31, q_d32, q_d34, q_d4m1, q_d40, q_d41, q_d42, q_d43, if_true, if_false, eq_self]
    · refine op_thr0 h (b := 0) 0 1 (by simp) ?_ ?_
      · simp (disch := omega) only [F_FixityTrees_looked, F_FixityTrees_requireScope, F_FixityTrees_requireOperator, fx_bnd, fx_bndx, e_gI, e_pI, e_rz0, e_rz1, e_ret, e_pur, e_thr, e_if, e_el, s_has hz h30 hs, s_opn hbad, q_lt, q_le, q_eq, q_lt0, q_0lt, q_le0, q_0le, q_eq0, q_lt1, q_1lt, q_le1, q_1le, q_eq1, q_lt2, q_2lt, q_le2, q_2le, q_eq2, q_lt3, q_3lt, q_le3, q_3le, q_eq3, q_lt4, q_4lt, q_le4, q_4le, q_eq4, q_lt6, q_6lt, q_le6, q_6le, q_eq6, q_lt10, q_10lt, q_le10, q_10le, q_eq10, q_lt30, q_30lt, q_le30, q_30le, q_eq30, q_lt40, q_40lt, q_le40, q_40le, q_eq40, q_lt41, q_41lt, q_le41, q_41le, q_eq41, q_lt200, q_200lt, q_le200, q_200le, q_eq200, q_lt400, q_400lt, q_le400, q_400le, q_eq400, q_lt600, q_600lt, q_le600, q_600le, q_eq600, q_lt800, q_800lt, q_le800, q_800le, q_eq800, q_lt900, q_900lt, q_le900, q_900le, q_eq900, q_0eq, q_1eq, q_2eq, q_3eq, q_4eq, q_neg, q_m1, q_m1l, q_s1, nI_1, q_1a, nI_add, q_mul, q_m41, q_41m, q_dn, q_dm10, q_dm11, q_dm12, q_dm13, q_dm14, q_d0m1, q_d01, q_d02, q_d03, q_d04, q_d1m1, q_d10, q_d12, q_d13, q_d14, q_d2m1, q_d20, q_d21, q_d23, q_d24, q_d3m1, q_d30, q_d31, q_d32, q_d34, q_d4m1, q_d40, q_d41, q_d42, q_d43, if_true, if_false, eq_self]
      · simp (disch := omega) only [F_Md_looked, F_Md_looked_J16, F_Md_looked_J34, F_Md_isGood, fx_bnd, fx_bndx, e_gI, e_pI, e_rz0, e_rz1, e_ret, e_pur, e_thr, e_if, e_el, s_isc hz' h30 hs, s_iopn hbad, q_lt, q_le, q_eq, q_lt0, q_0lt, q_le0, q_0le, q_eq0, q_lt1, q_1lt, q_le1, q_1le, q_eq1, q_lt2, q_2lt, q_le2, q_2le, q_eq2, q_lt3, q_3lt, q_le3, q_3le, q_eq3, q_lt4, q_4lt, q_le4, q_4le, q_eq4, q_lt6, q_6lt, q_le6, q_6le, q_eq6, q_lt10, q_10lt, q_le10, q_10le, q_eq10, q_lt30, q_30lt, q_le30, q_30le, q_eq30, q_lt40, q_40lt, q_le40, q_40le, q_eq40, q_lt41, q_41lt, q_le41, q_41le, q_eq41, q_lt200, q_200lt, q_le200, q_200le, q_eq200, q_lt400, q_400lt, q_le400, q_400le, q_eq400, q_lt600, q_600lt, q_le600, q_600le, q_eq600, q_lt800, q_800lt, q_le800, q_800le, q_eq800, q_lt900, q_900lt, q_le900, q_900le, q_eq900, q_0eq, q_1eq, q_2eq, q_3eq, q_4eq, q_neg, q_m1, q_m1l, q_s1, nI_1, q_1a, nI_add, q_mul, q_m41, q_41m, q_dn, q_dm10, q_dm11, q_dm12, q_dm13, q_dm14, q_d0m1, q_d01, q_d02, q_d03, q_d04, q_d1m1, q_d10, q_d12, q_d13, q_d14, q_d2m1, q_d20, q_d21, q_d23, q_d24, q_d3m1, q_d30, q_d31, q_d32, q_d34, q_d4m1, q_d40, q_d41, q_d42, q_d43, if_true, if_false, eq_self]
  · refine op_thr0 h (b := 0) 0 1 (by simp) ?_ ?_
    · simp (disch := omega) only [F_FixityTrees_looked, F_FixityTrees_requireScope, F_FixityTrees_requireOperator, fx_bnd, fx_bndx, e_gI, e_pI, e_rz0, e_rz1, e_ret, e_pur, e_thr, e_if, e_el, s_hasn hz h30 hbad, q_lt, q_le, q_eq, q_lt0, q_0lt, q_le0, q_0le, q_eq0, q_lt1, q_1lt, q_le1, q_1le, q_eq1, q_lt2, q_2lt, q_le2, q_2le, q_eq2, q_lt3, q_3lt, q_le3, q_3le, q_eq3, q_lt4, q_4lt, q_le4, q_4le, q_eq4, q_lt6, q_6lt, q_le6, q_6le, q_eq6, q_lt10, q_10lt, q_le10, q_10le, q_eq10, q_lt30, q_30lt, q_le30, q_30le, q_eq30, q_lt40, q_40lt, q_le40, q_40le, q_eq40, q_lt41, q_41lt, q_le41, q_41le, q_eq41, q_lt200, q_200lt, q_le200, q_200le, q_eq200, q_lt400, q_400lt, q_le400, q_400le, q_eq400, q_lt600, q_600lt, q_le600, q_600le, q_eq600, q_lt800, q_800lt, q_le800, q_800le, q_eq800, q_lt900, q_900lt, q_le900, q_900le, q_eq900, q_0eq, q_1eq, q_2eq, q_3eq, q_4eq, q_neg, q_m1, q_m1l, q_s1, nI_1, q_1a, nI_add, q_mul, q_m41, q_41m, q_dn, q_dm10, q_dm11, q_dm12, q_dm13, q_dm14, q_d0m1, q_d01, q_d02, q_d03, q_d04, q_d1m1, q_d10, q_d12, q_d13, q_d14, q_d2m1, q_d20, q_d21, q_d23, q_d24, q_d3m1, q_d30, q_d31, q_d32, q_d34, q_d4m1, q_d40, q_d41, q_d42, q_d43, if_true, if_false, eq_self]
    · simp (disch := omega) only [F_Md_looked, F_Md_looked_J16, F_Md_looked_J34, F_Md_isGood, fx_bnd, fx_bndx, e_gI, e_pI, e_rz0, e_rz1, e_ret, e_pur, e_thr, e_if, e_el, s_iscn hz' h1 h30 hbad, q_lt, q_le, q_eq, q_lt0, q_0lt, q_le0, q_0le, q_eq0, q_lt1, q_1lt, q_le1, q_1le, q_eq1, q_lt2, q_2lt, q_le2, q_2le, q_eq2, q_lt3, q_3lt, q_le3, q_3le, q_eq3, q_lt4, q_4lt, q_le4, q_4le, q_eq4, q_lt6, q_6lt, q_le6, q_6le, q_eq6, q_lt10, q_10lt, q_le10, q_10le, q_eq10, q_lt30, q_30lt, q_le30, q_30le, q_eq30, q_lt40, q_40lt, q_le40, q_40le, q_eq40, q_lt41, q_41lt, q_le41, q_41le, q_eq41, q_lt200, q_200lt, q_le200, q_200le, q_eq200, q_lt400, q_400lt, q_le400, q_400le, q_eq400, q_lt600, q_600lt, q_le600, q_600le, q_eq600, q_lt800, q_800lt, q_le800, q_800le, q_eq800, q_lt900, q_900lt, q_le900, q_900le, q_eq900, q_0eq, q_1eq, q_2eq, q_3eq, q_4eq, q_neg, q_m1, q_m1l, q_s1, nI_1, q_1a, nI_add, q_mul, q_m41, q_41m, q_dn, q_dm10, q_dm11, q_dm12, q_dm13, q_dm14, q_d0m1, q_d01, q_d02, q_d03, q_d04, q_d1m1, q_d10, q_d12, q_d13, q_d14, q_d2m1, q_d20, q_d21, q_d23, q_d24, q_d3m1, q_d30, q_d31, q_d32, q_d34, q_d4m1, q_d40, q_d41, q_d42, q_d43, if_true, if_false, eq_self]
