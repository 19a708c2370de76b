theorem fx_sw0_3 {x : Int32} (h0 : ¬ x = 0) (h1 : ¬ x = 1) (h2 : ¬ x = 2) (h3 : ¬ x = 3) : x.toInt < 0 ∨ 3 < x.toInt := by
  have e0 : x.toInt ≠ 0 := fx_ne h0
  have e1 : x.toInt ≠ 1 := fx_ne h1
  have e2 : x.toInt ≠ 2 := fx_ne h2
  have e3 : x.toInt ≠ 3 := fx_ne h3
  omega
theorem fx_sw0_5 {x : Int32} (h0 : ¬ x = 0) (h1 : ¬ x = 1) (h2 : ¬ x = 2) (h3 : ¬ x = 3) (h4 : ¬ x = 4) (h5 : ¬ x = 5) : x.toInt < 0 ∨ 5 < x.toInt := by
  have e0 : x.toInt ≠ 0 := fx_ne h0
  have e1 : x.toInt ≠ 1 := fx_ne h1
  have e2 : x.toInt ≠ 2 := fx_ne h2
  have e3 : x.toInt ≠ 3 := fx_ne h3
  have e4 : x.toInt ≠ 4 := fx_ne h4
  have e5 : x.toInt ≠ 5 := fx_ne h5
  omega
def F_Md_thrown : fx_M Int32 :=
  fx_bnd g_Md_code fun x1 =>
  fx_ret x1
def F_Md_isIn (v0 : Int32) (v1 : Int32) (v2 : Int32) : fx_M Int32 :=
  if v0 < v1 then (
    fx_retz 0
  ) else (
    if v2 < v0 then (
      fx_retz 0
    ) else (
      fx_retz 1
    )
  )
def F_Md_isScope (v1 : Int32) : fx_M Int32 :=
  fx_bnd g_Md_scopes fun x1 =>
  fx_bnd (F_Md_isIn v1 0 (x1 - 1)) fun x2 =>
  fx_retz x2
def F_Md_isGood (v1 : Int32) : fx_M Int32 :=
  fx_bnd (p_Md_code v1) fun _ =>
  if v1 = 0 then (
    fx_retz 1
  ) else (
    fx_retz 0
  )
def F_Md_tellNothing_B2 (k2 : Int32 → Int32 → fx_M Unit) (v1 : Int32) (v2 : Int32) : fx_M Unit :=
  if 41 ≤ v2 then (
    fx_ret ()
  ) else (
    fx_bnd (s_Md_sides ((41 * v1) + v2) (-1)) fun _ =>
    fx_bnd (fx_pur (v2 + 1)) fun x1 =>
    k2 v1 x1
  )
def F_Md_tellNothing (v1 : Int32) : fx_M Unit :=
  fx_loop2 (F_Md_tellNothing_B2) fx_fuel v1 0
def F_Md_scope_J27 (v1 : Int32) (t0 : Int32) : fx_M Int32 :=
  fx_bnd (F_Md_isGood t0) fun x3 =>
  if x3 = 0 then (
    fx_ret 0
  ) else (
    fx_bnd g_Md_scopes fun x4 =>
    fx_bnd (s_Md_outer x4 v1) fun _ =>
    fx_bnd g_Md_scopes fun x5 =>
    fx_bnd (F_Md_tellNothing x5) fun _ =>
    fx_bnd g_Md_scopes fun x6 =>
    fx_bnd (p_Md_scopes (x6 + 1)) fun _ =>
    fx_bnd g_Md_scopes fun x7 =>
    fx_ret (x7 - 1)
  )
def F_Md_scope (v1 : Int32) : fx_M Int32 :=
  fx_bnd (F_Md_isScope v1) fun x1 =>
  if x1 = 0 then (
    F_Md_scope_J27 v1 1
  ) else (
    fx_bnd g_Md_scopes fun x2 =>
    if x2 = 30 then (
      F_Md_scope_J27 v1 2
    ) else (
      F_Md_scope_J27 v1 0
    )
  )
def F_Md_isOperator (v0 : Int32) : fx_M Int32 :=
  fx_bnd (F_Md_isIn v0 0 40) fun x1 =>
  fx_retz x1
def F_Md_fixity_J77 (v1 : Int32) (v2 : Int32) (v3 : Int32) (v4 : Int32) (v5 : Int32) : fx_M Unit :=
  fx_bnd (F_Md_isGood v5) fun x2 =>
  if x2 = 0 then (
    fx_ret ()
  ) else (
    fx_bnd (s_Md_sides ((41 * v1) + v2) v3) fun _ =>
    fx_bnd (s_Md_ranks ((41 * v1) + v2) v4) fun _ =>
    fx_ret ()
  )
def F_Md_fixity_J74 (v1 : Int32) (v2 : Int32) (v3 : Int32) (v4 : Int32) : fx_M Unit :=
  F_Md_fixity_J77 v1 v2 v3 v4 3
def F_Md_fixity_J49 (v1 : Int32) (v2 : Int32) (v3 : Int32) (v4 : Int32) (v5 : Int32) : fx_M Unit :=
  if v5 = 0 then (
    fx_bnd (F_Md_isIn v3 0 2) fun x3 =>
    if x3 = 0 then (
      F_Md_fixity_J74 v1 v2 v3 v4
    ) else (
      fx_bnd (F_Md_isIn v4 0 9) fun x4 =>
      if x4 = 0 then (
        F_Md_fixity_J74 v1 v2 v3 v4
      ) else (
        F_Md_fixity_J77 v1 v2 v3 v4 v5
      )
    )
  ) else (
    F_Md_fixity_J77 v1 v2 v3 v4 v5
  )
def F_Md_fixity_J46 (v1 : Int32) (v2 : Int32) (v3 : Int32) (v4 : Int32) : fx_M Unit :=
  F_Md_fixity_J49 v1 v2 v3 v4 2
def F_Md_fixity_J20 (v1 : Int32) (v2 : Int32) (v3 : Int32) (v4 : Int32) (t0 : Int32) : fx_M Unit :=
  if t0 = 0 then (
    if v2 = 0 then (
      F_Md_fixity_J46 v1 v2 v3 v4
    ) else (
      fx_bnd (l_Md_sides ((41 * v1) + v2)) fun x5 =>
      if x5 = (-1) then (
        F_Md_fixity_J49 v1 v2 v3 v4 t0
      ) else (
        F_Md_fixity_J46 v1 v2 v3 v4
      )
    )
  ) else (
    F_Md_fixity_J49 v1 v2 v3 v4 t0
  )
def F_Md_fixity_J15 (v1 : Int32) (v2 : Int32) (v3 : Int32) (v4 : Int32) : fx_M Unit :=
  F_Md_fixity_J20 v1 v2 v3 v4 1
def F_Md_fixity (v1 : Int32) (v2 : Int32) (v3 : Int32) (v4 : Int32) : fx_M Unit :=
  fx_bnd (F_Md_isScope v1) fun x1 =>
  if x1 = 0 then (
    F_Md_fixity_J15 v1 v2 v3 v4
  ) else (
    fx_bnd (F_Md_isOperator v2) fun x6 =>
    if x6 = 0 then (
      F_Md_fixity_J15 v1 v2 v3 v4
    ) else (
      F_Md_fixity_J20 v1 v2 v3 v4 0
    )
  )
def F_Md_teller_B2 (k2 : Int32 → Int32 → fx_M Int32) (v2 : Int32) (v3 : Int32) : fx_M Int32 :=
  if v3 = (-1) then (
    fx_ret v3
  ) else (
    fx_bnd (l_Md_sides ((41 * v3) + v2)) fun x1 =>
    if x1 = (-1) then (
      fx_bnd (l_Md_outer v3) fun x2 =>
      k2 v2 x2
    ) else (
      fx_ret v3
    )
  )
def F_Md_teller (v1 : Int32) (v2 : Int32) : fx_M Int32 :=
  fx_loop2 (F_Md_teller_B2) fx_fuel v2 v1
def F_Md_rankOf (v1 : Int32) (v2 : Int32) : fx_M Int32 :=
  fx_bnd (F_Md_teller v1 v2) fun x1 =>
  if v2 = 0 then (
    fx_ret 6
  ) else (
    if x1 = (-1) then (
      fx_ret 9
    ) else (
      fx_bnd (l_Md_ranks ((41 * x1) + v2)) fun x2 =>
      fx_ret x2
    )
  )
def F_Md_sideOf (v1 : Int32) (v2 : Int32) : fx_M Int32 :=
  fx_bnd (F_Md_teller v1 v2) fun x1 =>
  if x1 = (-1) then (
    fx_ret 0
  ) else (
    fx_bnd (l_Md_sides ((41 * x1) + v2)) fun x2 =>
    fx_ret x2
  )
def F_Md_looked_J34 (v1 : Int32) (v2 : Int32) (v3 : Int32) (t0 : Int32) : fx_M Int32 :=
  fx_bnd (F_Md_isGood t0) fun x2 =>
  if x2 = 0 then (
    fx_ret 0
  ) else (
    if v3 = 0 then (
      fx_bnd (F_Md_sideOf v1 v2) fun x5 =>
      fx_ret x5
    ) else (
      if v3 = 1 then (
        fx_bnd (F_Md_rankOf v1 v2) fun x4 =>
        fx_ret x4
      ) else (
        fx_bnd (F_Md_teller v1 v2) fun x3 =>
        fx_ret x3
      )
    )
  )
def F_Md_looked_J16 (v1 : Int32) (v2 : Int32) (v3 : Int32) : fx_M Int32 :=
  F_Md_looked_J34 v1 v2 v3 1
def F_Md_looked (v1 : Int32) (v2 : Int32) (v3 : Int32) : fx_M Int32 :=
  fx_bnd (F_Md_isScope v1) fun x1 =>
  if x1 = 0 then (
    F_Md_looked_J16 v1 v2 v3
  ) else (
    fx_bnd (F_Md_isOperator v2) fun x6 =>
    if x6 = 0 then (
      F_Md_looked_J16 v1 v2 v3
    ) else (
      fx_bnd (F_Md_isIn v3 0 2) fun x7 =>
      if x7 = 0 then (
        F_Md_looked_J34 v1 v2 v3 2
      ) else (
        F_Md_looked_J34 v1 v2 v3 0
      )
    )
  )
def F_Md_begin (v1 : Int32) : fx_M Unit :=
  fx_bnd (p_Md_code 0) fun _ =>
  fx_bnd (p_Md_count 0) fun _ =>
  fx_bnd (p_Md_opened 0) fun _ =>
  fx_bnd (p_Md_isPattern v1) fun _ =>
  fx_ret ()
def F_Md_lastKind : fx_M Int32 :=
  fx_bnd g_Md_count fun x1 =>
  if x1 = 0 then (
    fx_ret (-1)
  ) else (
    fx_bnd g_Md_count fun x2 =>
    fx_bnd (l_Md_kinds (x2 - 1)) fun x3 =>
    fx_ret x3
  )
def F_Md_isDue : fx_M Int32 :=
  fx_bnd g_Md_count fun x1 =>
  if x1 = 0 then (
    fx_retz 1
  ) else (
    fx_bnd (F_Md_lastKind) fun x2 =>
    fx_bnd (F_Md_isIn x2 1 3) fun x3 =>
    if x3 = 0 then (
      fx_retz 0
    ) else (
      fx_retz 1
    )
  )
def F_Md_add (v1 : Int32) (v2 : Int32) (v3 : Int64) : fx_M Int32 :=
  fx_bnd g_Md_count fun x1 =>
  fx_bnd (s_Md_kinds x1 v1) fun _ =>
  fx_bnd g_Md_count fun x2 =>
  fx_bnd (s_Md_operators x2 v2) fun _ =>
  fx_bnd g_Md_count fun x3 =>
  fx_bnd (s_Md_numbers x3 v3) fun _ =>
  fx_bnd g_Md_count fun x4 =>
  fx_bnd (p_Md_count (x4 + 1)) fun _ =>
  fx_bnd g_Md_count fun x5 =>
  fx_ret x5
def F_Md_operand_J23 (v1 : Int64) (t0 : Int32) : fx_M Int32 :=
  fx_bnd (F_Md_isGood t0) fun x2 =>
  if x2 = 0 then (
    fx_ret 0
  ) else (
    fx_bnd (F_Md_add 0 (-1) v1) fun x3 =>
    fx_ret x3
  )
def F_Md_operand_J18 (v1 : Int64) : fx_M Int32 :=
  F_Md_operand_J23 v1 1
def F_Md_operand (v1 : Int64) : fx_M Int32 :=
  fx_bnd (F_Md_isDue) fun x1 =>
  if x1 = 0 then (
    F_Md_operand_J18 v1
  ) else (
    fx_bnd g_Md_count fun x4 =>
    if x4 = 200 then (
      F_Md_operand_J18 v1
    ) else (
      F_Md_operand_J23 v1 0
    )
  )
def F_Md_operator_J136 (v1 : Int32) (t0 : Int32) : fx_M Int32 :=
  fx_bnd (F_Md_add t0 v1 0) fun x6 =>
  fx_ret x6
def F_Md_operator_J118 (v1 : Int32) (v3 : Int32) (t0 : Int32) : fx_M Int32 :=
  fx_bnd (F_Md_isGood t0) fun x5 =>
  if x5 = 0 then (
    fx_ret 0
  ) else (
    if v3 = 0 then (
      F_Md_operator_J136 v1 1
    ) else (
      F_Md_operator_J136 v1 2
    )
  )
def F_Md_operator_J97 (v1 : Int32) (v2 : Int32) (v3 : Int32) : fx_M Int32 :=
  fx_bnd (F_Md_isOperator v1) fun x4 =>
  if x4 = 0 then (
    F_Md_operator_J118 v1 v3 1
  ) else (
    if v2 = 0 then (
      F_Md_operator_J118 v1 v3 2
    ) else (
      F_Md_operator_J118 v1 v3 0
    )
  )
def F_Md_operator_J96 (v1 : Int32) (v3 : Int32) (t0 : Int32) : fx_M Int32 :=
  F_Md_operator_J97 v1 t0 v3
def F_Md_operator_J95 (v1 : Int32) (v3 : Int32) : fx_M Int32 :=
  F_Md_operator_J96 v1 v3 0
def F_Md_operator_J61 (v1 : Int32) (v3 : Int32) (t0 : Int32) : fx_M Int32 :=
  F_Md_operator_J97 v1 t0 v3
def F_Md_operator_J60 (v1 : Int32) (v3 : Int32) : fx_M Int32 :=
  F_Md_operator_J61 v1 v3 0
def F_Md_operator_J56 (v1 : Int32) (v3 : Int32) : fx_M Int32 :=
  F_Md_operator_J61 v1 v3 1
def F_Md_operator_J32 (v1 : Int32) (v2 : Int32) (t0 : Int32) : fx_M Int32 :=
  if t0 = 0 then (
    fx_bnd (F_Md_isDue) fun x3 =>
    if x3 = 0 then (
      F_Md_operator_J97 v1 v2 t0
    ) else (
      if v2 = 0 then (
        F_Md_operator_J95 v1 t0
      ) else (
        fx_bnd g_Md_isPattern fun x7 =>
        if x7 = 0 then (
          fx_bnd (F_Md_lastKind) fun x8 =>
          if x8 = 3 then (
            F_Md_operator_J96 v1 t0 1
          ) else (
            F_Md_operator_J95 v1 t0
          )
        ) else (
          F_Md_operator_J95 v1 t0
        )
      )
    )
  ) else (
    if v2 = 0 then (
      F_Md_operator_J60 v1 t0
    ) else (
      fx_bnd g_Md_isPattern fun x9 =>
      if x9 = 0 then (
        F_Md_operator_J56 v1 t0
      ) else (
        fx_bnd (F_Md_lastKind) fun x10 =>
        if x10 = 2 then (
          F_Md_operator_J60 v1 t0
        ) else (
          F_Md_operator_J56 v1 t0
        )
      )
    )
  )
def F_Md_operator_J31 (v1 : Int32) (v2 : Int32) : fx_M Int32 :=
  F_Md_operator_J32 v1 v2 0
def F_Md_operator_J15 (v1 : Int32) (t0 : Int32) : fx_M Int32 :=
  fx_bnd (F_Md_isDue) fun x2 =>
  if x2 = 0 then (
    F_Md_operator_J31 v1 t0
  ) else (
    if v1 = 0 then (
      F_Md_operator_J32 v1 t0 1
    ) else (
      F_Md_operator_J31 v1 t0
    )
  )
def F_Md_operator (v1 : Int32) : fx_M Int32 :=
  fx_bnd g_Md_count fun x1 =>
  if 200 ≤ x1 then (
    F_Md_operator_J15 v1 0
  ) else (
    F_Md_operator_J15 v1 1
  )
def F_Md_open_J57 (t0 : Int32) : fx_M Int32 :=
  fx_bnd (F_Md_isGood t0) fun x2 =>
  if x2 = 0 then (
    fx_ret 0
  ) else (
    fx_bnd g_Md_opened fun x3 =>
    fx_bnd g_Md_count fun x4 =>
    fx_bnd (s_Md_openAt x3 x4) fun _ =>
    fx_bnd g_Md_opened fun x5 =>
    fx_bnd (p_Md_opened (x5 + 1)) fun _ =>
    fx_bnd (F_Md_add 3 (-1) 0) fun x6 =>
    fx_ret x6
  )
def F_Md_open_J46 (t0 : Int32) : fx_M Int32 :=
  if t0 = 0 then (
    F_Md_open_J57 1
  ) else (
    F_Md_open_J57 0
  )
def F_Md_open_J45 : fx_M Int32 :=
  F_Md_open_J46 0
def F_Md_open_J41 : fx_M Int32 :=
  F_Md_open_J46 1
def F_Md_open : fx_M Int32 :=
  fx_bnd (F_Md_isDue) fun x1 =>
  if x1 = 0 then (
    F_Md_open_J45
  ) else (
    fx_bnd g_Md_count fun x7 =>
    if 200 ≤ x7 then (
      F_Md_open_J45
    ) else (
      fx_bnd g_Md_opened fun x8 =>
      if 40 ≤ x8 then (
        F_Md_open_J45
      ) else (
        fx_bnd g_Md_isPattern fun x9 =>
        if x9 = 0 then (
          F_Md_open_J41
        ) else (
          fx_bnd (F_Md_lastKind) fun x10 =>
          if x10 = 2 then (
            F_Md_open_J45
          ) else (
            F_Md_open_J41
          )
        )
      )
    )
  )
def F_Md_begins (v1 : Int32) : fx_M Int32 :=
  fx_bnd (l_Md_kinds v1) fun x1 =>
  if x1 = 1 then (
    if v1 ≤ 0 then (
      fx_retz 0
    ) else (
      fx_bnd (l_Md_kinds (v1 - 1)) fun x2 =>
      if x2 = 3 then (
        fx_retz 1
      ) else (
        fx_retz 0
      )
    )
  ) else (
    fx_retz 0
  )
def F_Md_close_J87 (t0 : Int32) : fx_M Int32 :=
  fx_bnd (F_Md_isGood t0) fun x2 =>
  if x2 = 0 then (
    fx_ret 0
  ) else (
    fx_bnd g_Md_opened fun x3 =>
    fx_bnd (p_Md_opened (x3 - 1)) fun _ =>
    fx_bnd (F_Md_add 4 (-1) 0) fun x4 =>
    fx_ret x4
  )
def F_Md_close_J77 (v1 : Int32) : fx_M Int32 :=
  if v1 = 0 then (
    F_Md_close_J87 1
  ) else (
    F_Md_close_J87 0
  )
def F_Md_close_J76 (t0 : Int32) : fx_M Int32 :=
  F_Md_close_J77 t0
def F_Md_close_J75 : fx_M Int32 :=
  F_Md_close_J76 0
def F_Md_close_J22 (t0 : Int32) : fx_M Int32 :=
  if t0 = 0 then (
    F_Md_close_J77 t0
  ) else (
    fx_bnd (F_Md_isDue) fun x5 =>
    if x5 = 0 then (
      F_Md_close_J77 t0
    ) else (
      fx_bnd g_Md_opened fun x6 =>
      fx_bnd (l_Md_openAt (x6 - 1)) fun x7 =>
      fx_bnd (fx_pur (x7 + 1)) fun x8 =>
      fx_bnd g_Md_isPattern fun x9 =>
      if x9 = 0 then (
        fx_bnd (F_Md_lastKind) fun x10 =>
        if x10 = 1 then (
          fx_bnd (F_Md_begins x8) fun x11 =>
          if x11 = 0 then (
            F_Md_close_J76 1
          ) else (
            F_Md_close_J75
          )
        ) else (
          F_Md_close_J75
        )
      ) else (
        F_Md_close_J75
      )
    )
  )
def F_Md_close_J21 : fx_M Int32 :=
  F_Md_close_J22 0
def F_Md_close : fx_M Int32 :=
  fx_bnd g_Md_count fun x1 =>
  if 200 ≤ x1 then (
    F_Md_close_J21
  ) else (
    fx_bnd g_Md_opened fun x12 =>
    if x12 ≤ 0 then (
      F_Md_close_J21
    ) else (
      F_Md_close_J22 1
    )
  )
def F_Md_whyNot (v1 : Int32) : fx_M Int32 :=
  fx_bnd (F_Md_isScope v1) fun x1 =>
  if x1 = 0 then (
    fx_ret 1
  ) else (
    fx_bnd (F_Md_isDue) fun x2 =>
    if x2 = 0 then (
      fx_bnd g_Md_opened fun x3 =>
      if x3 ≤ 0 then (
        fx_ret 0
      ) else (
        fx_ret 2
      )
    ) else (
      fx_ret 2
    )
  )
def F_Md_learn_J91 (k4 : Int32 → Int32 → fx_M Unit) (v1 : Int32) (v2 : Int32) : fx_M Unit :=
  fx_bnd (fx_pur (v2 + 1)) fun x5 =>
  k4 v1 x5
def F_Md_learn_J70 (k4 : Int32 → Int32 → fx_M Unit) (v1 : Int32) (v2 : Int32) (t0 : Int32) (t1 : Int32) : fx_M Unit :=
  fx_bnd (s_Md_group t1 t0) fun _ =>
  fx_bnd (l_Md_kinds v2) fun x4 =>
  if x4 = 3 then (
    fx_bnd (s_Md_pile v1 v2) fun _ =>
    fx_bnd (fx_pur (v1 + 1)) fun x6 =>
    F_Md_learn_J91 k4 x6 v2
  ) else (
    F_Md_learn_J91 k4 v1 v2
  )
def F_Md_learn_J49 (k4 : Int32 → Int32 → fx_M Unit) (v1 : Int32) (v2 : Int32) : fx_M Unit :=
  if v1 = 0 then (
    F_Md_learn_J70 k4 v1 v2 (-1) v2
  ) else (
    fx_bnd (l_Md_pile (v1 - 1)) fun x3 =>
    F_Md_learn_J70 k4 v1 v2 x3 v2
  )
def F_Md_learn_B4 (k4 : Int32 → Int32 → fx_M Unit) (v1 : Int32) (v2 : Int32) : fx_M Unit :=
  fx_bnd g_Md_count fun x1 =>
  if x1 ≤ v2 then (
    fx_ret ()
  ) else (
    fx_bnd (l_Md_kinds v2) fun x2 =>
    if x2 = 4 then (
      fx_bnd (fx_pur (v1 + (-1))) fun x7 =>
      fx_bnd (l_Md_pile x7) fun x8 =>
      fx_bnd (s_Md_match x8 v2) fun _ =>
      fx_bnd (l_Md_pile x7) fun x9 =>
      fx_bnd (s_Md_match v2 x9) fun _ =>
      F_Md_learn_J49 k4 x7 v2
    ) else (
      F_Md_learn_J49 k4 v1 v2
    )
  )
def F_Md_learn : fx_M Unit :=
  fx_loop2 (F_Md_learn_B4) fx_fuel 0 0
def F_Md_newest_J27 (k4 : Int32 → Int32 → fx_M Int32) (v1 : Int32) (v3 : Int32) : fx_M Int32 :=
  fx_bnd (fx_pur (v3 + (-1))) fun x3 =>
  k4 v1 x3
def F_Md_newest_B4 (k4 : Int32 → Int32 → fx_M Int32) (v1 : Int32) (v3 : Int32) : fx_M Int32 :=
  if v3 < 0 then (
    fx_ret v3
  ) else (
    fx_bnd (l_Md_waits v3) fun x2 =>
    if x2 = 0 then (
      F_Md_newest_J27 k4 v1 v3
    ) else (
      fx_bnd (l_Md_group v3) fun x4 =>
      if x4 = v1 then (
        fx_ret v3
      ) else (
        F_Md_newest_J27 k4 v1 v3
      )
    )
  )
def F_Md_newest (v1 : Int32) (v2 : Int32) : fx_M Int32 :=
  fx_bnd (fx_pur (v2 - 1)) fun x1 =>
  fx_loop2 (F_Md_newest_B4) fx_fuel v1 x1
def F_Md_clashes (v1 : Int32) (v2 : Int32) (v3 : Int32) : fx_M Unit :=
  fx_bnd (p_Md_foundKind v1) fun _ =>
  fx_bnd (p_Md_foundFirst v2) fun _ =>
  fx_bnd (p_Md_foundSecond v3) fun _ =>
  fx_ret ()
def F_Md_closes_J81 (k47 : Int32 → Int32 → Int32 → fx_M Unit) (v1 : Int32) (v2 : Int32) (v3 : Int32) (t0 : Int32) (t1 : Int32) : fx_M Unit :=
  fx_bnd (s_Md_waits t1 t0) fun _ =>
  fx_bnd (fx_pur (v3 + 1)) fun x5 =>
  k47 v1 v2 x5
def F_Md_closes_J80 (k47 : Int32 → Int32 → Int32 → fx_M Unit) (v1 : Int32) (v2 : Int32) (v3 : Int32) (t0 : Int32) : fx_M Unit :=
  F_Md_closes_J81 k47 v1 v2 v3 0 t0
def F_Md_closes_B47 (k47 : Int32 → Int32 → Int32 → fx_M Unit) (v1 : Int32) (v2 : Int32) (v3 : Int32) : fx_M Unit :=
  if v1 ≤ v3 then (
    fx_ret ()
  ) else (
    fx_bnd (l_Md_waits v3) fun x4 =>
    if x4 = 0 then (
      F_Md_closes_J80 k47 v1 v2 v3 v3
    ) else (
      fx_bnd (l_Md_group v3) fun x6 =>
      if x6 = v2 then (
        F_Md_closes_J80 k47 v1 v2 v3 v3
      ) else (
        F_Md_closes_J81 k47 v1 v2 v3 1 v3
      )
    )
  )
def F_Md_closes_J43 (v1 : Int32) (v2 : Int32) : fx_M Unit :=
  fx_bnd (fx_pur (v2 + 1)) fun x3 =>
  fx_loop3 (F_Md_closes_B47) fx_fuel v1 v2 x3
def F_Md_closes (v1 : Int32) : fx_M Unit :=
  fx_bnd (l_Md_match v1) fun x1 =>
  fx_bnd (l_Md_kinds (v1 - 1)) fun x2 =>
  if x2 = 1 then (
    fx_bnd (F_Md_newest x1 (v1 - 1)) fun x7 =>
    if x7 = (-1) then (
      F_Md_closes_J43 v1 x1
    ) else (
      fx_bnd (F_Md_clashes 3 x7 (v1 - 1)) fun _ =>
      fx_ret ()
    )
  ) else (
    F_Md_closes_J43 v1 x1
  )
def F_Md_comes_J214 (k51 : Int32 → Int32 → Int32 → Int32 → Int32 → Int32 → fx_M Unit) (v1 : Int32) (v2 : Int32) (v3 : Int32) (v4 : Int32) (v5 : Int32) (v6 : Int32) : fx_M Unit :=
  k51 v1 v2 v3 v4 v5 v6
def F_Md_comes_J179 (k51 : Int32 → Int32 → Int32 → Int32 → Int32 → Int32 → fx_M Unit) (v1 : Int32) (v2 : Int32) (v3 : Int32) (v4 : Int32) (v5 : Int32) (t0 : Int32) : fx_M Unit :=
  F_Md_comes_J214 k51 v1 v2 v3 v4 v5 t0
def F_Md_comes_J129 (k51 : Int32 → Int32 → Int32 → Int32 → Int32 → Int32 → fx_M Unit) (v1 : Int32) (v2 : Int32) (v3 : Int32) (v4 : Int32) (v5 : Int32) : fx_M Unit :=
  fx_bnd (F_Md_begins v5) fun x11 =>
  if x11 = 0 then (
    fx_bnd (s_Md_waits v5 0) fun _ =>
    fx_bnd (l_Md_group v2) fun x12 =>
    fx_bnd (F_Md_newest x12 v2) fun x13 =>
    if x13 = (-1) then (
      F_Md_comes_J179 k51 v1 v2 v3 v4 x13 0
    ) else (
      F_Md_comes_J179 k51 v1 v2 v3 v4 x13 1
    )
  ) else (
    fx_bnd (F_Md_clashes 3 v5 v2) fun _ =>
    fx_ret ()
  )
def F_Md_comes_J211 (k51 : Int32 → Int32 → Int32 → Int32 → Int32 → Int32 → fx_M Unit) (v1 : Int32) (v2 : Int32) (v3 : Int32) (v4 : Int32) (v5 : Int32) : fx_M Unit :=
  F_Md_comes_J214 k51 v1 v2 v3 v4 v5 0
def F_Md_comes_J184 (k51 : Int32 → Int32 → Int32 → Int32 → Int32 → Int32 → fx_M Unit) (v1 : Int32) (v2 : Int32) (v3 : Int32) (v4 : Int32) (v5 : Int32) : fx_M Unit :=
  fx_bnd g_Md_isPattern fun x14 =>
  if x14 = 0 then (
    F_Md_comes_J211 k51 v1 v2 v3 v4 v5
  ) else (
    fx_bnd (l_Md_kinds v5) fun x15 =>
    if x15 = 2 then (
      fx_bnd (F_Md_clashes 4 v5 v2) fun _ =>
      fx_ret ()
    ) else (
      F_Md_comes_J211 k51 v1 v2 v3 v4 v5
    )
  )
def F_Md_comes_J112 (k51 : Int32 → Int32 → Int32 → Int32 → Int32 → Int32 → fx_M Unit) (v1 : Int32) (v2 : Int32) (v3 : Int32) (v4 : Int32) (v5 : Int32) (v7 : Int32) : fx_M Unit :=
  if v3 < v7 then (
    F_Md_comes_J129 k51 v1 v2 v3 v4 v5
  ) else (
    if v7 = v3 then (
      if v4 = 0 then (
        F_Md_comes_J129 k51 v1 v2 v3 v4 v5
      ) else (
        F_Md_comes_J184 k51 v1 v2 v3 v4 v5
      )
    ) else (
      F_Md_comes_J184 k51 v1 v2 v3 v4 v5
    )
  )
def F_Md_comes_J103 (v2 : Int32) (v5 : Int32) : fx_M Unit :=
  fx_bnd (F_Md_clashes 1 v5 v2) fun _ =>
  fx_ret ()
def F_Md_comes_B51 (k51 : Int32 → Int32 → Int32 → Int32 → Int32 → Int32 → fx_M Unit) (v1 : Int32) (v2 : Int32) (v3 : Int32) (v4 : Int32) (v5 : Int32) (v6 : Int32) : fx_M Unit :=
  if v6 = 0 then (
    fx_bnd (s_Md_waits v2 1) fun _ =>
    fx_ret ()
  ) else (
    fx_bnd (l_Md_operators v5) fun x7 =>
    fx_bnd (F_Md_rankOf v1 x7) fun x8 =>
    fx_bnd (l_Md_operators v5) fun x9 =>
    fx_bnd (F_Md_sideOf v1 x9) fun x10 =>
    if x8 = v3 then (
      if x10 = v4 then (
        if v4 ≤ 1 then (
          F_Md_comes_J112 k51 v1 v2 v3 v4 v5 x8
        ) else (
          F_Md_comes_J103 v2 v5
        )
      ) else (
        F_Md_comes_J103 v2 v5
      )
    ) else (
      F_Md_comes_J112 k51 v1 v2 v3 v4 v5 x8
    )
  )
def F_Md_comes_J49 (v1 : Int32) (v2 : Int32) (v3 : Int32) (v4 : Int32) (v5 : Int32) (t0 : Int32) : fx_M Unit :=
  fx_loop6 (F_Md_comes_B51) fx_fuel v1 v2 v3 v4 v5 t0
def F_Md_comes (v1 : Int32) (v2 : Int32) : fx_M Unit :=
  fx_bnd (l_Md_operators v2) fun x1 =>
  fx_bnd (F_Md_rankOf v1 x1) fun x2 =>
  fx_bnd (l_Md_operators v2) fun x3 =>
  fx_bnd (F_Md_sideOf v1 x3) fun x4 =>
  fx_bnd (l_Md_group v2) fun x5 =>
  fx_bnd (F_Md_newest x5 v2) fun x6 =>
  if x6 = (-1) then (
    F_Md_comes_J49 v1 v2 x2 x4 x6 0
  ) else (
    F_Md_comes_J49 v1 v2 x2 x4 x6 1
  )
def F_Md_negates_J43 (v2 : Int32) : fx_M Unit :=
  fx_bnd (s_Md_waits v2 1) fun _ =>
  fx_ret ()
def F_Md_negates (v1 : Int32) (v2 : Int32) : fx_M Unit :=
  fx_bnd (l_Md_group v2) fun x1 =>
  fx_bnd (F_Md_newest x1 v2) fun x2 =>
  if x2 = (-1) then (
    F_Md_negates_J43 v2
  ) else (
    fx_bnd (l_Md_operators x2) fun x3 =>
    fx_bnd (F_Md_rankOf v1 x3) fun x4 =>
    if x4 < 6 then (
      F_Md_negates_J43 v2
    ) else (
      fx_bnd (F_Md_clashes 2 x2 v2) fun _ =>
      fx_ret ()
    )
  )
def F_Md_goThrough_J163 : fx_M Int32 :=
  fx_bnd g_Md_foundKind fun x2 =>
  if x2 = (-1) then (
    fx_retz 1
  ) else (
    fx_retz 0
  )
def F_Md_goThrough_J154 (k26 : Int32 → Int32 → fx_M Int32) (v1 : Int32) (v2 : Int32) (t0 : Int32) : fx_M Int32 :=
  fx_bnd (p_Md_foundMost t0) fun _ =>
  fx_bnd (fx_pur (v2 + 1)) fun x9 =>
  k26 v1 x9
def F_Md_goThrough_J129 (k26 : Int32 → Int32 → fx_M Int32) (k107 : Int32 → Int32 → Int32 → Int32 → fx_M Int32) (v1 : Int32) (v2 : Int32) (v4 : Int32) (t0 : Int32) (t1 : Int32) : fx_M Int32 :=
  fx_bnd (fx_pur (t1 + t0)) fun x11 =>
  fx_bnd (fx_pur (v4 + 1)) fun x12 =>
  k107 v1 v2 x11 x12
def F_Md_goThrough_B107 (k26 : Int32 → Int32 → fx_M Int32) (k107 : Int32 → Int32 → Int32 → Int32 → fx_M Int32) (v1 : Int32) (v2 : Int32) (v3 : Int32) (v4 : Int32) : fx_M Int32 :=
  if v2 < v4 then (
    fx_bnd g_Md_foundMost fun x7 =>
    if v3 ≤ x7 then (
      fx_bnd g_Md_foundMost fun x8 =>
      F_Md_goThrough_J154 k26 v1 v2 x8
    ) else (
      F_Md_goThrough_J154 k26 v1 v2 v3
    )
  ) else (
    fx_bnd (l_Md_waits v4) fun x10 =>
    if x10 = 0 then (
      F_Md_goThrough_J129 k26 k107 v1 v2 v4 0 v3
    ) else (
      F_Md_goThrough_J129 k26 k107 v1 v2 v4 1 v3
    )
  )
def F_Md_goThrough_J102 (k26 : Int32 → Int32 → fx_M Int32) (v1 : Int32) (v2 : Int32) : fx_M Int32 :=
  fx_loop4 (F_Md_goThrough_B107 k26) fx_fuel v1 v2 0 0
def F_Md_goThrough_B26 (k26 : Int32 → Int32 → fx_M Int32) (v1 : Int32) (v2 : Int32) : fx_M Int32 :=
  fx_bnd g_Md_count fun x1 =>
  if x1 ≤ v2 then (
    F_Md_goThrough_J163
  ) else (
    fx_bnd g_Md_foundKind fun x3 =>
    if x3 = (-1) then (
      fx_bnd (s_Md_waits v2 0) fun _ =>
      fx_bnd (l_Md_kinds v2) fun x4 =>
      if x4 = 2 then (
        fx_bnd (F_Md_negates v1 v2) fun _ =>
        F_Md_goThrough_J102 k26 v1 v2
      ) else (
        fx_bnd (l_Md_kinds v2) fun x5 =>
        if x5 = 1 then (
          fx_bnd (F_Md_comes v1 v2) fun _ =>
          F_Md_goThrough_J102 k26 v1 v2
        ) else (
          fx_bnd (l_Md_kinds v2) fun x6 =>
          if x6 = 4 then (
            fx_bnd (F_Md_closes v2) fun _ =>
            F_Md_goThrough_J102 k26 v1 v2
          ) else (
            F_Md_goThrough_J102 k26 v1 v2
          )
        )
      )
    ) else (
      F_Md_goThrough_J163
    )
  )
def F_Md_goThrough (v1 : Int32) : fx_M Int32 :=
  fx_bnd (F_Md_learn) fun _ =>
  fx_bnd (p_Md_foundKind (-1)) fun _ =>
  fx_bnd (p_Md_foundFirst (-1)) fun _ =>
  fx_bnd (p_Md_foundSecond (-1)) fun _ =>
  fx_bnd (p_Md_foundMost 0) fun _ =>
  fx_loop2 (F_Md_goThrough_B26) fx_fuel v1 0
def F_Md_part (v1 : Int32) (v2 : Int32) (v3 : Int32) (v4 : Int32) : fx_M Unit :=
  fx_bnd g_Md_parts fun x1 =>
  fx_bnd (s_Md_partFrom x1 v1) fun _ =>
  fx_bnd g_Md_parts fun x2 =>
  fx_bnd (s_Md_partTo x2 v2) fun _ =>
  fx_bnd g_Md_parts fun x3 =>
  fx_bnd (s_Md_partParent x3 v3) fun _ =>
  fx_bnd g_Md_parts fun x4 =>
  fx_bnd (s_Md_partSide x4 v4) fun _ =>
  fx_bnd g_Md_parts fun x5 =>
  fx_bnd (p_Md_parts (x5 + 1)) fun _ =>
  fx_ret ()
def F_Md_loosest_J100 (k10 : Int32 → Int32 → Int32 → Int32 → Int32 → fx_M Int32) (v1 : Int32) (v3 : Int32) (v4 : Int32) (v5 : Int32) (v6 : Int32) : fx_M Int32 :=
  fx_bnd (fx_pur (v6 + 1)) fun x3 =>
  k10 v1 v3 v4 v5 x3
def F_Md_loosest_J92 (k10 : Int32 → Int32 → Int32 → Int32 → Int32 → fx_M Int32) (v1 : Int32) (v3 : Int32) (v6 : Int32) (v7 : Int32) : fx_M Int32 :=
  F_Md_loosest_J100 k10 v1 v3 v6 v7 v6
def F_Md_loosest_B10 (k10 : Int32 → Int32 → Int32 → Int32 → Int32 → fx_M Int32) (v1 : Int32) (v3 : Int32) (v4 : Int32) (v5 : Int32) (v6 : Int32) : fx_M Int32 :=
  if v3 < v6 then (
    fx_ret v4
  ) else (
    fx_bnd (l_Md_kinds v6) fun x1 =>
    if x1 = 3 then (
      fx_bnd (l_Md_match v6) fun x8 =>
      F_Md_loosest_J100 k10 v1 v3 v4 v5 x8
    ) else (
      fx_bnd (l_Md_kinds v6) fun x2 =>
      if x2 = 0 then (
        F_Md_loosest_J100 k10 v1 v3 v4 v5 v6
      ) else (
        fx_bnd (l_Md_operators v6) fun x4 =>
        fx_bnd (F_Md_rankOf v1 x4) fun x5 =>
        if x5 < v5 then (
          F_Md_loosest_J92 k10 v1 v3 v6 x5
        ) else (
          if x5 = v5 then (
            fx_bnd (l_Md_operators v6) fun x6 =>
            fx_bnd (F_Md_sideOf v1 x6) fun x7 =>
            if x7 = 0 then (
              F_Md_loosest_J92 k10 v1 v3 v6 x5
            ) else (
              F_Md_loosest_J100 k10 v1 v3 v4 v5 v6
            )
          ) else (
            F_Md_loosest_J100 k10 v1 v3 v4 v5 v6
          )
        )
      )
    )
  )
def F_Md_loosest (v1 : Int32) (v2 : Int32) (v3 : Int32) : fx_M Int32 :=
  fx_loop5 (F_Md_loosest_B10) fx_fuel v1 v3 (-1) 10 v2
def F_Md_tell (v1 : Int32) (v2 : Int32) (v3 : Int32) : fx_M Unit :=
  fx_bnd (s_Md_nodeKind v1 v2) fun _ =>
  fx_bnd (s_Md_nodePlace v1 v3) fun _ =>
  fx_bnd (l_Md_operators v3) fun x1 =>
  fx_bnd (s_Md_nodeOperator v1 x1) fun _ =>
  fx_bnd (l_Md_numbers v3) fun x2 =>
  fx_bnd (s_Md_nodeNumber v1 x2) fun _ =>
  fx_ret ()
def F_Md_root_J199 (v1 : Int32) (v2 : Int32) (v3 : Int32) (v6 : Int32) (v7 : Int32) : fx_M Unit :=
  fx_bnd (F_Md_loosest v1 v6 v7) fun x4 =>
  fx_bnd (l_Md_kinds x4) fun x5 =>
  fx_bnd (F_Md_tell (v2 + v3) x5 x4) fun _ =>
  fx_bnd (l_Md_kinds x4) fun x6 =>
  if x6 = 1 then (
    fx_bnd (F_Md_part (x4 + 1) v7 v3 1) fun _ =>
    fx_bnd (F_Md_part v6 (x4 - 1) v3 0) fun _ =>
    fx_ret ()
  ) else (
    fx_bnd (F_Md_part (x4 + 1) v7 v3 0) fun _ =>
    fx_ret ()
  )
def F_Md_root_J147 (v1 : Int32) (v2 : Int32) (v3 : Int32) (v6 : Int32) (v7 : Int32) : fx_M Unit :=
  fx_bnd (l_Md_kinds v6) fun x3 =>
  if x3 = 3 then (
    fx_bnd (l_Md_match v6) fun x7 =>
    if x7 = v7 then (
      fx_bnd (F_Md_tell (v2 + v3) 3 (v7 - 1)) fun _ =>
      fx_bnd (F_Md_part (v6 + 1) (v7 - 2) v3 0) fun _ =>
      fx_ret ()
    ) else (
      F_Md_root_J199 v1 v2 v3 v6 v7
    )
  ) else (
    F_Md_root_J199 v1 v2 v3 v6 v7
  )
def F_Md_root_J64 (v1 : Int32) (v2 : Int32) (v3 : Int32) (v6 : Int32) (v7 : Int32) : fx_M Unit :=
  if v6 = v7 then (
    fx_bnd (F_Md_tell (v2 + v3) 0 v6) fun _ =>
    fx_ret ()
  ) else (
    fx_bnd (l_Md_kinds v6) fun x2 =>
    if x2 = 3 then (
      fx_bnd (l_Md_match v6) fun x8 =>
      if x8 = v7 then (
        fx_bnd (F_Md_begins (v6 + 1)) fun x9 =>
        if x9 = 0 then (
          F_Md_root_J147 v1 v2 v3 v6 v7
        ) else (
          fx_bnd (F_Md_tell (v2 + v3) 4 (v6 + 1)) fun _ =>
          fx_bnd (F_Md_part (v6 + 2) (v7 - 1) v3 0) fun _ =>
          fx_ret ()
        )
      ) else (
        F_Md_root_J147 v1 v2 v3 v6 v7
      )
    ) else (
      F_Md_root_J147 v1 v2 v3 v6 v7
    )
  )
def F_Md_root_B8 (k8 : Int32 → Int32 → Int32 → Int32 → Int32 → fx_M Unit) (v1 : Int32) (v2 : Int32) (v3 : Int32) (v6 : Int32) (v7 : Int32) : fx_M Unit :=
  fx_bnd (l_Md_kinds v6) fun x1 =>
  if x1 = 3 then (
    fx_bnd (l_Md_match v6) fun x10 =>
    if x10 = v7 then (
      fx_bnd (F_Md_begins (v6 + 1)) fun x11 =>
      if x11 = 0 then (
        fx_bnd (l_Md_kinds (v7 - 1)) fun x12 =>
        if x12 = 1 then (
          F_Md_root_J64 v1 v2 v3 v6 v7
        ) else (
          fx_bnd (fx_pur (v6 + 1)) fun x13 =>
          fx_bnd (fx_pur (v7 + (-1))) fun x14 =>
          k8 v1 v2 v3 x13 x14
        )
      ) else (
        F_Md_root_J64 v1 v2 v3 v6 v7
      )
    ) else (
      F_Md_root_J64 v1 v2 v3 v6 v7
    )
  ) else (
    F_Md_root_J64 v1 v2 v3 v6 v7
  )
def F_Md_root (v1 : Int32) (v2 : Int32) (v3 : Int32) (v4 : Int32) (v5 : Int32) : fx_M Unit :=
  fx_loop5 (F_Md_root_B8) fx_fuel v1 v2 v3 v4 v5
def F_Md_grow_J168 (k20 : Int32 → Int32 → Int32 → fx_M Int32) (v1 : Int32) (v2 : Int32) (v3 : Int32) (v4 : Int32) (v5 : Int32) : fx_M Int32 :=
  fx_bnd (F_Md_root v1 v2 v3 v4 v5) fun _ =>
  fx_bnd (fx_pur (v3 + 1)) fun x13 =>
  k20 v1 v2 x13
def F_Md_grow_J152 (k20 : Int32 → Int32 → Int32 → fx_M Int32) (v1 : Int32) (v2 : Int32) (v3 : Int32) (v4 : Int32) (v5 : Int32) (v6 : Int32) : fx_M Int32 :=
  if v6 = (-1) then (
    F_Md_grow_J168 k20 v1 v2 v3 v4 v5
  ) else (
    fx_bnd (s_Md_nodeSecond (v2 + v6) v3) fun _ =>
    F_Md_grow_J168 k20 v1 v2 v3 v4 v5
  )
def F_Md_grow_J127 (k20 : Int32 → Int32 → Int32 → fx_M Int32) (v1 : Int32) (v2 : Int32) (v3 : Int32) (v4 : Int32) (v5 : Int32) (v6 : Int32) (v7 : Int32) (t0 : Int32) (t1 : Int32) : fx_M Int32 :=
  fx_bnd (s_Md_nodeDeep t1 t0) fun _ =>
  if v6 = (-1) then (
    F_Md_grow_J152 k20 v1 v2 v3 v4 v5 v6
  ) else (
    if v7 = 0 then (
      fx_bnd (s_Md_nodeFirst (v2 + v6) v3) fun _ =>
      F_Md_grow_J168 k20 v1 v2 v3 v4 v5
    ) else (
      F_Md_grow_J152 k20 v1 v2 v3 v4 v5 v6
    )
  )
def F_Md_grow_B20 (k20 : Int32 → Int32 → Int32 → fx_M Int32) (v1 : Int32) (v2 : Int32) (v3 : Int32) : fx_M Int32 :=
  fx_bnd g_Md_parts fun x2 =>
  if x2 ≤ 0 then (
    fx_ret v3
  ) else (
    fx_bnd g_Md_parts fun x3 =>
    fx_bnd (p_Md_parts (x3 - 1)) fun _ =>
    fx_bnd g_Md_parts fun x4 =>
    fx_bnd (l_Md_partFrom x4) fun x5 =>
    fx_bnd g_Md_parts fun x6 =>
    fx_bnd (l_Md_partTo x6) fun x7 =>
    fx_bnd g_Md_parts fun x8 =>
    fx_bnd (l_Md_partParent x8) fun x9 =>
    fx_bnd g_Md_parts fun x10 =>
    fx_bnd (l_Md_partSide x10) fun x11 =>
    fx_bnd (s_Md_nodeFirst (v2 + v3) (-1)) fun _ =>
    fx_bnd (s_Md_nodeSecond (v2 + v3) (-1)) fun _ =>
    if x9 = (-1) then (
      F_Md_grow_J127 k20 v1 v2 v3 x5 x7 x9 x11 1 (v2 + v3)
    ) else (
      fx_bnd (l_Md_nodeDeep (v2 + x9)) fun x12 =>
      F_Md_grow_J127 k20 v1 v2 v3 x5 x7 x9 x11 (x12 + 1) (v2 + v3)
    )
  )
def F_Md_grow (v1 : Int32) (v2 : Int32) : fx_M Int32 :=
  fx_bnd (p_Md_parts 0) fun _ =>
  fx_bnd g_Md_count fun x1 =>
  fx_bnd (F_Md_part 0 (x1 - 1) (-1) 0) fun _ =>
  fx_loop3 (F_Md_grow_B20) fx_fuel v1 v2 0
def F_Md_resolve_J115 (k80 : Int32 → fx_M Int32) (v3 : Int32) (t0 : Int32) : fx_M Int32 :=
  fx_bnd (p_Md_deepest t0) fun _ =>
  fx_bnd (fx_pur (v3 + 1)) fun x14 =>
  k80 x14
def F_Md_resolve_B80 (k80 : Int32 → fx_M Int32) (v3 : Int32) : fx_M Int32 :=
  fx_bnd g_Md_treeSize fun x9 =>
  if x9 ≤ v3 then (
    fx_bnd g_Md_treeSize fun x10 =>
    fx_ret x10
  ) else (
    fx_bnd (l_Md_nodeDeep v3) fun x11 =>
    fx_bnd g_Md_deepest fun x12 =>
    if x11 ≤ x12 then (
      fx_bnd g_Md_deepest fun x13 =>
      F_Md_resolve_J115 k80 v3 x13
    ) else (
      fx_bnd (l_Md_nodeDeep v3) fun x15 =>
      F_Md_resolve_J115 k80 v3 x15
    )
  )
def F_Md_resolve (v1 : Int32) : fx_M Int32 :=
  fx_bnd (F_Md_whyNot v1) fun x1 =>
  fx_bnd (F_Md_isGood x1) fun x2 =>
  if x2 = 0 then (
    fx_ret 0
  ) else (
    fx_bnd (F_Md_goThrough v1) fun x3 =>
    fx_bnd g_Md_foundKind fun x4 =>
    fx_bnd (p_Md_clashKind x4) fun _ =>
    fx_bnd g_Md_foundFirst fun x5 =>
    fx_bnd (p_Md_clashFirst x5) fun _ =>
    fx_bnd g_Md_foundSecond fun x6 =>
    fx_bnd (p_Md_clashSecond x6) fun _ =>
    if x3 = 0 then (
      fx_bnd (p_Md_treeSize 0) fun _ =>
      fx_ret (-1)
    ) else (
      fx_bnd g_Md_foundMost fun x7 =>
      fx_bnd (p_Md_mostWaiting x7) fun _ =>
      fx_bnd (F_Md_grow v1 0) fun x8 =>
      fx_bnd (p_Md_treeSize x8) fun _ =>
      fx_bnd (p_Md_deepest 0) fun _ =>
      fx_loop1 (F_Md_resolve_B80) fx_fuel 0
    )
  )
def F_Md_clash_J15 (v1 : Int32) (t0 : Int32) : fx_M Int32 :=
  fx_bnd (F_Md_isGood t0) fun x2 =>
  if x2 = 0 then (
    fx_ret 0
  ) else (
    if v1 = 0 then (
      fx_bnd g_Md_clashKind fun x5 =>
      fx_ret x5
    ) else (
      if v1 = 1 then (
        fx_bnd g_Md_clashFirst fun x4 =>
        fx_ret x4
      ) else (
        fx_bnd g_Md_clashSecond fun x3 =>
        fx_ret x3
      )
    )
  )
def F_Md_clash (v1 : Int32) : fx_M Int32 :=
  fx_bnd (F_Md_isIn v1 0 2) fun x1 =>
  if x1 = 0 then (
    F_Md_clash_J15 v1 1
  ) else (
    F_Md_clash_J15 v1 0
  )
def F_Md_node_J33 (v1 : Int32) (v2 : Int32) (t0 : Int32) : fx_M Int32 :=
  fx_bnd (F_Md_isGood t0) fun x4 =>
  if x4 = 0 then (
    fx_ret 0
  ) else (
    if v2 = 0 then (
      fx_bnd (l_Md_nodeKind v1) fun x5 =>
      fx_ret x5
    ) else (
    if v2 = 1 then (
      fx_bnd (l_Md_nodeOperator v1) fun x6 =>
      fx_ret x6
    ) else (
    if v2 = 2 then (
      fx_bnd (l_Md_nodeFirst v1) fun x7 =>
      fx_ret x7
    ) else (
    if v2 = 3 then (
      fx_bnd (l_Md_nodeSecond v1) fun x8 =>
      fx_ret x8
    ) else (
      fx_bnd (l_Md_nodePlace v1) fun x9 =>
      fx_ret x9
    ))))
  )
def F_Md_node (v1 : Int32) (v2 : Int32) : fx_M Int32 :=
  fx_bnd g_Md_treeSize fun x1 =>
  fx_bnd (F_Md_isIn v1 0 (x1 - 1)) fun x2 =>
  if x2 = 0 then (
    F_Md_node_J33 v1 v2 1
  ) else (
    fx_bnd (F_Md_isIn v2 0 4) fun x3 =>
    if x3 = 0 then (
      F_Md_node_J33 v1 v2 2
    ) else (
      F_Md_node_J33 v1 v2 0
    )
  )
def F_Md_number_J39 (v1 : Int32) (t0 : Int32) : fx_M Int64 :=
  fx_bnd (F_Md_isGood t0) fun x3 =>
  if x3 = 0 then (
    fx_ret 0
  ) else (
    fx_bnd (l_Md_nodeNumber v1) fun x4 =>
    fx_ret x4
  )
def F_Md_number_J28 (v1 : Int32) (t0 : Int32) : fx_M Int64 :=
  if t0 = 0 then (
    F_Md_number_J39 v1 1
  ) else (
    F_Md_number_J39 v1 0
  )
def F_Md_number_J27 (v1 : Int32) : fx_M Int64 :=
  F_Md_number_J28 v1 0
def F_Md_number (v1 : Int32) : fx_M Int64 :=
  fx_bnd g_Md_treeSize fun x1 =>
  fx_bnd (F_Md_isIn v1 0 (x1 - 1)) fun x2 =>
  if x2 = 0 then (
    F_Md_number_J27 v1
  ) else (
    fx_bnd (l_Md_nodeKind v1) fun x5 =>
    if x5 = 0 then (
      F_Md_number_J28 v1 1
    ) else (
      F_Md_number_J27 v1
    )
  )
def F_Md_due (v1 : Int32) (v2 : Int32) : fx_M Unit :=
  fx_bnd g_Md_dues fun x1 =>
  fx_bnd (s_Md_dueKind x1 v1) fun _ =>
  fx_bnd g_Md_dues fun x2 =>
  fx_bnd (s_Md_dueNode x2 v2) fun _ =>
  fx_bnd g_Md_dues fun x3 =>
  fx_bnd (p_Md_dues (x3 + 1)) fun _ =>
  fx_ret ()
def F_Md_put_J38 (v2 : Int32) (t0 : Int32) (t1 : Int32) : fx_M Unit :=
  fx_bnd (s_Md_wroteOperator t1 t0) fun _ =>
  fx_bnd g_Md_wrote fun x4 =>
  fx_bnd (s_Md_wroteNode x4 v2) fun _ =>
  fx_bnd g_Md_wrote fun x5 =>
  fx_bnd (l_Md_nodeNumber v2) fun x6 =>
  fx_bnd (s_Md_wroteNumber x5 x6) fun _ =>
  fx_bnd g_Md_wrote fun x7 =>
  fx_bnd (p_Md_wrote (x7 + 1)) fun _ =>
  fx_ret ()
def F_Md_put_J28 (v2 : Int32) (t0 : Int32) : fx_M Unit :=
  fx_bnd (l_Md_nodeOperator v2) fun x3 =>
  F_Md_put_J38 v2 x3 t0
def F_Md_put (v1 : Int32) (v2 : Int32) : fx_M Unit :=
  fx_bnd g_Md_wrote fun x1 =>
  fx_bnd (s_Md_wroteKind x1 v1) fun _ =>
  fx_bnd g_Md_wrote fun x2 =>
  if v1 = 1 then (
    F_Md_put_J28 v2 x2
  ) else (
    if v1 = 2 then (
      F_Md_put_J28 v2 x2
    ) else (
      F_Md_put_J38 v2 (-1) x2
    )
  )
def F_Md_fits_J22 (v1 : Int32) (v2 : Int32) (v3 : Int32) (v4 : Int32) : fx_M Int32 :=
  fx_bnd (l_Md_nodeOperator v2) fun x2 =>
  fx_bnd (F_Md_rankOf v1 x2) fun x3 =>
  fx_bnd (l_Md_nodeOperator v3) fun x4 =>
  fx_bnd (F_Md_rankOf v1 x4) fun x5 =>
  fx_bnd (l_Md_nodeOperator v3) fun x6 =>
  fx_bnd (F_Md_sideOf v1 x6) fun x7 =>
  if x3 < x5 then (
    fx_retz 1
  ) else (
    if x5 = x3 then (
      if x7 = v4 then (
        fx_bnd (l_Md_nodeOperator v2) fun x8 =>
        fx_bnd (F_Md_sideOf v1 x8) fun x9 =>
        if x9 = v4 then (
          fx_retz 1
        ) else (
          fx_retz 0
        )
      ) else (
        fx_retz 0
      )
    ) else (
      fx_retz 0
    )
  )
def F_Md_fits (v1 : Int32) (v2 : Int32) (v3 : Int32) (v4 : Int32) : fx_M Int32 :=
  fx_bnd (l_Md_nodeKind v3) fun x1 =>
  if x1 = 1 then (
    F_Md_fits_J22 v1 v2 v3 v4
  ) else (
    fx_bnd (l_Md_nodeKind v3) fun x10 =>
    if x10 = 2 then (
      F_Md_fits_J22 v1 v2 v3 v4
    ) else (
      fx_retz 1
    )
  )
def F_Md_dueChild_J20 (v3 : Int32) (t0 : Int32) : fx_M Unit :=
  fx_bnd (F_Md_due t0 v3) fun _ =>
  fx_ret ()
def F_Md_dueChild (v1 : Int32) (v2 : Int32) (v3 : Int32) (v4 : Int32) : fx_M Unit :=
  fx_bnd (F_Md_fits v1 v2 v3 v4) fun x1 =>
  if x1 = 0 then (
    F_Md_dueChild_J20 v3 11
  ) else (
    F_Md_dueChild_J20 v3 10
  )
def F_Md_spread_J16 (v1 : Int32) (v2 : Int32) : fx_M Unit :=
  fx_bnd (l_Md_nodeKind v2) fun x1 =>
  if x1 = 0 then (
    fx_bnd (F_Md_put 0 v2) fun _ =>
    fx_ret ()
  ) else (
  if x1 = 1 then (
    fx_bnd (l_Md_nodeSecond v2) fun x2 =>
    fx_bnd (F_Md_dueChild v1 v2 x2 1) fun _ =>
    fx_bnd (F_Md_due 1 v2) fun _ =>
    fx_bnd (l_Md_nodeFirst v2) fun x3 =>
    fx_bnd (F_Md_dueChild v1 v2 x3 0) fun _ =>
    fx_ret ()
  ) else (
  if x1 = 2 then (
    fx_bnd (F_Md_put 2 v2) fun _ =>
    fx_bnd (l_Md_nodeFirst v2) fun x4 =>
    fx_bnd (F_Md_dueChild v1 v2 x4 1) fun _ =>
    fx_ret ()
  ) else (
  if x1 = 3 then (
    fx_bnd (F_Md_due 1 v2) fun _ =>
    fx_bnd (l_Md_nodeFirst v2) fun x5 =>
    fx_bnd (F_Md_dueChild v1 v2 x5 0) fun _ =>
    fx_ret ()
  ) else (
    fx_bnd (F_Md_put 1 v2) fun _ =>
    fx_bnd (l_Md_nodeFirst v2) fun x6 =>
    fx_bnd (F_Md_dueChild v1 v2 x6 1) fun _ =>
    fx_ret ()
  ))))
def F_Md_spread (v1 : Int32) (v2 : Int32) (v3 : Int32) : fx_M Unit :=
  if v3 = 0 then (
    F_Md_spread_J16 v1 v2
  ) else (
    fx_bnd (F_Md_put 3 v2) fun _ =>
    fx_bnd (F_Md_due 4 v2) fun _ =>
    F_Md_spread_J16 v1 v2
  )
def F_Md_write_J134 (k55 : Int32 → fx_M Int32) (v1 : Int32) : fx_M Int32 :=
  k55 v1
def F_Md_write_J131 (k55 : Int32 → fx_M Int32) (v1 : Int32) (t0 : Int32) (t1 : Int32) (t2 : Int32) : fx_M Int32 :=
  fx_bnd (F_Md_spread t2 t1 t0) fun _ =>
  F_Md_write_J134 k55 v1
def F_Md_write_J126 (k55 : Int32 → fx_M Int32) (v1 : Int32) (t0 : Int32) (t1 : Int32) : fx_M Int32 :=
  F_Md_write_J131 k55 v1 1 t0 t1
def F_Md_write_B55 (k55 : Int32 → fx_M Int32) (v1 : Int32) : fx_M Int32 :=
  fx_bnd g_Md_dues fun x4 =>
  if x4 ≤ 0 then (
    fx_bnd g_Md_wrote fun x5 =>
    fx_ret x5
  ) else (
    fx_bnd g_Md_dues fun x6 =>
    fx_bnd (p_Md_dues (x6 - 1)) fun _ =>
    fx_bnd g_Md_dues fun x7 =>
    fx_bnd (l_Md_dueKind x7) fun x8 =>
    fx_bnd g_Md_dues fun x9 =>
    fx_bnd (l_Md_dueNode x9) fun x10 =>
    if 10 ≤ x8 then (
      if x8 = 11 then (
        F_Md_write_J126 k55 v1 x10 v1
      ) else (
        fx_bnd (l_Md_nodeKind x10) fun x11 =>
        if x11 < 3 then (
          F_Md_write_J131 k55 v1 0 x10 v1
        ) else (
          F_Md_write_J126 k55 v1 x10 v1
        )
      )
    ) else (
      fx_bnd (F_Md_put x8 x10) fun _ =>
      F_Md_write_J134 k55 v1
    )
  )
def F_Md_write_J25 (v1 : Int32) (t0 : Int32) : fx_M Int32 :=
  fx_bnd (F_Md_isGood t0) fun x3 =>
  if x3 = 0 then (
    fx_ret 0
  ) else (
    fx_bnd (p_Md_isWritten 1) fun _ =>
    fx_bnd (p_Md_wrote 0) fun _ =>
    fx_bnd (p_Md_dues 0) fun _ =>
    fx_bnd (F_Md_due 10 0) fun _ =>
    fx_loop1 (F_Md_write_B55) fx_fuel v1
  )
def F_Md_write (v1 : Int32) : fx_M Int32 :=
  fx_bnd (F_Md_isScope v1) fun x1 =>
  if x1 = 0 then (
    F_Md_write_J25 v1 1
  ) else (
    fx_bnd g_Md_treeSize fun x2 =>
    if x2 = 0 then (
      F_Md_write_J25 v1 2
    ) else (
      F_Md_write_J25 v1 0
    )
  )
def F_Md_written_J40 (v1 : Int32) (v2 : Int32) (t0 : Int32) : fx_M Int32 :=
  fx_bnd (F_Md_isGood t0) fun x2 =>
  if x2 = 0 then (
    fx_ret 0
  ) else (
    if v2 = 0 then (
      fx_bnd (l_Md_wroteKind v1) fun x5 =>
      fx_ret x5
    ) else (
      if v2 = 1 then (
        fx_bnd (l_Md_wroteOperator v1) fun x4 =>
        fx_ret x4
      ) else (
        fx_bnd (l_Md_wroteNode v1) fun x3 =>
        fx_ret x3
      )
    )
  )
def F_Md_written_J22 (v1 : Int32) (v2 : Int32) : fx_M Int32 :=
  F_Md_written_J40 v1 v2 1
def F_Md_written (v1 : Int32) (v2 : Int32) : fx_M Int32 :=
  fx_bnd g_Md_isWritten fun x1 =>
  if x1 = 0 then (
    F_Md_written_J22 v1 v2
  ) else (
    fx_bnd g_Md_wrote fun x6 =>
    fx_bnd (F_Md_isIn v1 0 (x6 - 1)) fun x7 =>
    if x7 = 0 then (
      F_Md_written_J22 v1 v2
    ) else (
      fx_bnd (F_Md_isIn v2 0 2) fun x8 =>
      if x8 = 0 then (
        F_Md_written_J40 v1 v2 2
      ) else (
        F_Md_written_J40 v1 v2 0
      )
    )
  )
def F_Md_take_B117 (k117 : Int32 → fx_M Int32) (v3 : Int32) : fx_M Int32 :=
  fx_bnd g_Md_wrote fun x4 =>
  if x4 ≤ v3 then (
    fx_bnd g_Md_count fun x5 =>
    fx_ret x5
  ) else (
    fx_bnd (l_Md_wroteKind v3) fun x6 =>
    fx_bnd (l_Md_wroteOperator v3) fun x7 =>
    fx_bnd (l_Md_wroteNumber v3) fun x8 =>
    fx_bnd (F_Md_add x6 x7 x8) fun x9 =>
    fx_bnd (fx_pur (v3 + 1)) fun x10 =>
    k117 x10
  )
def F_Md_take_J92 (t0 : Int32) : fx_M Int32 :=
  fx_bnd (F_Md_isGood t0) fun x3 =>
  if x3 = 0 then (
    fx_ret 0
  ) else (
    fx_bnd (p_Md_count 0) fun _ =>
    fx_bnd (p_Md_opened 0) fun _ =>
    fx_bnd (p_Md_isPattern 0) fun _ =>
    fx_loop1 (F_Md_take_B117) fx_fuel 0
  )
def F_Md_take_J87 : fx_M Int32 :=
  F_Md_take_J92 1
def F_Md_take_J56 (k6 : Int32 → Int32 → Int32 → fx_M Int32) (v1 : Int32) (v3 : Int32) (t0 : Int32) : fx_M Int32 :=
  fx_bnd (fx_pur (v3 + 1)) fun x15 =>
  k6 v1 t0 x15
def F_Md_take_J44 (k6 : Int32 → Int32 → Int32 → fx_M Int32) (v2 : Int32) (v3 : Int32) (t0 : Int32) (t1 : Int32) : fx_M Int32 :=
  fx_bnd (fx_pur (t1 + t0)) fun x14 =>
  if x14 ≤ v2 then (
    F_Md_take_J56 k6 x14 v3 v2
  ) else (
    F_Md_take_J56 k6 x14 v3 x14
  )
def F_Md_take_B6 (k6 : Int32 → Int32 → Int32 → fx_M Int32) (v1 : Int32) (v2 : Int32) (v3 : Int32) : fx_M Int32 :=
  fx_bnd g_Md_wrote fun x1 =>
  if x1 ≤ v3 then (
    fx_bnd g_Md_isWritten fun x2 =>
    if x2 = 0 then (
      F_Md_take_J87
    ) else (
      fx_bnd g_Md_wrote fun x11 =>
      if 200 < x11 then (
        F_Md_take_J87
      ) else (
        if v2 ≤ 40 then (
          F_Md_take_J92 0
        ) else (
          F_Md_take_J87
        )
      )
    )
  ) else (
    fx_bnd (l_Md_wroteKind v3) fun x12 =>
    if x12 = 3 then (
      F_Md_take_J44 k6 v2 v3 1 v1
    ) else (
      fx_bnd (l_Md_wroteKind v3) fun x13 =>
      if x13 = 4 then (
        F_Md_take_J44 k6 v2 v3 (-1) v1
      ) else (
        F_Md_take_J44 k6 v2 v3 0 v1
      )
    )
  )
def F_Md_take : fx_M Int32 :=
  fx_loop3 (F_Md_take_B6) fx_fuel 0 0 0
def F_Md_same_J209 (k77 : Int32 → Int32 → fx_M Int32) (v4 : Int32) (t0 : Int32) : fx_M Int32 :=
  fx_bnd (fx_pur (v4 + 1)) fun x12 =>
  k77 t0 x12
def F_Md_same_J208 (k77 : Int32 → Int32 → fx_M Int32) (v4 : Int32) : fx_M Int32 :=
  F_Md_same_J209 k77 v4 0
def F_Md_same_J204 (k77 : Int32 → Int32 → fx_M Int32) (v4 : Int32) : fx_M Int32 :=
  F_Md_same_J209 k77 v4 1
def F_Md_same_J171 (k77 : Int32 → Int32 → fx_M Int32) (v4 : Int32) (v5 : Int32) (t0 : Int32) : fx_M Int32 :=
  if t0 = 0 then (
    F_Md_same_J208 k77 v4
  ) else (
    fx_bnd (l_Md_nodeKind v4) fun x13 =>
    if x13 = 0 then (
      fx_bnd (l_Md_nodeNumber v4) fun x14 =>
      fx_bnd (l_Md_nodeNumber v5) fun x15 =>
      if (lg_cmp x14 x15) = 0 then (
        F_Md_same_J204 k77 v4
      ) else (
        F_Md_same_J208 k77 v4
      )
    ) else (
      F_Md_same_J204 k77 v4
    )
  )
def F_Md_same_J170 (k77 : Int32 → Int32 → fx_M Int32) (v4 : Int32) (v5 : Int32) : fx_M Int32 :=
  F_Md_same_J171 k77 v4 v5 0
def F_Md_same_B77 (k77 : Int32 → Int32 → fx_M Int32) (v3 : Int32) (v4 : Int32) : fx_M Int32 :=
  fx_bnd g_Md_treeSize fun x8 =>
  if x8 ≤ v4 then (
    fx_retz v3
  ) else (
    if v3 = 0 then (
      fx_retz v3
    ) else (
      fx_bnd (fx_pur (200 + v4)) fun x9 =>
      fx_bnd (l_Md_nodeKind v4) fun x10 =>
      fx_bnd (l_Md_nodeKind x9) fun x11 =>
      if x10 = x11 then (
        fx_bnd (l_Md_nodeOperator v4) fun x16 =>
        fx_bnd (l_Md_nodeOperator x9) fun x17 =>
        if x16 = x17 then (
          fx_bnd (l_Md_nodeFirst v4) fun x18 =>
          fx_bnd (l_Md_nodeFirst x9) fun x19 =>
          if x18 = x19 then (
            fx_bnd (l_Md_nodeSecond v4) fun x20 =>
            fx_bnd (l_Md_nodeSecond x9) fun x21 =>
            if x20 = x21 then (
              F_Md_same_J171 k77 v4 x9 1
            ) else (
              F_Md_same_J170 k77 v4 x9
            )
          ) else (
            F_Md_same_J170 k77 v4 x9
          )
        ) else (
          F_Md_same_J170 k77 v4 x9
        )
      ) else (
        F_Md_same_J170 k77 v4 x9
      )
    )
  )
def F_Md_same_J73 (t0 : Int32) : fx_M Int32 :=
  fx_loop2 (F_Md_same_B77) fx_fuel t0 0
def F_Md_same_J27 (v1 : Int32) (t0 : Int32) : fx_M Int32 :=
  fx_bnd (F_Md_isGood t0) fun x3 =>
  if x3 = 0 then (
    fx_retz 0
  ) else (
    fx_bnd (F_Md_goThrough v1) fun x4 =>
    if x4 = 0 then (
      fx_retz 0
    ) else (
      fx_bnd (F_Md_grow v1 200) fun x5 =>
      fx_bnd (p_Md_otherSize x5) fun _ =>
      fx_bnd g_Md_otherSize fun x6 =>
      fx_bnd g_Md_treeSize fun x7 =>
      if x6 = x7 then (
        F_Md_same_J73 1
      ) else (
        F_Md_same_J73 0
      )
    )
  )
def F_Md_same (v1 : Int32) : fx_M Int32 :=
  fx_bnd (F_Md_whyNot v1) fun x1 =>
  if x1 ≤ 0 then (
    fx_bnd g_Md_treeSize fun x2 =>
    if x2 = 0 then (
      F_Md_same_J27 v1 2
    ) else (
      F_Md_same_J27 v1 0
    )
  ) else (
    F_Md_same_J27 v1 x1
  )
def F_Md_told_J16 (v1 : Int32) (t0 : Int32) : fx_M Int32 :=
  fx_bnd (F_Md_isGood t0) fun x2 =>
  if x2 = 0 then (
    fx_ret 0
  ) else (
    if v1 = 0 then (
      fx_bnd g_Md_count fun x3 =>
      fx_ret x3
    ) else (
    if v1 = 1 then (
      fx_bnd g_Md_opened fun x4 =>
      fx_ret x4
    ) else (
    if v1 = 2 then (
      fx_bnd (F_Md_isDue) fun x5 =>
      if x5 = 0 then (
        fx_ret 0
      ) else (
        fx_ret 1
      )
    ) else (
    if v1 = 3 then (
      fx_bnd g_Md_scopes fun x6 =>
      fx_ret x6
    ) else (
    if v1 = 4 then (
      fx_bnd g_Md_treeSize fun x7 =>
      fx_ret x7
    ) else (
    if v1 = 5 then (
      fx_bnd g_Md_mostWaiting fun x8 =>
      fx_ret x8
    ) else (
      fx_bnd g_Md_treeSize fun x9 =>
      if x9 = 0 then (
        fx_ret 0
      ) else (
        fx_bnd g_Md_deepest fun x10 =>
        fx_ret x10
      )
    ))))))
  )
def F_Md_told (v1 : Int32) : fx_M Int32 :=
  fx_bnd (F_Md_isIn v1 0 6) fun x1 =>
  if x1 = 0 then (
    F_Md_told_J16 v1 1
  ) else (
    F_Md_told_J16 v1 0
  )
