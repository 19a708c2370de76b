def F_Scopes_has (v1 : Int32) : fx_M Int32 :=
  if v1 < 0 then (
    fx_retz 0
  ) else (
    fx_bnd g_Scopes_size fun x1 =>
    if x1 ≤ v1 then (
      fx_retz 0
    ) else (
      if 30 ≤ v1 then (
        fx_retz 0
      ) else (
        fx_retz 1
      )
    )
  )
def F_FixityTrees_requireScope (v1 : Int32) : fx_M (Unit ⊕ Nat) :=
  fx_bnd (F_Scopes_has v1) fun x1 =>
  if x1 = 0 then (
    fx_thr 0
  ) else (
    fx_ret (.inl ())
  )
def F_Scopes_isFull : fx_M Int32 :=
  fx_bnd g_Scopes_size fun x1 =>
  if x1 < 30 then (
    fx_retz 0
  ) else (
    fx_retz 1
  )
def F_Scopes_add (v1 : Int32) : fx_M Int32 :=
  fx_bnd (F_Scopes_isFull) fun x1 =>
  if x1 = 0 then (
    fx_bnd g_Scopes_size fun x2 =>
    fx_bnd (s_Scopes_outers x2 v1) fun _ =>
    fx_bnd g_Scopes_size fun x3 =>
    fx_bnd (p_Scopes_size (x3 + 1)) fun _ =>
    fx_ret x2
  ) else (
    fx_ret (-1)
  )
def F_FixityTrees_scope (v1 : Int32) : fx_M (Int32 ⊕ Nat) :=
  fx_bndx (F_FixityTrees_requireScope v1) fun _ =>
  fx_bnd (F_Scopes_isFull) fun x1 =>
  if x1 = 0 then (
    fx_bnd (F_Scopes_add v1) fun x2 =>
    fx_ret (.inl x2)
  ) else (
    fx_thr 1
  )
def F_FixityTrees_isOperator (v0 : Int32) : fx_M Int32 :=
  if v0 < 0 then (
    fx_retz 0
  ) else (
    if 41 ≤ v0 then (
      fx_retz 0
    ) else (
      fx_retz 1
    )
  )
def F_FixityTrees_requireOperator (v1 : Int32) : fx_M (Unit ⊕ Nat) :=
  fx_bnd (F_FixityTrees_isOperator v1) fun x1 =>
  if x1 = 0 then (
    fx_thr 0
  ) else (
    fx_ret (.inl ())
  )
def F_Scopes_codeAt (v1 : Int32) (v2 : Int32) : fx_M Int32 :=
  fx_bnd (F_Scopes_has v1) fun x1 =>
  if x1 = 0 then (
    fx_ret 0
  ) else (
    fx_bnd (F_FixityTrees_isOperator v2) fun x2 =>
    if x2 = 0 then (
      fx_ret 0
    ) else (
      fx_bnd (l_Scopes_codes ((v1 * 41) + v2)) fun x3 =>
      fx_ret x3
    )
  )
def F_Scopes_tells (v1 : Int32) (v2 : Int32) : fx_M Int32 :=
  fx_bnd (F_Scopes_codeAt v1 v2) fun x1 =>
  if x1 = 0 then (
    fx_retz 0
  ) else (
    fx_retz 1
  )
def F_Scopes_tell (v1 : Int32) (v2 : Int32) (v3 : Int32) (v4 : Int32) : fx_M Unit :=
  fx_bnd (F_Scopes_has v1) fun x1 =>
  if x1 = 0 then (
    fx_ret ()
  ) else (
    fx_bnd (F_FixityTrees_isOperator v2) fun x2 =>
    if x2 = 0 then (
      fx_ret ()
    ) else (
      fx_bnd (s_Scopes_codes ((v1 * 41) + v2) (((v3 * 10) + v4) + 1)) fun _ =>
      fx_ret ()
    )
  )
def F_FixityTrees_fixity (v1 : Int32) (v2 : Int32) (v3 : Int32) (v4 : Int32) : fx_M (Unit ⊕ Nat) :=
  fx_bndx (F_FixityTrees_requireScope v1) fun _ =>
  fx_bndx (F_FixityTrees_requireOperator v2) fun _ =>
  if v2 = 0 then (
    fx_thr 1
  ) else (
    fx_bnd (F_Scopes_tells v1 v2) fun x1 =>
    if x1 = 0 then (
      if v3 < 0 then (
        fx_thr 2
      ) else (
        if v3 < 3 then (
          if v4 < 0 then (
            fx_thr 2
          ) else (
            if v4 < 10 then (
              fx_bnd (F_Scopes_tell v1 v2 v3 v4) fun _ =>
              fx_ret (.inl ())
            ) else (
              fx_thr 2
            )
          )
        ) else (
          fx_thr 2
        )
      )
    ) else (
      fx_thr 1
    )
  )
def F_Scopes_tellerOf_B5 (k5 : Int32 → Int32 → Int32 → fx_M Int32) (v2 : Int32) (v3 : Int32) (v4 : Int32) : fx_M Int32 :=
  if 30 ≤ v4 then (
    fx_ret (-1)
  ) else (
    fx_bnd (F_Scopes_has v3) fun x1 =>
    if x1 = 0 then (
      fx_ret (-1)
    ) else (
      fx_bnd (F_Scopes_codeAt v3 v2) fun x2 =>
      if x2 = 0 then (
        fx_bnd (l_Scopes_outers v3) fun x3 =>
        fx_bnd (fx_pur (v4 + 1)) fun x4 =>
        k5 v2 x3 x4
      ) else (
        fx_ret v3
      )
    )
  )
def F_Scopes_tellerOf (v1 : Int32) (v2 : Int32) : fx_M Int32 :=
  fx_loop3 (F_Scopes_tellerOf_B5) fx_fuel v2 v1 0
def F_Scopes_sideOf (v1 : Int32) (v2 : Int32) : fx_M Int32 :=
  fx_bnd (F_Scopes_tellerOf v1 v2) fun x1 =>
  fx_bnd (F_Scopes_codeAt x1 v2) fun x2 =>
  if x2 = 0 then (
    fx_ret 0
  ) else (
    fx_ret ((x2 - 1) / 10)
  )
def F_Scopes_rankOf (v1 : Int32) (v2 : Int32) : fx_M Int32 :=
  if v2 = 0 then (
    fx_ret 6
  ) else (
    fx_bnd (F_Scopes_tellerOf v1 v2) fun x1 =>
    fx_bnd (F_Scopes_codeAt x1 v2) fun x2 =>
    if x2 = 0 then (
      fx_ret 9
    ) else (
      fx_ret ((x2 - 1) - (x2 - 1) / 10 * 10)
    )
  )
def F_FixityTrees_looked (v1 : Int32) (v2 : Int32) (v3 : Int32) : fx_M (Int32 ⊕ Nat) :=
  fx_bndx (F_FixityTrees_requireScope v1) fun _ =>
  fx_bndx (F_FixityTrees_requireOperator v2) fun _ =>
  if v3 = 0 then (
    fx_bnd (F_Scopes_sideOf v1 v2) fun x1 =>
    fx_ret (.inl x1)
  ) else (
  if v3 = 1 then (
    fx_bnd (F_Scopes_rankOf v1 v2) fun x2 =>
    fx_ret (.inl x2)
  ) else (
  if v3 = 2 then (
    fx_bnd (F_Scopes_tellerOf v1 v2) fun x3 =>
    fx_ret (.inl x3)
  ) else (
    fx_thr 2
  )))
def F_Row_clear (v1 : Int32) : fx_M Unit :=
  fx_bnd (p_Row_size 0) fun _ =>
  fx_bnd (p_Row_openSize 0) fun _ =>
  fx_bnd (p_Row_pattern v1) fun _ =>
  fx_ret ()
def F_FixityTrees_begin (v1 : Int32) : fx_M Unit :=
  fx_bnd (F_Row_clear v1) fun _ =>
  fx_ret ()
def F_Row_isFull : fx_M Int32 :=
  fx_bnd g_Row_size fun x1 =>
  if x1 < 200 then (
    fx_retz 0
  ) else (
    fx_retz 1
  )
def F_Row_has (v1 : Int32) : fx_M Int32 :=
  if v1 < 0 then (
    fx_retz 0
  ) else (
    fx_bnd g_Row_size fun x1 =>
    if x1 ≤ v1 then (
      fx_retz 0
    ) else (
      if 200 ≤ v1 then (
        fx_retz 0
      ) else (
        fx_retz 1
      )
    )
  )
def F_Row_kindAt (v1 : Int32) : fx_M Int32 :=
  fx_bnd (F_Row_has v1) fun x1 =>
  if x1 = 0 then (
    fx_ret (-1)
  ) else (
    fx_bnd (l_Row_kinds v1) fun x2 =>
    fx_ret x2
  )
def F_Row_lastKind : fx_M Int32 :=
  fx_bnd g_Row_size fun x1 =>
  fx_bnd (F_Row_kindAt (x1 - 1)) fun x2 =>
  fx_ret x2
def F_Row_operandIsDue : fx_M Int32 :=
  fx_bnd (F_Row_lastKind) fun x1 =>
  if x1 = 0 then (
    fx_retz 0
  ) else (
    if x1 = 4 then (
      fx_retz 0
    ) else (
      fx_retz 1
    )
  )
def F_Row_takesOperand : fx_M Int32 :=
  fx_bnd (F_Row_isFull) fun x1 =>
  if x1 = 0 then (
    fx_bnd (F_Row_operandIsDue) fun x2 =>
    if x2 = 0 then (
      fx_retz 0
    ) else (
      fx_retz 1
    )
  ) else (
    fx_retz 0
  )
def F_Row_beginRightSection : fx_M Unit :=
  fx_bnd g_Row_size fun x1 =>
  fx_bnd (s_Row_nodeKinds x1 4) fun _ =>
  fx_bnd g_Row_openSize fun x2 =>
  if x2 ≤ 0 then (
    fx_ret ()
  ) else (
    fx_bnd g_Row_openSize fun x3 =>
    fx_bnd (s_Row_rightSections (x3 - 1) 1) fun _ =>
    fx_ret ()
  )
def F_Row_closeGroup_J17 : fx_M Unit :=
  fx_bnd (F_Row_lastKind) fun x2 =>
  if x2 = 1 then (
    fx_bnd g_Row_size fun x3 =>
    if x3 ≤ 0 then (
      fx_ret ()
    ) else (
      fx_bnd g_Row_size fun x4 =>
      fx_bnd (s_Row_nodeKinds (x4 - 1) 3) fun _ =>
      fx_ret ()
    )
  ) else (
    fx_ret ()
  )
def F_Row_closeGroup : fx_M Unit :=
  fx_bnd g_Row_openSize fun x1 =>
  if x1 ≤ 0 then (
    F_Row_closeGroup_J17
  ) else (
    fx_bnd g_Row_openSize fun x5 =>
    fx_bnd (p_Row_openSize (x5 - 1)) fun _ =>
    F_Row_closeGroup_J17
  )
def F_Row_openGroup : fx_M Unit :=
  fx_bnd g_Row_openSize fun x1 =>
  if 40 ≤ x1 then (
    fx_ret ()
  ) else (
    fx_bnd g_Row_openSize fun x2 =>
    fx_bnd (s_Row_rightSections x2 0) fun _ =>
    fx_bnd g_Row_openSize fun x3 =>
    fx_bnd (p_Row_openSize (x3 + 1)) fun _ =>
    fx_ret ()
  )
def F_Row_add_J103 : fx_M Unit :=
  fx_bnd g_Row_size fun x6 =>
  fx_bnd (p_Row_size (x6 + 1)) fun _ =>
  fx_ret ()
def F_Row_add_J61 (v1 : Int32) (t0 : Int32) (t1 : Int32) : fx_M Unit :=
  fx_bnd (s_Row_nodeKinds t1 t0) fun _ =>
  if v1 = 3 then (
    fx_bnd (F_Row_openGroup) fun _ =>
    F_Row_add_J103
  ) else (
    if v1 = 4 then (
      fx_bnd (F_Row_closeGroup) fun _ =>
      F_Row_add_J103
    ) else (
      if v1 = 1 then (
        fx_bnd (F_Row_lastKind) fun x7 =>
        if x7 = 3 then (
          fx_bnd (F_Row_beginRightSection) fun _ =>
          F_Row_add_J103
        ) else (
          F_Row_add_J103
        )
      ) else (
        F_Row_add_J103
      )
    )
  )
def F_Row_add_J56 (v1 : Int32) (t0 : Int32) : fx_M Unit :=
  F_Row_add_J61 v1 (-1) t0
def F_Row_add (v1 : Int32) (v2 : Int32) (v3 : Int64) : fx_M Unit :=
  fx_bnd (F_Row_isFull) fun x1 =>
  if x1 = 0 then (
    fx_bnd g_Row_size fun x2 =>
    fx_bnd (s_Row_kinds x2 v1) fun _ =>
    fx_bnd g_Row_size fun x3 =>
    fx_bnd (s_Row_operators x3 v2) fun _ =>
    fx_bnd g_Row_size fun x4 =>
    fx_bnd (s_Row_numbers x4 v3) fun _ =>
    fx_bnd g_Row_size fun x5 =>
    if v1 = 3 then (
      F_Row_add_J56 v1 x5
    ) else (
      if v1 = 4 then (
        F_Row_add_J56 v1 x5
      ) else (
        F_Row_add_J61 v1 v1 x5
      )
    )
  ) else (
    fx_ret ()
  )
def F_Row_size : fx_M Int32 :=
  fx_bnd g_Row_size fun x1 =>
  fx_ret x1
def F_FixityTrees_operand (v1 : Int64) : fx_M (Int32 ⊕ Nat) :=
  fx_bnd (F_Row_takesOperand) fun x1 =>
  if x1 = 0 then (
    fx_thr 1
  ) else (
    fx_bnd (F_Row_add 0 (-1) v1) fun _ =>
    fx_bnd (F_Row_size) fun x2 =>
    fx_ret (.inl x2)
  )
def F_Row_wantsBareOperand : fx_M Int32 :=
  fx_bnd g_Row_pattern fun x1 =>
  if x1 = 0 then (
    fx_retz 0
  ) else (
    fx_bnd (F_Row_lastKind) fun x2 =>
    if x2 = 2 then (
      fx_retz 1
    ) else (
      fx_retz 0
    )
  )
def F_Row_kindIfNext (v1 : Int32) : fx_M Int32 :=
  fx_bnd (F_Row_isFull) fun x1 =>
  if x1 = 0 then (
    fx_bnd (F_Row_operandIsDue) fun x2 =>
    if x2 = 0 then (
      fx_ret 1
    ) else (
      if v1 = 0 then (
        fx_bnd (F_Row_wantsBareOperand) fun x5 =>
        if x5 = 0 then (
          fx_ret 2
        ) else (
          fx_ret (-1)
        )
      ) else (
        fx_bnd (F_Row_lastKind) fun x3 =>
        if x3 = 3 then (
          fx_bnd g_Row_pattern fun x4 =>
          if x4 = 0 then (
            fx_ret 1
          ) else (
            fx_ret (-1)
          )
        ) else (
          fx_ret (-1)
        )
      )
    )
  ) else (
    fx_ret (-1)
  )
def F_FixityTrees_operator (v1 : Int32) : fx_M (Int32 ⊕ Nat) :=
  fx_bndx (F_FixityTrees_requireOperator v1) fun _ =>
  fx_bnd (F_Row_kindIfNext v1) fun x1 =>
  if x1 = (-1) then (
    fx_thr 1
  ) else (
    fx_bnd (F_Row_add x1 v1 0) fun _ =>
    fx_bnd (F_Row_size) fun x2 =>
    fx_ret (.inl x2)
  )
def F_Row_takesOpen : fx_M Int32 :=
  fx_bnd (F_Row_isFull) fun x1 =>
  if x1 = 0 then (
    fx_bnd (F_Row_operandIsDue) fun x2 =>
    if x2 = 0 then (
      fx_retz 0
    ) else (
      fx_bnd g_Row_openSize fun x3 =>
      if 40 ≤ x3 then (
        fx_retz 0
      ) else (
        fx_bnd (F_Row_wantsBareOperand) fun x4 =>
        if x4 = 0 then (
          fx_retz 1
        ) else (
          fx_retz 0
        )
      )
    )
  ) else (
    fx_retz 0
  )
def F_FixityTrees_open : fx_M (Int32 ⊕ Nat) :=
  fx_bnd (F_Row_takesOpen) fun x1 =>
  if x1 = 0 then (
    fx_thr 1
  ) else (
    fx_bnd (F_Row_add 3 (-1) 0) fun _ =>
    fx_bnd (F_Row_size) fun x2 =>
    fx_ret (.inl x2)
  )
def F_Row_mayEndLeftSection : fx_M Int32 :=
  fx_bnd g_Row_pattern fun x1 =>
  if x1 = 0 then (
    fx_bnd (F_Row_lastKind) fun x2 =>
    if x2 = 1 then (
      fx_bnd g_Row_openSize fun x3 =>
      if x3 ≤ 0 then (
        fx_retz 0
      ) else (
        fx_bnd g_Row_openSize fun x4 =>
        fx_bnd (l_Row_rightSections (x4 - 1)) fun x5 =>
        if x5 = 0 then (
          fx_retz 1
        ) else (
          fx_retz 0
        )
      )
    ) else (
      fx_retz 0
    )
  ) else (
    fx_retz 0
  )
def F_Row_takesClose : fx_M Int32 :=
  fx_bnd (F_Row_isFull) fun x1 =>
  if x1 = 0 then (
    fx_bnd g_Row_openSize fun x2 =>
    if x2 ≤ 0 then (
      fx_retz 0
    ) else (
      fx_bnd (F_Row_operandIsDue) fun x3 =>
      if x3 = 0 then (
        fx_retz 1
      ) else (
        fx_bnd (F_Row_mayEndLeftSection) fun x4 =>
        if x4 = 0 then (
          fx_retz 0
        ) else (
          fx_retz 1
        )
      )
    )
  ) else (
    fx_retz 0
  )
def F_FixityTrees_close : fx_M (Int32 ⊕ Nat) :=
  fx_bnd (F_Row_takesClose) fun x1 =>
  if x1 = 0 then (
    fx_thr 1
  ) else (
    fx_bnd (F_Row_add 4 (-1) 0) fun _ =>
    fx_bnd (F_Row_size) fun x2 =>
    fx_ret (.inl x2)
  )
def F_Row_openSize : fx_M Int32 :=
  fx_bnd g_Row_openSize fun x1 =>
  fx_ret x1
def F_FixityTrees_requireWholeRow : fx_M (Unit ⊕ Nat) :=
  fx_bnd (F_Row_operandIsDue) fun x1 =>
  if x1 = 0 then (
    fx_bnd (F_Row_openSize) fun x2 =>
    if x2 ≤ 0 then (
      fx_ret (.inl ())
    ) else (
      fx_thr 1
    )
  ) else (
    fx_thr 1
  )
def F_Fixities_look_Scopes_B2 (k2 : Int32 → Int32 → fx_M Unit) (v2 : Int32) (v3 : Int32) : fx_M Unit :=
  if 41 ≤ v3 then (
    fx_ret ()
  ) else (
    fx_bnd (F_Scopes_sideOf v2 v3) fun x1 =>
    fx_bnd (s_Fixities_sides v3 x1) fun _ =>
    fx_bnd (F_Scopes_rankOf v2 v3) fun x2 =>
    fx_bnd (s_Fixities_ranks v3 x2) fun _ =>
    fx_bnd (fx_pur (v3 + 1)) fun x3 =>
    k2 v2 x3
  )
def F_Fixities_look_Scopes (v2 : Int32) : fx_M Unit :=
  fx_loop2 (F_Fixities_look_Scopes_B2) fx_fuel v2 0
def F_IntStack0_clear : fx_M Unit :=
  fx_bnd (p_IntStack0_size 0) fun _ =>
  fx_ret ()
def F_IntStack1_clear : fx_M Unit :=
  fx_bnd (p_IntStack1_size 0) fun _ =>
  fx_ret ()
def F_IntStack1_push (v1 : Int32) : fx_M Unit :=
  fx_bnd g_IntStack1_size fun x1 =>
  if 200 ≤ x1 then (
    fx_ret ()
  ) else (
    fx_bnd g_IntStack1_size fun x2 =>
    fx_bnd (s_IntStack1_values x2 v1) fun _ =>
    fx_bnd g_IntStack1_size fun x3 =>
    fx_bnd (p_IntStack1_size (x3 + 1)) fun _ =>
    fx_ret ()
  )
def F_IntStack2_clear : fx_M Unit :=
  fx_bnd (p_IntStack2_size 0) fun _ =>
  fx_ret ()
def F_Resolver_clear : fx_M Unit :=
  fx_bnd (F_IntStack0_clear) fun _ =>
  fx_bnd (F_IntStack1_clear) fun _ =>
  fx_bnd (F_IntStack1_push 0) fun _ =>
  fx_bnd (F_IntStack2_clear) fun _ =>
  fx_bnd (p_Resolver_mostWaiting 0) fun _ =>
  fx_bnd (p_Resolver_clashKind (-1)) fun _ =>
  fx_bnd (p_Resolver_clashWaiting (-1)) fun _ =>
  fx_bnd (p_Resolver_clashOther (-1)) fun _ =>
  fx_ret ()
def F_IntStack1_pop : fx_M Int32 :=
  fx_bnd g_IntStack1_size fun x1 =>
  if 0 < x1 then (
    fx_bnd g_IntStack1_size fun x2 =>
    fx_bnd (p_IntStack1_size (x2 - 1)) fun _ =>
    fx_bnd g_IntStack1_size fun x3 =>
    fx_bnd (l_IntStack1_values x3) fun x4 =>
    fx_ret x4
  ) else (
    fx_ret (-1)
  )
def F_IntStack0_size : fx_M Int32 :=
  fx_bnd g_IntStack0_size fun x1 =>
  fx_ret x1
def F_IntStack1_top : fx_M Int32 :=
  fx_bnd g_IntStack1_size fun x1 =>
  if x1 ≤ 0 then (
    fx_ret (-1)
  ) else (
    fx_bnd g_IntStack1_size fun x2 =>
    fx_bnd (l_IntStack1_values (x2 - 1)) fun x3 =>
    fx_ret x3
  )
def F_Resolver_oneWaits : fx_M Int32 :=
  fx_bnd (F_IntStack0_size) fun x1 =>
  fx_bnd (F_IntStack1_top) fun x2 =>
  if x1 ≤ x2 then (
    fx_retz 0
  ) else (
    fx_retz 1
  )
def F_IntStack0_pop : fx_M Int32 :=
  fx_bnd g_IntStack0_size fun x1 =>
  if 0 < x1 then (
    fx_bnd g_IntStack0_size fun x2 =>
    fx_bnd (p_IntStack0_size (x2 - 1)) fun _ =>
    fx_bnd g_IntStack0_size fun x3 =>
    fx_bnd (l_IntStack0_values x3) fun x4 =>
    fx_ret x4
  ) else (
    fx_ret (-1)
  )
def F_Resolver_isPlace (v0 : Int32) : fx_M Int32 :=
  if v0 < 0 then (
    fx_retz 0
  ) else (
    if 200 ≤ v0 then (
      fx_retz 0
    ) else (
      fx_retz 1
    )
  )
def F_Row_nodeKindAt (v1 : Int32) : fx_M Int32 :=
  fx_bnd (F_Row_has v1) fun x1 =>
  if x1 = 0 then (
    fx_ret (-1)
  ) else (
    fx_bnd (l_Row_nodeKinds v1) fun x2 =>
    fx_ret x2
  )
def F_IntStack2_pop : fx_M Int32 :=
  fx_bnd g_IntStack2_size fun x1 =>
  if 0 < x1 then (
    fx_bnd g_IntStack2_size fun x2 =>
    fx_bnd (p_IntStack2_size (x2 - 1)) fun _ =>
    fx_bnd g_IntStack2_size fun x3 =>
    fx_bnd (l_IntStack2_values x3) fun x4 =>
    fx_ret x4
  ) else (
    fx_ret (-1)
  )
def F_Resolver_sizeOf (v1 : Int32) : fx_M Int32 :=
  fx_bnd (F_Resolver_isPlace v1) fun x1 =>
  if x1 = 0 then (
    fx_ret 0
  ) else (
    fx_bnd (l_Resolver_sizes v1) fun x2 =>
    fx_ret x2
  )
def F_Resolver_heightOf (v1 : Int32) : fx_M Int32 :=
  fx_bnd (F_Resolver_isPlace v1) fun x1 =>
  if x1 = 0 then (
    fx_ret 0
  ) else (
    fx_bnd (l_Resolver_heights v1) fun x2 =>
    fx_ret x2
  )
def F_IntStack2_push (v1 : Int32) : fx_M Unit :=
  fx_bnd g_IntStack2_size fun x1 =>
  if 200 ≤ x1 then (
    fx_ret ()
  ) else (
    fx_bnd g_IntStack2_size fun x2 =>
    fx_bnd (s_IntStack2_values x2 v1) fun _ =>
    fx_bnd g_IntStack2_size fun x3 =>
    fx_bnd (p_IntStack2_size (x3 + 1)) fun _ =>
    fx_ret ()
  )
def F_Resolver_finish_J49 (v1 : Int32) (v3 : Int32) (t0 : Int32) : fx_M Unit :=
  fx_bnd (s_Resolver_firsts v1 t0) fun _ =>
  fx_bnd (s_Resolver_seconds v1 v3) fun _ =>
  fx_bnd (F_Resolver_sizeOf t0) fun x4 =>
  fx_bnd (F_Resolver_sizeOf v3) fun x5 =>
  fx_bnd (s_Resolver_sizes v1 ((1 + x4) + x5)) fun _ =>
  fx_bnd (F_Resolver_heightOf t0) fun x6 =>
  fx_bnd (F_Resolver_heightOf v3) fun x7 =>
  fx_bnd (fx_pur (if x6 < x7 then x7 else x6)) fun x8 =>
  fx_bnd (s_Resolver_heights v1 (1 + x8)) fun _ =>
  fx_bnd (F_IntStack2_push v1) fun _ =>
  fx_ret ()
def F_Resolver_finish_J33 (v1 : Int32) (v2 : Int32) (t0 : Int32) : fx_M Unit :=
  if v2 = 0 then (
    F_Resolver_finish_J49 v1 t0 (-1)
  ) else (
    fx_bnd (F_IntStack2_pop) fun x3 =>
    F_Resolver_finish_J49 v1 t0 x3
  )
def F_Resolver_finish (v1 : Int32) : fx_M Unit :=
  fx_bnd (F_Resolver_isPlace v1) fun x1 =>
  if x1 = 0 then (
    fx_ret ()
  ) else (
    fx_bnd (F_Row_nodeKindAt v1) fun x2 =>
    if x2 = 1 then (
      fx_bnd (F_IntStack2_pop) fun x9 =>
      F_Resolver_finish_J33 v1 x2 x9
    ) else (
      F_Resolver_finish_J33 v1 x2 (-1)
    )
  )
def F_Resolver_finishGroup_J33 : fx_M Unit :=
  fx_bnd (F_IntStack1_pop) fun x1 =>
  fx_ret ()
def F_Resolver_finishGroup_B2 (k2 : Int32 → fx_M Unit) (v1 : Int32) : fx_M Unit :=
  if 200 ≤ v1 then (
    F_Resolver_finishGroup_J33
  ) else (
    fx_bnd (F_Resolver_oneWaits) fun x2 =>
    if x2 = 0 then (
      F_Resolver_finishGroup_J33
    ) else (
      fx_bnd (F_IntStack0_pop) fun x3 =>
      fx_bnd (F_Resolver_finish x3) fun _ =>
      fx_bnd (fx_pur (v1 + 1)) fun x4 =>
      k2 x4
    )
  )
def F_Resolver_finishGroup : fx_M Unit :=
  fx_loop1 (F_Resolver_finishGroup_B2) fx_fuel 0
def F_IntStack0_push (v1 : Int32) : fx_M Unit :=
  fx_bnd g_IntStack0_size fun x1 =>
  if 200 ≤ x1 then (
    fx_ret ()
  ) else (
    fx_bnd g_IntStack0_size fun x2 =>
    fx_bnd (s_IntStack0_values x2 v1) fun _ =>
    fx_bnd g_IntStack0_size fun x3 =>
    fx_bnd (p_IntStack0_size (x3 + 1)) fun _ =>
    fx_ret ()
  )
def F_Resolver_letWait (v1 : Int32) : fx_M Unit :=
  fx_bnd (F_IntStack0_push v1) fun _ =>
  fx_bnd g_Resolver_mostWaiting fun x1 =>
  fx_bnd (F_IntStack0_size) fun x2 =>
  fx_bnd (fx_pur (if x1 < x2 then x2 else x1)) fun x3 =>
  fx_bnd (p_Resolver_mostWaiting x3) fun _ =>
  fx_ret ()
def F_IntStack0_top : fx_M Int32 :=
  fx_bnd g_IntStack0_size fun x1 =>
  if x1 ≤ 0 then (
    fx_ret (-1)
  ) else (
    fx_bnd g_IntStack0_size fun x2 =>
    fx_bnd (l_IntStack0_values (x2 - 1)) fun x3 =>
    fx_ret x3
  )
def F_Row_operatorAt (v1 : Int32) : fx_M Int32 :=
  fx_bnd (F_Row_has v1) fun x1 =>
  if x1 = 0 then (
    fx_ret (-1)
  ) else (
    fx_bnd (l_Row_operators v1) fun x2 =>
    fx_ret x2
  )
def F_Fixities_rankOf (v1 : Int32) : fx_M Int32 :=
  fx_bnd (F_FixityTrees_isOperator v1) fun x1 =>
  if x1 = 0 then (
    fx_ret 9
  ) else (
    fx_bnd (l_Fixities_ranks v1) fun x2 =>
    fx_ret x2
  )
def F_Resolver_rankAt (v1 : Int32) : fx_M Int32 :=
  fx_bnd (F_Row_operatorAt v1) fun x1 =>
  fx_bnd (F_Fixities_rankOf x1) fun x2 =>
  fx_ret x2
def F_Fixities_sideOf (v1 : Int32) : fx_M Int32 :=
  fx_bnd (F_FixityTrees_isOperator v1) fun x1 =>
  if x1 = 0 then (
    fx_ret 2
  ) else (
    fx_bnd (l_Fixities_sides v1) fun x2 =>
    fx_ret x2
  )
def F_Resolver_sideAt (v1 : Int32) : fx_M Int32 :=
  fx_bnd (F_Row_operatorAt v1) fun x1 =>
  fx_bnd (F_Fixities_sideOf x1) fun x2 =>
  fx_ret x2
def F_Row_isPattern : fx_M Int32 :=
  fx_bnd g_Row_pattern fun x1 =>
  fx_retz x1
def F_Resolver_fateOf_J71 (v6 : Int32) : fx_M Int32 :=
  if v6 = 4 then (
    fx_ret 3
  ) else (
    fx_ret 0
  )
def F_Resolver_fateOf_J83 (v6 : Int32) : fx_M Int32 :=
  fx_bnd (F_Row_isPattern) fun x5 =>
  if x5 = 0 then (
    fx_ret (-1)
  ) else (
    if v6 = 2 then (
      fx_ret 4
    ) else (
      fx_ret (-1)
    )
  )
def F_Resolver_fateOf_J44 (v1 : Int32) (v3 : Int32) (v4 : Int32) (v5 : Int32) : fx_M Int32 :=
  fx_bnd (F_Row_nodeKindAt v1) fun x4 =>
  if v5 < v3 then (
    F_Resolver_fateOf_J71 x4
  ) else (
    if v3 = v5 then (
      if v4 = 0 then (
        F_Resolver_fateOf_J71 x4
      ) else (
        F_Resolver_fateOf_J83 x4
      )
    ) else (
      F_Resolver_fateOf_J83 x4
    )
  )
def F_Resolver_fateOf (v1 : Int32) (v2 : Int32) : fx_M Int32 :=
  fx_bnd (F_Resolver_rankAt v1) fun x1 =>
  fx_bnd (F_Resolver_sideAt v1) fun x2 =>
  fx_bnd (F_Resolver_rankAt v2) fun x3 =>
  if x1 = x3 then (
    fx_bnd (F_Resolver_sideAt v2) fun x6 =>
    if x2 = x6 then (
      if x2 = 2 then (
        fx_ret 1
      ) else (
        F_Resolver_fateOf_J44 v1 x1 x2 x3
      )
    ) else (
      fx_ret 1
    )
  ) else (
    F_Resolver_fateOf_J44 v1 x1 x2 x3
  )
def F_Resolver_note (v1 : Int32) (v2 : Int32) (v3 : Int32) : fx_M Unit :=
  fx_bnd (p_Resolver_clashKind v1) fun _ =>
  fx_bnd (p_Resolver_clashWaiting v2) fun _ =>
  fx_bnd (p_Resolver_clashOther v3) fun _ =>
  fx_ret ()
def F_Resolver_meetOperator_J72 (v1 : Int32) : fx_M Unit :=
  fx_bnd (F_Resolver_letWait v1) fun _ =>
  fx_ret ()
def F_Resolver_meetOperator_B2 (k2 : Int32 → Int32 → fx_M Unit) (v1 : Int32) (v2 : Int32) : fx_M Unit :=
  if 200 ≤ v2 then (
    F_Resolver_meetOperator_J72 v1
  ) else (
    fx_bnd (F_Resolver_oneWaits) fun x1 =>
    if x1 = 0 then (
      F_Resolver_meetOperator_J72 v1
    ) else (
      fx_bnd (F_IntStack0_top) fun x2 =>
      fx_bnd (F_Resolver_fateOf x2 v1) fun x3 =>
      if x3 = (-1) then (
        F_Resolver_meetOperator_J72 v1
      ) else (
        if x3 = 0 then (
          fx_bnd (F_IntStack0_pop) fun x4 =>
          fx_bnd (F_Resolver_finish x4) fun _ =>
          fx_bnd (fx_pur (v2 + 1)) fun x5 =>
          k2 v1 x5
        ) else (
          fx_bnd (F_Resolver_note x3 x2 v1) fun _ =>
          fx_ret ()
        )
      )
    )
  )
def F_Resolver_meetOperator (v1 : Int32) : fx_M Unit :=
  fx_loop2 (F_Resolver_meetOperator_B2) fx_fuel v1 0
def F_Resolver_meetNegation_J39 (v1 : Int32) : fx_M Unit :=
  fx_bnd (F_Resolver_letWait v1) fun _ =>
  fx_ret ()
def F_Resolver_meetNegation (v1 : Int32) : fx_M Unit :=
  fx_bnd (F_Resolver_oneWaits) fun x1 =>
  if x1 = 0 then (
    F_Resolver_meetNegation_J39 v1
  ) else (
    fx_bnd (F_IntStack0_top) fun x2 =>
    fx_bnd (F_Resolver_rankAt x2) fun x3 =>
    if x3 < 6 then (
      F_Resolver_meetNegation_J39 v1
    ) else (
      fx_bnd (F_IntStack0_top) fun x4 =>
      fx_bnd (F_Resolver_note 2 x4 v1) fun _ =>
      fx_ret ()
    )
  )
def F_Resolver_meetClose_J51 : fx_M Unit :=
  fx_bnd (F_Resolver_finishGroup) fun _ =>
  fx_ret ()
def F_Resolver_meetClose (v1 : Int32) : fx_M Unit :=
  fx_bnd (F_Row_nodeKindAt (v1 - 1)) fun x1 =>
  if x1 = 3 then (
    fx_bnd (F_IntStack0_pop) fun x2 =>
    fx_bnd (F_Resolver_oneWaits) fun x3 =>
    if x3 = 0 then (
      fx_bnd (F_IntStack0_push x2) fun _ =>
      F_Resolver_meetClose_J51
    ) else (
      fx_bnd (F_IntStack0_top) fun x4 =>
      fx_bnd (F_Resolver_note 3 x4 x2) fun _ =>
      fx_ret ()
    )
  ) else (
    F_Resolver_meetClose_J51
  )
def F_Resolver_run_J123 : fx_M Unit :=
  fx_bnd g_Resolver_clashKind fun x2 =>
  if x2 = (-1) then (
    fx_bnd (F_Resolver_finishGroup) fun _ =>
    fx_ret ()
  ) else (
    fx_ret ()
  )
def F_Resolver_run_J117 (k6 : Int32 → fx_M Unit) (v1 : Int32) : fx_M Unit :=
  fx_bnd (fx_pur (v1 + 1)) fun x5 =>
  k6 x5
def F_Resolver_run_B6 (k6 : Int32 → fx_M Unit) (v1 : Int32) : fx_M Unit :=
  fx_bnd (F_Row_size) fun x1 =>
  if x1 ≤ v1 then (
    F_Resolver_run_J123
  ) else (
    fx_bnd g_Resolver_clashKind fun x3 =>
    if x3 = (-1) then (
      fx_bnd (F_Row_kindAt v1) fun x4 =>
      if x4 = 0 then (
        fx_bnd (F_Resolver_finish v1) fun _ =>
        F_Resolver_run_J117 k6 v1
      ) else (
      if x4 = 1 then (
        fx_bnd (F_Resolver_meetOperator v1) fun _ =>
        F_Resolver_run_J117 k6 v1
      ) else (
      if x4 = 2 then (
        fx_bnd (F_Resolver_meetNegation v1) fun _ =>
        F_Resolver_run_J117 k6 v1
      ) else (
      if x4 = 3 then (
        fx_bnd (F_IntStack0_size) fun x6 =>
        fx_bnd (F_IntStack1_push x6) fun _ =>
        F_Resolver_run_J117 k6 v1
      ) else (
      if x4 = 4 then (
        fx_bnd (F_Resolver_meetClose v1) fun _ =>
        F_Resolver_run_J117 k6 v1
      ) else (
        F_Resolver_run_J117 k6 v1
      )))))
    ) else (
      F_Resolver_run_J123
    )
  )
def F_Resolver_run : fx_M Unit :=
  fx_bnd (F_Resolver_clear) fun _ =>
  fx_loop1 (F_Resolver_run_B6) fx_fuel 0
def F_Resolver_clashKind : fx_M Int32 :=
  fx_bnd g_Resolver_clashKind fun x1 =>
  fx_ret x1
def F_Resolver_clashWaiting : fx_M Int32 :=
  fx_bnd g_Resolver_clashWaiting fun x1 =>
  fx_ret x1
def F_Resolver_clashOther : fx_M Int32 :=
  fx_bnd g_Resolver_clashOther fun x1 =>
  fx_ret x1
def F_Tree0_clear : fx_M Unit :=
  fx_bnd (p_Tree0_size 0) fun _ =>
  fx_bnd (p_Tree0_height 0) fun _ =>
  fx_ret ()
def F_IntStack2_top : fx_M Int32 :=
  fx_bnd g_IntStack2_size fun x1 =>
  if x1 ≤ 0 then (
    fx_ret (-1)
  ) else (
    fx_bnd g_IntStack2_size fun x2 =>
    fx_bnd (l_IntStack2_values (x2 - 1)) fun x3 =>
    fx_ret x3
  )
def F_Tree0_setHeight (v1 : Int32) : fx_M Unit :=
  fx_bnd (p_Tree0_height v1) fun _ =>
  fx_ret ()
def F_IntStack3_clear : fx_M Unit :=
  fx_bnd (p_IntStack3_size 0) fun _ =>
  fx_ret ()
def F_IntStack3_push (v1 : Int32) : fx_M Unit :=
  fx_bnd g_IntStack3_size fun x1 =>
  if 200 ≤ x1 then (
    fx_ret ()
  ) else (
    fx_bnd g_IntStack3_size fun x2 =>
    fx_bnd (s_IntStack3_values x2 v1) fun _ =>
    fx_bnd g_IntStack3_size fun x3 =>
    fx_bnd (p_IntStack3_size (x3 + 1)) fun _ =>
    fx_ret ()
  )
def F_IntStack3_size : fx_M Int32 :=
  fx_bnd g_IntStack3_size fun x1 =>
  fx_ret x1
def F_IntStack3_pop : fx_M Int32 :=
  fx_bnd g_IntStack3_size fun x1 =>
  if 0 < x1 then (
    fx_bnd g_IntStack3_size fun x2 =>
    fx_bnd (p_IntStack3_size (x2 - 1)) fun _ =>
    fx_bnd g_IntStack3_size fun x3 =>
    fx_bnd (l_IntStack3_values x3) fun x4 =>
    fx_ret x4
  ) else (
    fx_ret (-1)
  )
def F_Resolver_firstOf (v1 : Int32) : fx_M Int32 :=
  fx_bnd (F_Resolver_isPlace v1) fun x1 =>
  if x1 = 0 then (
    fx_ret (-1)
  ) else (
    fx_bnd (l_Resolver_firsts v1) fun x2 =>
    fx_ret x2
  )
def F_Resolver_secondOf (v1 : Int32) : fx_M Int32 :=
  fx_bnd (F_Resolver_isPlace v1) fun x1 =>
  if x1 = 0 then (
    fx_ret (-1)
  ) else (
    fx_bnd (l_Resolver_seconds v1) fun x2 =>
    fx_ret x2
  )
def F_Row_numberAt (v1 : Int32) : fx_M Int64 :=
  fx_bnd (F_Row_has v1) fun x1 =>
  if x1 = 0 then (
    fx_ret 0
  ) else (
    fx_bnd (l_Row_numbers v1) fun x2 =>
    fx_ret x2
  )
def F_Tree0_add (v1 : Int32) (v2 : Int32) (v3 : Int64) (v5 : Int32) : fx_M Unit :=
  fx_bnd g_Tree0_size fun x1 =>
  if 200 ≤ x1 then (
    fx_ret ()
  ) else (
    fx_bnd g_Tree0_size fun x2 =>
    fx_bnd (s_Tree0_kinds x2 v1) fun _ =>
    fx_bnd g_Tree0_size fun x3 =>
    fx_bnd (s_Tree0_operators x3 v2) fun _ =>
    fx_bnd g_Tree0_size fun x4 =>
    fx_bnd (s_Tree0_numbers x4 v3) fun _ =>
    fx_bnd g_Tree0_size fun x5 =>
    fx_bnd (s_Tree0_places x5 v5) fun _ =>
    fx_bnd g_Tree0_size fun x6 =>
    fx_bnd (s_Tree0_firsts x6 (-1)) fun _ =>
    fx_bnd g_Tree0_size fun x7 =>
    fx_bnd (s_Tree0_seconds x7 (-1)) fun _ =>
    fx_bnd g_Tree0_size fun x8 =>
    fx_bnd (p_Tree0_size (x8 + 1)) fun _ =>
    fx_ret ()
  )
def F_Tree0_has (v1 : Int32) : fx_M Int32 :=
  if v1 < 0 then (
    fx_retz 0
  ) else (
    fx_bnd g_Tree0_size fun x1 =>
    if x1 ≤ v1 then (
      fx_retz 0
    ) else (
      if 200 ≤ v1 then (
        fx_retz 0
      ) else (
        fx_retz 1
      )
    )
  )
def F_Tree0_join (v1 : Int32) (v2 : Int32) (v3 : Int32) : fx_M Unit :=
  fx_bnd (F_Tree0_has v1) fun x1 =>
  if x1 = 0 then (
    fx_ret ()
  ) else (
    fx_bnd (s_Tree0_firsts v1 v2) fun _ =>
    fx_bnd (s_Tree0_seconds v1 v3) fun _ =>
    fx_ret ()
  )
def F_Resolver_numberInto_Tree0_J181 (k38 : Int32 → fx_M Unit) (v3 : Int32) : fx_M Unit :=
  fx_bnd (fx_pur (v3 + 1)) fun x11 =>
  k38 x11
def F_Resolver_numberInto_Tree0_J166 (k38 : Int32 → fx_M Unit) (v3 : Int32) (v5 : Int32) : fx_M Unit :=
  if v5 = (-1) then (
    F_Resolver_numberInto_Tree0_J181 k38 v3
  ) else (
    fx_bnd (F_IntStack3_push v5) fun _ =>
    F_Resolver_numberInto_Tree0_J181 k38 v3
  )
def F_Resolver_numberInto_Tree0_J148 (k38 : Int32 → fx_M Unit) (v3 : Int32) (v5 : Int32) (v6 : Int32) (t0 : Int32) (t1 : Int32) (t2 : Int32) : fx_M Unit :=
  fx_bnd (F_Tree0_join t2 t1 t0) fun _ =>
  if v6 = (-1) then (
    F_Resolver_numberInto_Tree0_J166 k38 v3 v5
  ) else (
    fx_bnd (F_IntStack3_push v6) fun _ =>
    F_Resolver_numberInto_Tree0_J166 k38 v3 v5
  )
def F_Resolver_numberInto_Tree0_J128 (k38 : Int32 → fx_M Unit) (v3 : Int32) (v5 : Int32) (v6 : Int32) (t0 : Int32) (t1 : Int32) : fx_M Unit :=
  if v6 = (-1) then (
    F_Resolver_numberInto_Tree0_J148 k38 v3 v5 v6 (-1) t0 t1
  ) else (
    fx_bnd (F_Resolver_sizeOf v5) fun x10 =>
    F_Resolver_numberInto_Tree0_J148 k38 v3 v5 v6 ((v3 + 1) + x10) t0 t1
  )
def F_Resolver_numberInto_Tree0_B38 (k38 : Int32 → fx_M Unit) (v3 : Int32) : fx_M Unit :=
  if 200 ≤ v3 then (
    fx_ret ()
  ) else (
    fx_bnd (F_IntStack3_size) fun x3 =>
    if x3 ≤ 0 then (
      fx_ret ()
    ) else (
      fx_bnd (F_IntStack3_pop) fun x4 =>
      fx_bnd (F_Resolver_firstOf x4) fun x5 =>
      fx_bnd (F_Resolver_secondOf x4) fun x6 =>
      fx_bnd (F_Row_nodeKindAt x4) fun x7 =>
      fx_bnd (F_Row_operatorAt x4) fun x8 =>
      fx_bnd (F_Row_numberAt x4) fun x9 =>
      fx_bnd (F_Tree0_add x7 x8 x9 x4) fun _ =>
      if x5 = (-1) then (
        F_Resolver_numberInto_Tree0_J128 k38 v3 x5 x6 (-1) v3
      ) else (
        F_Resolver_numberInto_Tree0_J128 k38 v3 x5 x6 (v3 + 1) v3
      )
    )
  )
def F_Resolver_numberInto_Tree0 : fx_M Unit :=
  fx_bnd (F_Tree0_clear) fun _ =>
  fx_bnd (F_IntStack2_top) fun x1 =>
  fx_bnd (F_Resolver_heightOf x1) fun x2 =>
  fx_bnd (F_Tree0_setHeight x2) fun _ =>
  fx_bnd (F_IntStack3_clear) fun _ =>
  fx_bnd (F_IntStack3_push x1) fun _ =>
  fx_loop1 (F_Resolver_numberInto_Tree0_B38) fx_fuel 0
def F_Resolver_mostWaiting : fx_M Int32 :=
  fx_bnd g_Resolver_mostWaiting fun x1 =>
  fx_ret x1
def F_Tree0_size : fx_M Int32 :=
  fx_bnd g_Tree0_size fun x1 =>
  fx_ret x1
def F_FixityTrees_resolve (v1 : Int32) : fx_M (Int32 ⊕ Nat) :=
  fx_bndx (F_FixityTrees_requireScope v1) fun _ =>
  fx_bndx (F_FixityTrees_requireWholeRow) fun _ =>
  fx_bnd (F_Fixities_look_Scopes v1) fun _ =>
  fx_bnd (F_Resolver_run) fun _ =>
  fx_bnd (F_Resolver_clashKind) fun x1 =>
  fx_bnd (p_FixityTrees_clashKind x1) fun _ =>
  fx_bnd (F_Resolver_clashWaiting) fun x2 =>
  fx_bnd (p_FixityTrees_clashWaiting x2) fun _ =>
  fx_bnd (F_Resolver_clashOther) fun x3 =>
  fx_bnd (p_FixityTrees_clashOther x3) fun _ =>
  fx_bnd g_FixityTrees_clashKind fun x4 =>
  if x4 = (-1) then (
    fx_bnd (F_Resolver_numberInto_Tree0) fun _ =>
    fx_bnd (F_Resolver_mostWaiting) fun x5 =>
    fx_bnd (p_FixityTrees_mostWaiting x5) fun _ =>
    fx_bnd (F_Tree0_size) fun x6 =>
    fx_ret (.inl x6)
  ) else (
    fx_bnd (F_Tree0_clear) fun _ =>
    fx_ret (.inl (-1))
  )
def F_FixityTrees_clash (v1 : Int32) : fx_M (Int32 ⊕ Nat) :=
  if v1 = 0 then (
    fx_bnd g_FixityTrees_clashKind fun x1 =>
    fx_ret (.inl x1)
  ) else (
  if v1 = 1 then (
    fx_bnd g_FixityTrees_clashWaiting fun x2 =>
    fx_ret (.inl x2)
  ) else (
  if v1 = 2 then (
    fx_bnd g_FixityTrees_clashOther fun x3 =>
    fx_ret (.inl x3)
  ) else (
    fx_thr 2
  )))
def F_Tree0_kindAt (v1 : Int32) : fx_M Int32 :=
  fx_bnd (F_Tree0_has v1) fun x1 =>
  if x1 = 0 then (
    fx_ret (-1)
  ) else (
    fx_bnd (l_Tree0_kinds v1) fun x2 =>
    fx_ret x2
  )
def F_Tree0_operatorAt (v1 : Int32) : fx_M Int32 :=
  fx_bnd (F_Tree0_has v1) fun x1 =>
  if x1 = 0 then (
    fx_ret (-1)
  ) else (
    fx_bnd (l_Tree0_operators v1) fun x2 =>
    fx_ret x2
  )
def F_Tree0_firstAt (v1 : Int32) : fx_M Int32 :=
  fx_bnd (F_Tree0_has v1) fun x1 =>
  if x1 = 0 then (
    fx_ret (-1)
  ) else (
    fx_bnd (l_Tree0_firsts v1) fun x2 =>
    fx_ret x2
  )
def F_Tree0_secondAt (v1 : Int32) : fx_M Int32 :=
  fx_bnd (F_Tree0_has v1) fun x1 =>
  if x1 = 0 then (
    fx_ret (-1)
  ) else (
    fx_bnd (l_Tree0_seconds v1) fun x2 =>
    fx_ret x2
  )
def F_Tree0_placeAt (v1 : Int32) : fx_M Int32 :=
  fx_bnd (F_Tree0_has v1) fun x1 =>
  if x1 = 0 then (
    fx_ret (-1)
  ) else (
    fx_bnd (l_Tree0_places v1) fun x2 =>
    fx_ret x2
  )
def F_FixityTrees_node (v1 : Int32) (v2 : Int32) : fx_M (Int32 ⊕ Nat) :=
  fx_bnd (F_Tree0_has v1) fun x1 =>
  if x1 = 0 then (
    fx_thr 0
  ) else (
    if v2 = 0 then (
      fx_bnd (F_Tree0_kindAt v1) fun x2 =>
      fx_ret (.inl x2)
    ) else (
    if v2 = 1 then (
      fx_bnd (F_Tree0_operatorAt v1) fun x3 =>
      fx_ret (.inl x3)
    ) else (
    if v2 = 2 then (
      fx_bnd (F_Tree0_firstAt v1) fun x4 =>
      fx_ret (.inl x4)
    ) else (
    if v2 = 3 then (
      fx_bnd (F_Tree0_secondAt v1) fun x5 =>
      fx_ret (.inl x5)
    ) else (
    if v2 = 4 then (
      fx_bnd (F_Tree0_placeAt v1) fun x6 =>
      fx_ret (.inl x6)
    ) else (
      fx_thr 2
    )))))
  )
def F_Tree0_numberAt (v1 : Int32) : fx_M Int64 :=
  fx_bnd (F_Tree0_has v1) fun x1 =>
  if x1 = 0 then (
    fx_ret 0
  ) else (
    fx_bnd (l_Tree0_numbers v1) fun x2 =>
    fx_ret x2
  )
def F_FixityTrees_number (v1 : Int32) : fx_M (Int64 ⊕ Nat) :=
  fx_bnd (F_Tree0_kindAt v1) fun x1 =>
  if x1 = 0 then (
    fx_bnd (F_Tree0_numberAt v1) fun x2 =>
    fx_ret (.inl x2)
  ) else (
    fx_thr 0
  )
def F_FixityTrees_requireTree : fx_M (Unit ⊕ Nat) :=
  fx_bnd (F_Tree0_size) fun x1 =>
  if x1 = 0 then (
    fx_thr 1
  ) else (
    fx_ret (.inl ())
  )
def F_Written_isNode (v0 : Int32) : fx_M Int32 :=
  if v0 < 0 then (
    fx_retz 0
  ) else (
    if 200 ≤ v0 then (
      fx_retz 0
    ) else (
      fx_retz 1
    )
  )
def F_Written_widthOf (v1 : Int32) : fx_M Int32 :=
  fx_bnd (F_Written_isNode v1) fun x1 =>
  if x1 = 0 then (
    fx_ret 0
  ) else (
    fx_bnd (l_Written_widths v1) fun x2 =>
    fx_ret x2
  )
def F_Written_setStart (v1 : Int32) (v2 : Int32) : fx_M Unit :=
  fx_bnd (F_Written_isNode v1) fun x1 =>
  if x1 = 0 then (
    fx_ret ()
  ) else (
    fx_bnd (s_Written_starts v1 v2) fun _ =>
    fx_ret ()
  )
def F_Written_has (v1 : Int32) : fx_M Int32 :=
  if v1 < 0 then (
    fx_retz 0
  ) else (
    fx_bnd g_Written_size fun x1 =>
    if x1 ≤ v1 then (
      fx_retz 0
    ) else (
      if 600 ≤ v1 then (
        fx_retz 0
      ) else (
        fx_retz 1
      )
    )
  )
def F_Written_kindAt (v1 : Int32) : fx_M Int32 :=
  fx_bnd (F_Written_has v1) fun x1 =>
  if x1 = 0 then (
    fx_ret (-1)
  ) else (
    fx_bnd (l_Written_kinds v1) fun x2 =>
    fx_ret x2
  )
def F_Written_countOpen_J44 (k9 : Int32 → Int32 → fx_M Unit) (v1 : Int32) (v2 : Int32) : fx_M Unit :=
  fx_bnd g_Written_mostOpen fun x4 =>
  fx_bnd (fx_pur (if x4 < v1 then v1 else x4)) fun x5 =>
  fx_bnd (p_Written_mostOpen x5) fun _ =>
  fx_bnd (fx_pur (v2 + 1)) fun x6 =>
  k9 v1 x6
def F_Written_countOpen_B9 (k9 : Int32 → Int32 → fx_M Unit) (v1 : Int32) (v2 : Int32) : fx_M Unit :=
  fx_bnd g_Written_size fun x1 =>
  if x1 ≤ v2 then (
    fx_ret ()
  ) else (
    fx_bnd (F_Written_kindAt v2) fun x2 =>
    if x2 = 3 then (
      fx_bnd (fx_pur (v1 + 1)) fun x8 =>
      F_Written_countOpen_J44 k9 x8 v2
    ) else (
      fx_bnd (F_Written_kindAt v2) fun x3 =>
      if x3 = 4 then (
        fx_bnd (fx_pur (v1 + (-1))) fun x7 =>
        F_Written_countOpen_J44 k9 x7 v2
      ) else (
        F_Written_countOpen_J44 k9 v1 v2
      )
    )
  )
def F_Written_countOpen : fx_M Unit :=
  fx_bnd (p_Written_mostOpen 0) fun _ =>
  fx_loop2 (F_Written_countOpen_B9) fx_fuel 0 0
def F_Written_firstStandsLeft (v1 : Int32) : fx_M Int32 :=
  fx_bnd (F_Tree0_kindAt v1) fun x1 =>
  if x1 = 1 then (
    fx_retz 1
  ) else (
    if x1 = 3 then (
      fx_retz 1
    ) else (
      fx_retz 0
    )
  )
def F_Written_isSection (v1 : Int32) : fx_M Int32 :=
  fx_bnd (F_Tree0_kindAt v1) fun x1 =>
  if x1 = 3 then (
    fx_retz 1
  ) else (
    if x1 = 4 then (
      fx_retz 1
    ) else (
      fx_retz 0
    )
  )
def F_Written_put (v1 : Int32) (v2 : Int32) (v3 : Int32) (v4 : Int32) (v5 : Int64) : fx_M Unit :=
  fx_bnd (F_Written_has v1) fun x1 =>
  if x1 = 0 then (
    fx_ret ()
  ) else (
    fx_bnd (s_Written_kinds v1 v2) fun _ =>
    fx_bnd (s_Written_operators v1 v3) fun _ =>
    fx_bnd (s_Written_nodes v1 v4) fun _ =>
    fx_bnd (s_Written_numbers v1 v5) fun _ =>
    fx_ret ()
  )
def F_Written_lay_J145 (v1 : Int32) (v4 : Int32) (t0 : Int32) (t1 : Int32) : fx_M Unit :=
  fx_bnd (F_Written_setStart t1 t0) fun _ =>
  fx_bnd (F_Tree0_secondAt v1) fun x11 =>
  fx_bnd (F_Written_setStart x11 (v4 + 1)) fun _ =>
  fx_ret ()
def F_Written_lay_J107 (v1 : Int32) (v2 : Int32) (v3 : Int32) (v4 : Int32) (t0 : Int32) (t1 : Int32) : fx_M Unit :=
  fx_bnd (F_Tree0_operatorAt v1) fun x8 =>
  fx_bnd (F_Tree0_numberAt v1) fun x9 =>
  fx_bnd (F_Written_put t1 t0 x8 v1 x9) fun _ =>
  fx_bnd (F_Written_firstStandsLeft v1) fun x10 =>
  if x10 = 0 then (
    F_Written_lay_J145 v1 v4 (v4 + 1) v3
  ) else (
    F_Written_lay_J145 v1 v4 v2 v3
  )
def F_Written_lay_J82 (v1 : Int32) (v2 : Int32) (v3 : Int32) (t0 : Int32) : fx_M Unit :=
  fx_bnd (F_Written_isSection v1) fun x6 =>
  if x6 = 0 then (
    fx_bnd (F_Tree0_kindAt v1) fun x7 =>
    F_Written_lay_J107 v1 v2 v3 t0 x7 t0
  ) else (
    F_Written_lay_J107 v1 v2 v3 t0 1 t0
  )
def F_Written_lay_J54 (v1 : Int32) (v2 : Int32) : fx_M Unit :=
  fx_bnd (F_Tree0_firstAt v1) fun x4 =>
  fx_bnd (F_Written_firstStandsLeft v1) fun x5 =>
  if x5 = 0 then (
    F_Written_lay_J82 v1 v2 x4 v2
  ) else (
    fx_bnd (F_Written_widthOf x4) fun x12 =>
    F_Written_lay_J82 v1 v2 x4 (v2 + x12)
  )
def F_Written_lay (v1 : Int32) : fx_M Unit :=
  fx_bnd (F_Written_isNode v1) fun x1 =>
  if x1 = 0 then (
    fx_ret ()
  ) else (
    fx_bnd (l_Written_starts v1) fun x2 =>
    fx_bnd (l_Written_bracketed v1) fun x3 =>
    if x3 = 0 then (
      F_Written_lay_J54 v1 x2
    ) else (
      fx_bnd (F_Written_put x2 3 (-1) v1 0) fun _ =>
      fx_bnd (l_Written_widths v1) fun x13 =>
      fx_bnd (F_Written_put ((x2 + x13) - 1) 4 (-1) v1 0) fun _ =>
      fx_bnd (fx_pur (x2 + 1)) fun x14 =>
      F_Written_lay_J54 v1 x14
    )
  )
def F_Written_measure_J21 (v1 : Int32) (t0 : Int32) : fx_M Unit :=
  fx_bnd (F_Tree0_firstAt v1) fun x3 =>
  fx_bnd (F_Written_widthOf x3) fun x4 =>
  fx_bnd (F_Tree0_secondAt v1) fun x5 =>
  fx_bnd (F_Written_widthOf x5) fun x6 =>
  fx_bnd (s_Written_widths v1 ((t0 + x4) + x6)) fun _ =>
  fx_ret ()
def F_Written_measure (v1 : Int32) : fx_M Unit :=
  fx_bnd (F_Written_isNode v1) fun x1 =>
  if x1 = 0 then (
    fx_ret ()
  ) else (
    fx_bnd (l_Written_bracketed v1) fun x2 =>
    if x2 = 0 then (
      F_Written_measure_J21 v1 1
    ) else (
      F_Written_measure_J21 v1 3
    )
  )
def F_Written_fits (v1 : Int32) (v2 : Int32) (v3 : Int32) : fx_M Int32 :=
  fx_bnd (F_Fixities_rankOf v1) fun x1 =>
  fx_bnd (F_Fixities_rankOf v2) fun x2 =>
  if x1 = x2 then (
    fx_bnd (F_Fixities_sideOf v1) fun x3 =>
    if x3 = v3 then (
      fx_bnd (F_Fixities_sideOf v2) fun x4 =>
      if x4 = v3 then (
        fx_retz 1
      ) else (
        fx_retz 0
      )
    ) else (
      fx_retz 0
    )
  ) else (
    if x1 ≤ x2 then (
      fx_retz 0
    ) else (
      fx_retz 1
    )
  )
def F_Written_setBrackets (v1 : Int32) (v2 : Int32) : fx_M Unit :=
  fx_bnd (F_Written_isNode v1) fun x1 =>
  if x1 = 0 then (
    fx_ret ()
  ) else (
    fx_bnd (s_Written_bracketed v1 v2) fun _ =>
    fx_ret ()
  )
def F_Written_bracketUnlessFit_J53 (t0 : Int32) (t1 : Int32) : fx_M Unit :=
  fx_bnd (F_Written_setBrackets t1 t0) fun _ =>
  fx_ret ()
def F_Written_bracketUnlessFit_J22 (v1 : Int32) (v2 : Int32) (v3 : Int32) : fx_M Unit :=
  fx_bnd (F_Tree0_operatorAt v2) fun x2 =>
  fx_bnd (F_Tree0_operatorAt v1) fun x3 =>
  fx_bnd (F_Written_fits x2 x3 v3) fun x4 =>
  if x4 = 0 then (
    F_Written_bracketUnlessFit_J53 1 v2
  ) else (
    F_Written_bracketUnlessFit_J53 0 v2
  )
def F_Written_bracketUnlessFit (v1 : Int32) (v2 : Int32) (v3 : Int32) : fx_M Unit :=
  fx_bnd (F_Tree0_kindAt v2) fun x1 =>
  if x1 = 1 then (
    F_Written_bracketUnlessFit_J22 v1 v2 v3
  ) else (
    if x1 = 2 then (
      F_Written_bracketUnlessFit_J22 v1 v2 v3
    ) else (
      fx_ret ()
    )
  )
def F_Written_fill_B130 (k130 : Int32 → fx_M Unit) (v1 : Int32) : fx_M Unit :=
  fx_bnd (F_Tree0_size) fun x6 =>
  if x6 ≤ v1 then (
    fx_bnd (F_Written_countOpen) fun _ =>
    fx_ret ()
  ) else (
    fx_bnd (F_Written_lay v1) fun _ =>
    fx_bnd (fx_pur (v1 + 1)) fun x7 =>
    k130 x7
  )
def F_Written_fill_B98 (k98 : Int32 → fx_M Unit) (v1 : Int32) : fx_M Unit :=
  if v1 < 0 then (
    fx_bnd (F_Written_widthOf 0) fun x5 =>
    fx_bnd (p_Written_size x5) fun _ =>
    fx_bnd (F_Written_setStart 0 0) fun _ =>
    fx_loop1 (F_Written_fill_B130) fx_fuel 0
  ) else (
    fx_bnd (F_Written_measure v1) fun _ =>
    fx_bnd (fx_pur (v1 + (-1))) fun x8 =>
    k98 x8
  )
def F_Written_fill_J65 (k31 : Int32 → fx_M Unit) (v1 : Int32) (t0 : Int32) (t1 : Int32) (t2 : Int32) : fx_M Unit :=
  fx_bnd (F_Written_bracketUnlessFit t2 t1 t0) fun _ =>
  fx_bnd (F_Tree0_secondAt v1) fun x11 =>
  fx_bnd (F_Written_bracketUnlessFit v1 x11 1) fun _ =>
  fx_bnd (fx_pur (v1 + 1)) fun x12 =>
  k31 x12
def F_Written_fill_B31 (k31 : Int32 → fx_M Unit) (v1 : Int32) : fx_M Unit :=
  fx_bnd (F_Tree0_size) fun x2 =>
  if x2 ≤ v1 then (
    fx_bnd (F_Tree0_size) fun x3 =>
    fx_bnd (fx_pur (x3 - 1)) fun x4 =>
    fx_loop1 (F_Written_fill_B98) fx_fuel x4
  ) else (
    fx_bnd (F_Tree0_firstAt v1) fun x9 =>
    fx_bnd (F_Written_firstStandsLeft v1) fun x10 =>
    if x10 = 0 then (
      F_Written_fill_J65 k31 v1 1 x9 v1
    ) else (
      F_Written_fill_J65 k31 v1 0 x9 v1
    )
  )
def F_Written_fill_B2 (k2 : Int32 → fx_M Unit) (v1 : Int32) : fx_M Unit :=
  fx_bnd (F_Tree0_size) fun x1 =>
  if x1 ≤ v1 then (
    fx_loop1 (F_Written_fill_B31) fx_fuel 0
  ) else (
    fx_bnd (F_Written_isSection v1) fun x13 =>
    fx_bnd (F_Written_setBrackets v1 x13) fun _ =>
    fx_bnd (fx_pur (v1 + 1)) fun x14 =>
    k2 x14
  )
def F_Written_fill : fx_M Unit :=
  fx_loop1 (F_Written_fill_B2) fx_fuel 0
def F_Written_size : fx_M Int32 :=
  fx_bnd g_Written_size fun x1 =>
  fx_ret x1
def F_FixityTrees_write (v1 : Int32) : fx_M (Int32 ⊕ Nat) :=
  fx_bndx (F_FixityTrees_requireScope v1) fun _ =>
  fx_bndx (F_FixityTrees_requireTree) fun _ =>
  fx_bnd (F_Fixities_look_Scopes v1) fun _ =>
  fx_bnd (F_Written_fill) fun _ =>
  fx_bnd (F_Written_size) fun x1 =>
  fx_ret (.inl x1)
def F_Written_operatorAt (v1 : Int32) : fx_M Int32 :=
  fx_bnd (F_Written_has v1) fun x1 =>
  if x1 = 0 then (
    fx_ret (-1)
  ) else (
    fx_bnd (l_Written_operators v1) fun x2 =>
    fx_ret x2
  )
def F_Written_nodeAt (v1 : Int32) : fx_M Int32 :=
  fx_bnd (F_Written_has v1) fun x1 =>
  if x1 = 0 then (
    fx_ret (-1)
  ) else (
    fx_bnd (l_Written_nodes v1) fun x2 =>
    fx_ret x2
  )
def F_FixityTrees_written (v1 : Int32) (v2 : Int32) : fx_M (Int32 ⊕ Nat) :=
  fx_bnd (F_Written_has v1) fun x1 =>
  if x1 = 0 then (
    fx_thr 0
  ) else (
    if v2 = 0 then (
      fx_bnd (F_Written_kindAt v1) fun x2 =>
      fx_ret (.inl x2)
    ) else (
    if v2 = 1 then (
      fx_bnd (F_Written_operatorAt v1) fun x3 =>
      fx_ret (.inl x3)
    ) else (
    if v2 = 2 then (
      fx_bnd (F_Written_nodeAt v1) fun x4 =>
      fx_ret (.inl x4)
    ) else (
      fx_thr 2
    )))
  )
def F_Written_mostOpen : fx_M Int32 :=
  fx_bnd g_Written_mostOpen fun x1 =>
  fx_ret x1
def F_Written_numberAt (v1 : Int32) : fx_M Int64 :=
  fx_bnd (F_Written_has v1) fun x1 =>
  if x1 = 0 then (
    fx_ret 0
  ) else (
    fx_bnd (l_Written_numbers v1) fun x2 =>
    fx_ret x2
  )
def F_FixityTrees_take_B65 (k65 : Int32 → fx_M (Int32 ⊕ Nat)) (v1 : Int32) : fx_M (Int32 ⊕ Nat) :=
  fx_bnd (F_Written_size) fun x4 =>
  if x4 ≤ v1 then (
    fx_bnd (F_Row_size) fun x5 =>
    fx_ret (.inl x5)
  ) else (
    fx_bnd (F_Written_kindAt v1) fun x6 =>
    fx_bnd (F_Written_operatorAt v1) fun x7 =>
    fx_bnd (F_Written_numberAt v1) fun x8 =>
    fx_bnd (F_Row_add x6 x7 x8) fun _ =>
    fx_bnd (fx_pur (v1 + 1)) fun x9 =>
    k65 x9
  )
def F_FixityTrees_take : fx_M (Int32 ⊕ Nat) :=
  fx_bnd (F_Written_size) fun x1 =>
  if x1 = 0 then (
    fx_thr 1
  ) else (
    fx_bnd (F_Written_size) fun x2 =>
    if 200 < x2 then (
      fx_thr 1
    ) else (
      fx_bnd (F_Written_mostOpen) fun x3 =>
      if x3 ≤ 40 then (
        fx_bnd (F_Row_clear 0) fun _ =>
        fx_loop1 (F_FixityTrees_take_B65) fx_fuel 0
      ) else (
        fx_thr 1
      )
    )
  )
def F_Tree1_clear : fx_M Unit :=
  fx_bnd (p_Tree1_size 0) fun _ =>
  fx_bnd (p_Tree1_height 0) fun _ =>
  fx_ret ()
def F_Tree1_setHeight (v1 : Int32) : fx_M Unit :=
  fx_bnd (p_Tree1_height v1) fun _ =>
  fx_ret ()
def F_Tree1_add (v1 : Int32) (v2 : Int32) (v3 : Int64) (v5 : Int32) : fx_M Unit :=
  fx_bnd g_Tree1_size fun x1 =>
  if 200 ≤ x1 then (
    fx_ret ()
  ) else (
    fx_bnd g_Tree1_size fun x2 =>
    fx_bnd (s_Tree1_kinds x2 v1) fun _ =>
    fx_bnd g_Tree1_size fun x3 =>
    fx_bnd (s_Tree1_operators x3 v2) fun _ =>
    fx_bnd g_Tree1_size fun x4 =>
    fx_bnd (s_Tree1_numbers x4 v3) fun _ =>
    fx_bnd g_Tree1_size fun x5 =>
    fx_bnd (s_Tree1_places x5 v5) fun _ =>
    fx_bnd g_Tree1_size fun x6 =>
    fx_bnd (s_Tree1_firsts x6 (-1)) fun _ =>
    fx_bnd g_Tree1_size fun x7 =>
    fx_bnd (s_Tree1_seconds x7 (-1)) fun _ =>
    fx_bnd g_Tree1_size fun x8 =>
    fx_bnd (p_Tree1_size (x8 + 1)) fun _ =>
    fx_ret ()
  )
def F_Tree1_has (v1 : Int32) : fx_M Int32 :=
  if v1 < 0 then (
    fx_retz 0
  ) else (
    fx_bnd g_Tree1_size fun x1 =>
    if x1 ≤ v1 then (
      fx_retz 0
    ) else (
      if 200 ≤ v1 then (
        fx_retz 0
      ) else (
        fx_retz 1
      )
    )
  )
def F_Tree1_join (v1 : Int32) (v2 : Int32) (v3 : Int32) : fx_M Unit :=
  fx_bnd (F_Tree1_has v1) fun x1 =>
  if x1 = 0 then (
    fx_ret ()
  ) else (
    fx_bnd (s_Tree1_firsts v1 v2) fun _ =>
    fx_bnd (s_Tree1_seconds v1 v3) fun _ =>
    fx_ret ()
  )
def F_Resolver_numberInto_Tree1_J181 (k38 : Int32 → fx_M Unit) (v3 : Int32) : fx_M Unit :=
  fx_bnd (fx_pur (v3 + 1)) fun x11 =>
  k38 x11
def F_Resolver_numberInto_Tree1_J166 (k38 : Int32 → fx_M Unit) (v3 : Int32) (v5 : Int32) : fx_M Unit :=
  if v5 = (-1) then (
    F_Resolver_numberInto_Tree1_J181 k38 v3
  ) else (
    fx_bnd (F_IntStack3_push v5) fun _ =>
    F_Resolver_numberInto_Tree1_J181 k38 v3
  )
def F_Resolver_numberInto_Tree1_J148 (k38 : Int32 → fx_M Unit) (v3 : Int32) (v5 : Int32) (v6 : Int32) (t0 : Int32) (t1 : Int32) (t2 : Int32) : fx_M Unit :=
  fx_bnd (F_Tree1_join t2 t1 t0) fun _ =>
  if v6 = (-1) then (
    F_Resolver_numberInto_Tree1_J166 k38 v3 v5
  ) else (
    fx_bnd (F_IntStack3_push v6) fun _ =>
    F_Resolver_numberInto_Tree1_J166 k38 v3 v5
  )
def F_Resolver_numberInto_Tree1_J128 (k38 : Int32 → fx_M Unit) (v3 : Int32) (v5 : Int32) (v6 : Int32) (t0 : Int32) (t1 : Int32) : fx_M Unit :=
  if v6 = (-1) then (
    F_Resolver_numberInto_Tree1_J148 k38 v3 v5 v6 (-1) t0 t1
  ) else (
    fx_bnd (F_Resolver_sizeOf v5) fun x10 =>
    F_Resolver_numberInto_Tree1_J148 k38 v3 v5 v6 ((v3 + 1) + x10) t0 t1
  )
def F_Resolver_numberInto_Tree1_B38 (k38 : Int32 → fx_M Unit) (v3 : Int32) : fx_M Unit :=
  if 200 ≤ v3 then (
    fx_ret ()
  ) else (
    fx_bnd (F_IntStack3_size) fun x3 =>
    if x3 ≤ 0 then (
      fx_ret ()
    ) else (
      fx_bnd (F_IntStack3_pop) fun x4 =>
      fx_bnd (F_Resolver_firstOf x4) fun x5 =>
      fx_bnd (F_Resolver_secondOf x4) fun x6 =>
      fx_bnd (F_Row_nodeKindAt x4) fun x7 =>
      fx_bnd (F_Row_operatorAt x4) fun x8 =>
      fx_bnd (F_Row_numberAt x4) fun x9 =>
      fx_bnd (F_Tree1_add x7 x8 x9 x4) fun _ =>
      if x5 = (-1) then (
        F_Resolver_numberInto_Tree1_J128 k38 v3 x5 x6 (-1) v3
      ) else (
        F_Resolver_numberInto_Tree1_J128 k38 v3 x5 x6 (v3 + 1) v3
      )
    )
  )
def F_Resolver_numberInto_Tree1 : fx_M Unit :=
  fx_bnd (F_Tree1_clear) fun _ =>
  fx_bnd (F_IntStack2_top) fun x1 =>
  fx_bnd (F_Resolver_heightOf x1) fun x2 =>
  fx_bnd (F_Tree1_setHeight x2) fun _ =>
  fx_bnd (F_IntStack3_clear) fun _ =>
  fx_bnd (F_IntStack3_push x1) fun _ =>
  fx_loop1 (F_Resolver_numberInto_Tree1_B38) fx_fuel 0
def F_Tree1_kindAt (v1 : Int32) : fx_M Int32 :=
  fx_bnd (F_Tree1_has v1) fun x1 =>
  if x1 = 0 then (
    fx_ret (-1)
  ) else (
    fx_bnd (l_Tree1_kinds v1) fun x2 =>
    fx_ret x2
  )
def F_Tree1_operatorAt (v1 : Int32) : fx_M Int32 :=
  fx_bnd (F_Tree1_has v1) fun x1 =>
  if x1 = 0 then (
    fx_ret (-1)
  ) else (
    fx_bnd (l_Tree1_operators v1) fun x2 =>
    fx_ret x2
  )
def F_Tree1_numberAt (v1 : Int32) : fx_M Int64 :=
  fx_bnd (F_Tree1_has v1) fun x1 =>
  if x1 = 0 then (
    fx_ret 0
  ) else (
    fx_bnd (l_Tree1_numbers v1) fun x2 =>
    fx_ret x2
  )
def F_Tree1_isLike_Tree0_B15 (k15 : Int32 → fx_M Int32) (v2 : Int32) : fx_M Int32 :=
  fx_bnd g_Tree1_size fun x3 =>
  if x3 ≤ v2 then (
    fx_retz 1
  ) else (
    fx_bnd (F_Tree1_kindAt v2) fun x4 =>
    fx_bnd (F_Tree0_kindAt v2) fun x5 =>
    if x4 = x5 then (
      fx_bnd (F_Tree1_operatorAt v2) fun x6 =>
      fx_bnd (F_Tree0_operatorAt v2) fun x7 =>
      if x6 = x7 then (
        fx_bnd (F_Tree1_numberAt v2) fun x8 =>
        fx_bnd (F_Tree0_numberAt v2) fun x9 =>
        if (lg_cmp x8 x9) = 0 then (
          fx_bnd (fx_pur (v2 + 1)) fun x10 =>
          k15 x10
        ) else (
          fx_retz 0
        )
      ) else (
        fx_retz 0
      )
    ) else (
      fx_retz 0
    )
  )
def F_Tree1_isLike_Tree0 : fx_M Int32 :=
  fx_bnd g_Tree1_size fun x1 =>
  fx_bnd (F_Tree0_size) fun x2 =>
  if x1 = x2 then (
    fx_loop1 (F_Tree1_isLike_Tree0_B15) fx_fuel 0
  ) else (
    fx_retz 0
  )
def F_FixityTrees_same (v1 : Int32) : fx_M (Int32 ⊕ Nat) :=
  fx_bndx (F_FixityTrees_requireScope v1) fun _ =>
  fx_bndx (F_FixityTrees_requireWholeRow) fun _ =>
  fx_bndx (F_FixityTrees_requireTree) fun _ =>
  fx_bnd (F_Fixities_look_Scopes v1) fun _ =>
  fx_bnd (F_Resolver_run) fun _ =>
  fx_bnd (F_Resolver_clashKind) fun x1 =>
  if x1 = (-1) then (
    fx_bnd (F_Resolver_numberInto_Tree1) fun _ =>
    fx_bnd (F_Tree1_isLike_Tree0) fun x2 =>
    fx_retzx x2
  ) else (
    fx_retzx 0
  )
def F_Scopes_size : fx_M Int32 :=
  fx_bnd g_Scopes_size fun x1 =>
  fx_ret x1
def F_Tree0_height : fx_M Int32 :=
  fx_bnd g_Tree0_height fun x1 =>
  fx_ret x1
def F_FixityTrees_told (v1 : Int32) : fx_M (Int32 ⊕ Nat) :=
  if v1 = 0 then (
    fx_bnd (F_Row_size) fun x1 =>
    fx_ret (.inl x1)
  ) else (
  if v1 = 1 then (
    fx_bnd (F_Row_openSize) fun x2 =>
    fx_ret (.inl x2)
  ) else (
  if v1 = 2 then (
    fx_bnd (F_Row_operandIsDue) fun x3 =>
    if x3 = 0 then (
      fx_ret (.inl 0)
    ) else (
      fx_ret (.inl 1)
    )
  ) else (
  if v1 = 3 then (
    fx_bnd (F_Scopes_size) fun x4 =>
    fx_ret (.inl x4)
  ) else (
  if v1 = 4 then (
    fx_bnd (F_Tree0_size) fun x5 =>
    fx_ret (.inl x5)
  ) else (
  if v1 = 5 then (
    fx_bnd g_FixityTrees_mostWaiting fun x6 =>
    fx_ret (.inl x6)
  ) else (
  if v1 = 6 then (
    fx_bnd (F_Tree0_height) fun x7 =>
    fx_ret (.inl x7)
  ) else (
    fx_thr 2
  )))))))
