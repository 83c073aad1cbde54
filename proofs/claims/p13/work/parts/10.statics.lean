-- LeastCost.isWithin
theorem pmX5_isWithin : mFit yX5_isWithin 3 := ⟨by decide +kernel, by decide +kernel, by decide +kernel⟩
noncomputable def fX5_isWithin_d (x0 : Int32) (x1 : Int32) (x2 : Int32) : Int32 :=
  (if x0 < x1 then 0 else (if x2 < x0 then 0 else 1))
theorem fX5_isWithin_ex : ∃ f : Int32 → Int32 → Int32 → Int32, ∀ (x0 : Int32) (x1 : Int32) (x2 : Int32), f x0 x1 x2 = fX5_isWithin_d x0 x1 x2 := ⟨fX5_isWithin_d, fun _ _ _ => rfl⟩
noncomputable def fX5_isWithin : Int32 → Int32 → Int32 → Int32 := Classical.choose fX5_isWithin_ex
theorem fX5_isWithin_eq (x0 : Int32) (x1 : Int32) (x2 : Int32) : fX5_isWithin x0 x1 x2 = fX5_isWithin_d x0 x1 x2 := Classical.choose_spec fX5_isWithin_ex x0 x1 x2
set_option maxHeartbeats 1000000 in
set_option maxRecDepth 100000 in
theorem ctX5_isWithin (l : Launch) (D : va_G) (cI cZ : ClassId) (x0 : Int32) (x1 : Int32) (x2 : Int32) : Met l yX5_isWithin (gw yX5_isWithin cX5_isWithin 3 (some .boolean)) { frames := 0, cells := 0, slots := 0, locals := 0 } (rPc D cI cZ [.int x0, .int x1, .int x2] []) (rQ (fX5_isWithin x0 x1 x2)) 0 0 (fun _ => False) := by
  refine rMet (by decide) (Nat.le_of_ble_eq_true rfl) ?_
  intro p e s m below meth c hx hb hr hlocks hml hown hts hP hK hN ls hl
  have hl : lv_has ls 3 [(0, .int x0), (1, .int x1), (2, .int x2)] := hl
  have hF := (fX5_isWithin_eq x0 x1 x2).trans (fX5_isWithin_d.eq_1 x0 x1 x2)
  refine lv_iload_n hx hb dX5_isWithin_0 rfl (lv_at hl 0 rfl) ?_
  refine lv_iload_n hx hb dX5_isWithin_1 rfl (lv_at hl 1 rfl) ?_
  refine lv_icmp_lt (tgt := 14) hx hb dX5_isWithin_2 (by decide) (fun c_1 => ?_) (fun c_1 => ?_)
  · have hF := hF.trans (if_pos c_1)
    refine lv_iconst (v := 0) hx hb dX5_isWithin_14 (by decide) ?_
    exact rretz hx hb hr hlocks (Or.inl rfl) hF.symm dX5_isWithin_15
  · have hF := hF.trans (if_neg c_1)
    refine lv_iload_n hx hb dX5_isWithin_5 rfl (lv_at hl 0 rfl) ?_
    refine lv_iload_n hx hb dX5_isWithin_6 rfl (lv_at hl 2 rfl) ?_
    refine lv_icmp_gt (tgt := 14) hx hb dX5_isWithin_7 (by decide) (fun c_2 => ?_) (fun c_2 => ?_)
    · have hF := hF.trans (if_pos c_2)
      refine lv_iconst (v := 0) hx hb dX5_isWithin_14 (by decide) ?_
      exact rretz hx hb hr hlocks (Or.inl rfl) hF.symm dX5_isWithin_15
    · have hF := hF.trans (if_neg c_2)
      refine lv_iconst (v := 1) hx hb dX5_isWithin_10 (by decide) ?_
      refine lv_goto (tgt := 15) hx hb dX5_isWithin_11 (by decide) ?_
      exact rretz hx hb hr hlocks (Or.inr rfl) hF.symm dX5_isWithin_15
theorem z_isWithin (a b c : Int32) : fX5_isWithin a b c = 0 ∨ fX5_isWithin a b c = 1 := by
  rw [fX5_isWithin_eq]; unfold fX5_isWithin_d
  split
  · exact Or.inl rfl
  · split
    · exact Or.inl rfl
    · exact Or.inr rfl

-- LeastCost.isVariable
theorem pmX5_isVariable : mFit yX5_isVariable 1 := ⟨by decide +kernel, by decide +kernel, by decide +kernel⟩
noncomputable def fX5_isVariable_d (x0 : Int32) : Int32 :=
  fX5_isWithin x0 1 16
theorem fX5_isVariable_ex : ∃ f : Int32 → Int32, ∀ (x0 : Int32), f x0 = fX5_isVariable_d x0 := ⟨fX5_isVariable_d, fun _ => rfl⟩
noncomputable def fX5_isVariable : Int32 → Int32 := Classical.choose fX5_isVariable_ex
theorem fX5_isVariable_eq (x0 : Int32) : fX5_isVariable x0 = fX5_isVariable_d x0 := Classical.choose_spec fX5_isVariable_ex x0
set_option maxHeartbeats 1000000 in
set_option maxRecDepth 100000 in
theorem ctX5_isVariable (l : Launch) (D : va_G) (cI cZ : ClassId) (x0 : Int32) : Met l yX5_isVariable (gw yX5_isVariable cX5_isVariable 1 (some .boolean)) { frames := 1, cells := 0, slots := 0, locals := 22 } (rPc D cI cZ [.int x0] []) (rQ (fX5_isVariable x0)) 0 0 (fun _ => False) := by
  refine rMet (by decide) (Nat.le_of_ble_eq_true rfl) ?_
  intro p e s m below meth c hx hb hr hlocks hml hown hts hP hK hN ls hl
  have hl : lv_has ls 1 [(0, .int x0)] := hl
  have hF := (fX5_isVariable_eq x0).trans (fX5_isVariable_d.eq_1 x0)
  refine lv_iload_n hx hb dX5_isVariable_0 rfl (lv_at hl 0 rfl) ?_
  refine lv_iconst (v := 1) hx hb dX5_isVariable_1 (by decide) ?_
  refine lv_bipush (v := 16) hx hb dX5_isVariable_2 (by decide) ?_
  have hPc : va_P D vwCl [] _ := hP.sub [] rfl
  refine rback (va_runS (As := [.int x0, .int 1, .int 16]) (rest := []) ⟨hx, hb, hml, hown, hts⟩ (ctX5_isWithin l D cI cZ x0 1 16) ⟨(cB hts kw254 kw252 kw52 pmX5_isWithin ⟨Nat.le_of_ble_eq_true rfl, Nat.le_of_ble_eq_true rfl⟩), hts _ kw253⟩ ⟨rPc_blind, rpre hPc hK hN⟩ rfl rfl hl.1 rfl (lv_room (Nat.le_of_ble_eq_true rfl)) dX5_isVariable_4 ⟨Nat.zero_le _, Nat.zero_le _⟩) ?_
  exact rretz hx hb hr hlocks (z_isWithin _ _ _) hF.symm dX5_isVariable_7
theorem z_isVariable (a : Int32) : fX5_isVariable a = 0 ∨ fX5_isVariable a = 1 := by rw [fX5_isVariable_eq]; exact z_isWithin _ _ _

-- LeastCost.variableOf
theorem pmX5_variableOf : mFit yX5_variableOf 1 := ⟨by decide +kernel, by decide +kernel, by decide +kernel⟩
noncomputable def fX5_variableOf_d (x0 : Int32) : Int32 :=
  (if 0 ≤ x0 then x0 else -x0)
theorem fX5_variableOf_ex : ∃ f : Int32 → Int32, ∀ (x0 : Int32), f x0 = fX5_variableOf_d x0 := ⟨fX5_variableOf_d, fun _ => rfl⟩
noncomputable def fX5_variableOf : Int32 → Int32 := Classical.choose fX5_variableOf_ex
theorem fX5_variableOf_eq (x0 : Int32) : fX5_variableOf x0 = fX5_variableOf_d x0 := Classical.choose_spec fX5_variableOf_ex x0
set_option maxHeartbeats 1000000 in
set_option maxRecDepth 100000 in
theorem ctX5_variableOf (l : Launch) (D : va_G) (cI cZ : ClassId) (x0 : Int32) : Met l yX5_variableOf (gw yX5_variableOf cX5_variableOf 1 (some .int)) { frames := 0, cells := 0, slots := 0, locals := 0 } (rPc D cI cZ [.int x0] []) (rQ (fX5_variableOf x0)) 0 0 (fun _ => False) := by
  refine rMet (by decide) (Nat.le_of_ble_eq_true rfl) ?_
  intro p e s m below meth c hx hb hr hlocks hml hown hts hP hK hN ls hl
  have hl : lv_has ls 1 [(0, .int x0)] := hl
  have hF := (fX5_variableOf_eq x0).trans (fX5_variableOf_d.eq_1 x0)
  refine lv_iload_n hx hb dX5_variableOf_0 rfl (lv_at hl 0 rfl) ?_
  refine lv_if_ge (tgt := 9) hx hb dX5_variableOf_1 (by decide) (fun c_1 => ?_) (fun c_1 => ?_)
  · have hF := hF.trans (if_pos c_1)
    refine lv_iload_n hx hb dX5_variableOf_9 rfl (lv_at hl 0 rfl) ?_
    exact rreti hx hb hr hlocks hF.symm dX5_variableOf_10
  · have hF := hF.trans (if_neg c_1)
    refine lv_iload_n hx hb dX5_variableOf_4 rfl (lv_at hl 0 rfl) ?_
    refine lv_ineg hx hb dX5_variableOf_5 ?_
    refine lv_goto (tgt := 10) hx hb dX5_variableOf_6 (by decide) ?_
    exact rreti hx hb hr hlocks hF.symm dX5_variableOf_10

-- LeastCost.bitOf
theorem pmX5_bitOf : mFit yX5_bitOf 1 := ⟨by decide +kernel, by decide +kernel, by decide +kernel⟩
noncomputable def fX5_bitOf_d (x0 : Int32) : Int32 :=
  1 <<< ((x0 - 1) &&& 31)
theorem fX5_bitOf_ex : ∃ f : Int32 → Int32, ∀ (x0 : Int32), f x0 = fX5_bitOf_d x0 := ⟨fX5_bitOf_d, fun _ => rfl⟩
noncomputable def fX5_bitOf : Int32 → Int32 := Classical.choose fX5_bitOf_ex
theorem fX5_bitOf_eq (x0 : Int32) : fX5_bitOf x0 = fX5_bitOf_d x0 := Classical.choose_spec fX5_bitOf_ex x0
set_option maxHeartbeats 1000000 in
set_option maxRecDepth 100000 in
theorem ctX5_bitOf (l : Launch) (D : va_G) (cI cZ : ClassId) (x0 : Int32) : Met l yX5_bitOf (gw yX5_bitOf cX5_bitOf 1 (some .int)) { frames := 0, cells := 0, slots := 0, locals := 0 } (rPc D cI cZ [.int x0] []) (rQ (fX5_bitOf x0)) 0 0 (fun _ => False) := by
  refine rMet (by decide) (Nat.le_of_ble_eq_true rfl) ?_
  intro p e s m below meth c hx hb hr hlocks hml hown hts hP hK hN ls hl
  have hl : lv_has ls 1 [(0, .int x0)] := hl
  have hF := (fX5_bitOf_eq x0).trans (fX5_bitOf_d.eq_1 x0)
  refine lv_iconst (v := 1) hx hb dX5_bitOf_0 (by decide) ?_
  refine lv_iload_n hx hb dX5_bitOf_1 rfl (lv_at hl 0 rfl) ?_
  refine lv_iconst (v := 1) hx hb dX5_bitOf_2 (by decide) ?_
  refine lv_isub hx hb dX5_bitOf_3 ?_
  refine lv_ishl hx hb dX5_bitOf_4 ?_
  exact rreti hx hb hr hlocks hF.symm dX5_bitOf_5

-- LeastCost.limitBelow
theorem pmX5_limitBelow : mFit yX5_limitBelow 1 := ⟨by decide +kernel, by decide +kernel, by decide +kernel⟩
noncomputable def fX5_limitBelow_d (x0 : Int32) : Int32 :=
  (if x0 = (-1) then 2097152 else x0 - 1)
theorem fX5_limitBelow_ex : ∃ f : Int32 → Int32, ∀ (x0 : Int32), f x0 = fX5_limitBelow_d x0 := ⟨fX5_limitBelow_d, fun _ => rfl⟩
noncomputable def fX5_limitBelow : Int32 → Int32 := Classical.choose fX5_limitBelow_ex
theorem fX5_limitBelow_eq (x0 : Int32) : fX5_limitBelow x0 = fX5_limitBelow_d x0 := Classical.choose_spec fX5_limitBelow_ex x0
set_option maxHeartbeats 1000000 in
set_option maxRecDepth 100000 in
theorem ctX5_limitBelow (l : Launch) (D : va_G) (cI cZ : ClassId) (x0 : Int32) : Met l yX5_limitBelow (gw yX5_limitBelow cX5_limitBelow 1 (some .int)) { frames := 0, cells := 0, slots := 0, locals := 0 } (rPc D cI cZ [.int x0] []) (rQ (fX5_limitBelow x0)) 0 0 (fun _ => False) := by
  refine rMet (by decide) (Nat.le_of_ble_eq_true rfl) ?_
  intro p e s m below meth c hx hb hr hlocks hml hown hts hP hK hN ls hl
  have hl : lv_has ls 1 [(0, .int x0)] := hl
  have hF := (fX5_limitBelow_eq x0).trans (fX5_limitBelow_d.eq_1 x0)
  refine lv_iload_n hx hb dX5_limitBelow_0 rfl (lv_at hl 0 rfl) ?_
  refine lv_iconst (v := (-1)) hx hb dX5_limitBelow_1 (by decide) ?_
  refine lv_icmp_ne (tgt := 10) hx hb dX5_limitBelow_2 (by decide) (fun c_1 => ?_) (fun c_1 => ?_)
  · have hF := hF.trans (if_neg c_1)
    refine lv_iload_n hx hb dX5_limitBelow_10 rfl (lv_at hl 0 rfl) ?_
    refine lv_iconst (v := 1) hx hb dX5_limitBelow_11 (by decide) ?_
    refine lv_isub hx hb dX5_limitBelow_12 ?_
    exact rreti hx hb hr hlocks hF.symm dX5_limitBelow_13
  · have hF := hF.trans (if_pos c_1)
    refine lv_ldc (v := 2097152) hx hb hown (hts _ kw294) dX5_limitBelow_5 ?_
    refine lv_goto (tgt := 13) hx hb dX5_limitBelow_7 (by decide) ?_
    exact rreti hx hb hr hlocks hF.symm dX5_limitBelow_13
