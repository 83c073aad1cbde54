-- LeastCostModel.isIn
theorem pmX6_isIn : mFit yX6_isIn 3 := ⟨by decide +kernel, by decide +kernel, by decide +kernel⟩
noncomputable def fX6_isIn_d (x0 : Int32) (x1 : Int32) (x2 : Int32) : Int32 :=
  (if x0 < x1 then 0 else (if x2 < x0 then 0 else 1))
theorem fX6_isIn_ex : ∃ f : Int32 → Int32 → Int32 → Int32, ∀ (x0 : Int32) (x1 : Int32) (x2 : Int32), f x0 x1 x2 = fX6_isIn_d x0 x1 x2 := ⟨fX6_isIn_d, fun _ _ _ => rfl⟩
noncomputable def fX6_isIn : Int32 → Int32 → Int32 → Int32 := Classical.choose fX6_isIn_ex
theorem fX6_isIn_eq (x0 : Int32) (x1 : Int32) (x2 : Int32) : fX6_isIn x0 x1 x2 = fX6_isIn_d x0 x1 x2 := Classical.choose_spec fX6_isIn_ex x0 x1 x2
set_option maxHeartbeats 1000000 in
set_option maxRecDepth 100000 in
theorem ctX6_isIn (l : Launch) (D : va_G) (cI cZ : ClassId) (x0 : Int32) (x1 : Int32) (x2 : Int32) : Met l yX6_isIn (gw yX6_isIn cX6_isIn 3 (some .boolean)) { frames := 0, cells := 0, slots := 0, locals := 0 } (rPc D cI cZ [.int x0, .int x1, .int x2] []) (rQ (fX6_isIn x0 x1 x2)) 0 0 (fun _ => False) := by
  refine rMet (by decide) (Nat.le_of_ble_eq_true rfl) ?_
  intro p e s m below meth c hx hb hr hlocks hml hown hts hP hK hN ls hl
  have hl : lv_has ls 3 [(0, .int x0), (1, .int x1), (2, .int x2)] := hl
  have hF := (fX6_isIn_eq x0 x1 x2).trans (fX6_isIn_d.eq_1 x0 x1 x2)
  refine lv_iload_n hx hb dX6_isIn_0 rfl (lv_at hl 0 rfl) ?_
  refine lv_iload_n hx hb dX6_isIn_1 rfl (lv_at hl 1 rfl) ?_
  refine lv_icmp_lt (tgt := 14) hx hb dX6_isIn_2 (by decide) (fun c_1 => ?_) (fun c_1 => ?_)
  · have hF := hF.trans (if_pos c_1)
    refine lv_iconst (v := 0) hx hb dX6_isIn_14 (by decide) ?_
    exact rretz hx hb hr hlocks (Or.inl rfl) hF.symm dX6_isIn_15
  · have hF := hF.trans (if_neg c_1)
    refine lv_iload_n hx hb dX6_isIn_5 rfl (lv_at hl 0 rfl) ?_
    refine lv_iload_n hx hb dX6_isIn_6 rfl (lv_at hl 2 rfl) ?_
    refine lv_icmp_gt (tgt := 14) hx hb dX6_isIn_7 (by decide) (fun c_2 => ?_) (fun c_2 => ?_)
    · have hF := hF.trans (if_pos c_2)
      refine lv_iconst (v := 0) hx hb dX6_isIn_14 (by decide) ?_
      exact rretz hx hb hr hlocks (Or.inl rfl) hF.symm dX6_isIn_15
    · have hF := hF.trans (if_neg c_2)
      refine lv_iconst (v := 1) hx hb dX6_isIn_10 (by decide) ?_
      refine lv_goto (tgt := 15) hx hb dX6_isIn_11 (by decide) ?_
      exact rretz hx hb hr hlocks (Or.inr rfl) hF.symm dX6_isIn_15
theorem isIn_eq (a b c : Int32) : fX6_isIn a b c = fX5_isWithin a b c := by
  rw [fX6_isIn_eq, fX5_isWithin_eq]; rfl

-- LeastCostModel.setCost
theorem pmX6_setCost : mFit yX6_setCost 2 := ⟨by decide +kernel, by decide +kernel, by decide +kernel⟩
noncomputable def fX6_setCost_d (x1 : Int32) (x2 : Int32) (v_begun : Int32) (v_costs : Nat → Int32) : Int32 × (Nat → Int32) :=
  (if v_begun = 0 then (if (fX6_isIn x1 1 16) = 0 then ((-1), v_costs) else (if (fX6_isIn x2 0 32767) = 0 then ((-1), v_costs) else (0, (upd v_costs x1.toNatClampNeg x2)))) else ((-1), v_costs))
theorem fX6_setCost_ex : ∃ f : Int32 → Int32 → Int32 → (Nat → Int32) → (Int32 × (Nat → Int32)), ∀ (x1 : Int32) (x2 : Int32) (v_begun : Int32) (v_costs : Nat → Int32), f x1 x2 v_begun v_costs = fX6_setCost_d x1 x2 v_begun v_costs := ⟨fX6_setCost_d, fun _ _ _ _ => rfl⟩
noncomputable def fX6_setCost : Int32 → Int32 → Int32 → (Nat → Int32) → (Int32 × (Nat → Int32)) := Classical.choose fX6_setCost_ex
theorem fX6_setCost_eq (x1 : Int32) (x2 : Int32) (v_begun : Int32) (v_costs : Nat → Int32) : fX6_setCost x1 x2 v_begun v_costs = fX6_setCost_d x1 x2 v_begun v_costs := Classical.choose_spec fX6_setCost_ex x1 x2 v_begun v_costs
set_option maxHeartbeats 1000000 in
set_option maxRecDepth 100000 in
theorem ctX6_setCost (l : Launch) (D : va_G) (cI cZ : ClassId) (h0 h0_costs h0_factors h0_literals h0_begins h0_bounds h0_trail h0_choice h0_log h0_waitSet h0_waitOnes h0_waitDead : Nat) (x1 : Int32) (x2 : Int32) (v_thrown v_constraints v_terms v_begun v_done v_over v_set v_ones v_depth v_searchSet v_searchOnes v_best v_bestOnes v_made v_size v_answer v_looked v_place v_waiting : Int32) (v_costs : Nat → Int32) : Met l yX6_setCost (gw yX6_setCost cX6_setCost 3 (some .int)) { frames := 1, cells := 0, slots := 0, locals := 22 } (wPc D cI cZ [.ref h0, .int x1, .int x2] [(h0, .inr (6, [.int v_thrown, .ref h0_costs, .ref h0_factors, .ref h0_literals, .ref h0_begins, .ref h0_bounds, .int v_constraints, .int v_terms, .int v_begun, .int v_done, .int v_over, .int v_set, .int v_ones, .ref h0_trail, .ref h0_choice, .int v_depth, .int v_searchSet, .int v_searchOnes, .int v_best, .int v_bestOnes, .int v_made, .ref h0_log, .int v_size, .int v_answer, .int v_looked, .int v_place, .int v_waiting, .ref h0_waitSet, .ref h0_waitOnes, .ref h0_waitDead])), (h0_costs, .inl (cI, 17, .inl v_costs))]) (wQ D (some (.int ((fX6_setCost x1 x2 v_begun v_costs).1))) [(h0, .inr (6, [.int v_thrown, .ref h0_costs, .ref h0_factors, .ref h0_literals, .ref h0_begins, .ref h0_bounds, .int v_constraints, .int v_terms, .int v_begun, .int v_done, .int v_over, .int v_set, .int v_ones, .ref h0_trail, .ref h0_choice, .int v_depth, .int v_searchSet, .int v_searchOnes, .int v_best, .int v_bestOnes, .int v_made, .ref h0_log, .int v_size, .int v_answer, .int v_looked, .int v_place, .int v_waiting, .ref h0_waitSet, .ref h0_waitOnes, .ref h0_waitDead])), (h0_costs, .inl (cI, 17, .inl v_costs))] [(h0, .inr (6, [.int v_thrown, .ref h0_costs, .ref h0_factors, .ref h0_literals, .ref h0_begins, .ref h0_bounds, .int v_constraints, .int v_terms, .int v_begun, .int v_done, .int v_over, .int v_set, .int v_ones, .ref h0_trail, .ref h0_choice, .int v_depth, .int v_searchSet, .int v_searchOnes, .int v_best, .int v_bestOnes, .int v_made, .ref h0_log, .int v_size, .int v_answer, .int v_looked, .int v_place, .int v_waiting, .ref h0_waitSet, .ref h0_waitOnes, .ref h0_waitDead])), (h0_costs, .inl (cI, 17, .inl ((fX6_setCost x1 x2 v_begun v_costs).2)))]) 0 0 (aw [(h0, .inr (6, [.int v_thrown, .ref h0_costs, .ref h0_factors, .ref h0_literals, .ref h0_begins, .ref h0_bounds, .int v_constraints, .int v_terms, .int v_begun, .int v_done, .int v_over, .int v_set, .int v_ones, .ref h0_trail, .ref h0_choice, .int v_depth, .int v_searchSet, .int v_searchOnes, .int v_best, .int v_bestOnes, .int v_made, .ref h0_log, .int v_size, .int v_answer, .int v_looked, .int v_place, .int v_waiting, .ref h0_waitSet, .ref h0_waitOnes, .ref h0_waitDead])), (h0_costs, .inl (cI, 17, .inl v_costs))]) := by
  refine wMet (by decide) (Nat.le_of_ble_eq_true rfl) ?_
  intro p e s m below meth c hx hb hr hlocks hml hown hts hP hK hN hD hS ls hl
  have hl : lv_has ls 3 [(0, .ref h0), (1, .int x1), (2, .int x2)] := hl
  have hF := (fX6_setCost_eq x1 x2 v_begun v_costs).trans (fX6_setCost_d.eq_1 x1 x2 v_begun v_costs)
  refine lv_aload_n hx hb dX6_setCost_0 rfl (lv_at hl 0 rfl) ?_
  refine va_get (D := D) hx hb hts inX6 hown hK hP 0 rfl rfl 8 (by decide) (hts _ kw481) (fun _ h9 => h9) rfl dX6_setCost_1 ?_
  refine lv_if_ne (tgt := 28) hx hb dX6_setCost_4 (by decide) (fun c_1 => ?_) (fun c_1 => ?_)
  · have hF := hF.trans (if_neg c_1)
    refine lv_iconst (v := (-1)) hx hb dX6_setCost_28 (by decide) ?_
    exact wreti hx hb hr hlocks (by rw [hF]) (by rw [hF]; exact hP) hS dX6_setCost_29
  · have hF := hF.trans (if_pos c_1)
    refine lv_iload_n hx hb dX6_setCost_7 rfl (lv_at hl 1 rfl) ?_
    refine lv_iconst (v := 1) hx hb dX6_setCost_8 (by decide) ?_
    refine lv_bipush (v := 16) hx hb dX6_setCost_9 (by decide) ?_
    have hPc : va_P D vwCl [] _ := hP.sub [] rfl
    refine rback (va_runS (As := [.int x1, .int 1, .int 16]) (rest := []) ⟨hx, hb, hml, hown, hts⟩ (ctX6_isIn l D cI cZ x1 1 16) ⟨(cB hts kw570 kw568 kw58 pmX6_isIn ⟨Nat.le_of_ble_eq_true rfl, Nat.le_of_ble_eq_true rfl⟩), hts _ kw569⟩ ⟨rPc_blind, rpre hPc hK hN⟩ rfl rfl hl.1 rfl (lv_room (Nat.le_of_ble_eq_true rfl)) dX6_setCost_11 ⟨Nat.zero_le _, Nat.zero_le _⟩) ?_
    refine lv_if_eq (tgt := 28) hx hb dX6_setCost_14 (by decide) (fun c_2 => ?_) (fun c_2 => ?_)
    · have hF := hF.trans (if_pos c_2)
      refine lv_iconst (v := (-1)) hx hb dX6_setCost_28 (by decide) ?_
      exact wreti hx hb hr hlocks (by rw [hF]) (by rw [hF]; exact hP) hS dX6_setCost_29
    · have hF := hF.trans (if_neg c_2)
      refine lv_iload_n hx hb dX6_setCost_17 rfl (lv_at hl 2 rfl) ?_
      refine lv_iconst (v := 0) hx hb dX6_setCost_18 (by decide) ?_
      refine lv_sipush (v := 32767) hx hb dX6_setCost_19 (by decide) ?_
      have hPc : va_P D vwCl [] _ := hP.sub [] rfl
      refine rback (va_runS (As := [.int x2, .int 0, .int 32767]) (rest := []) ⟨hx, hb, hml, hown, hts⟩ (ctX6_isIn l D cI cZ x2 0 32767) ⟨(cB hts kw570 kw568 kw58 pmX6_isIn ⟨Nat.le_of_ble_eq_true rfl, Nat.le_of_ble_eq_true rfl⟩), hts _ kw569⟩ ⟨rPc_blind, rpre hPc hK hN⟩ rfl rfl hl.1 rfl (lv_room (Nat.le_of_ble_eq_true rfl)) dX6_setCost_22 ⟨Nat.zero_le _, Nat.zero_le _⟩) ?_
      refine lv_if_ne (tgt := 30) hx hb dX6_setCost_25 (by decide) (fun c_3 => ?_) (fun c_3 => ?_)
      · have hF := hF.trans (if_neg c_3)
        refine lv_aload_n hx hb dX6_setCost_30 rfl (lv_at hl 0 rfl) ?_
        refine va_get (D := D) hx hb hts inX6 hown hK hP 0 rfl rfl 1 (by decide) (hts _ kw474) (fun _ h9 => h9) rfl dX6_setCost_31 ?_
        refine lv_iload_n hx hb dX6_setCost_34 rfl (lv_at hl 1 rfl) ?_
        refine lv_iload_n hx hb dX6_setCost_35 rfl (lv_at hl 2 rfl) ?_
        refine va_iast hx hb hK hP hD hS 1 0 rfl rfl (var_in (by rw [fX5_isVariable_eq]; unfold fX5_isVariable_d; rw [← isIn_eq]; exact c_2)) dX6_setCost_36 (fun H locs hP hD hS => ?_)
        have hP : va_P D vwCl [(h0, .inr (6, [.int v_thrown, .ref h0_costs, .ref h0_factors, .ref h0_literals, .ref h0_begins, .ref h0_bounds, .int v_constraints, .int v_terms, .int v_begun, .int v_done, .int v_over, .int v_set, .int v_ones, .ref h0_trail, .ref h0_choice, .int v_depth, .int v_searchSet, .int v_searchOnes, .int v_best, .int v_bestOnes, .int v_made, .ref h0_log, .int v_size, .int v_answer, .int v_looked, .int v_place, .int v_waiting, .ref h0_waitSet, .ref h0_waitOnes, .ref h0_waitDead])), (h0_costs, .inl (cI, 17, .inl (upd v_costs x1.toNatClampNeg x2)))] H := hP
        have hD : va_D _ [(h0, .inr (6, [.int v_thrown, .ref h0_costs, .ref h0_factors, .ref h0_literals, .ref h0_begins, .ref h0_bounds, .int v_constraints, .int v_terms, .int v_begun, .int v_done, .int v_over, .int v_set, .int v_ones, .ref h0_trail, .ref h0_choice, .int v_depth, .int v_searchSet, .int v_searchOnes, .int v_best, .int v_bestOnes, .int v_made, .ref h0_log, .int v_size, .int v_answer, .int v_looked, .int v_place, .int v_waiting, .ref h0_waitSet, .ref h0_waitOnes, .ref h0_waitDead])), (h0_costs, .inl (cI, 17, .inl (upd v_costs x1.toNatClampNeg x2)))] := hD
        refine lv_iconst (v := 0) hx hb dX6_setCost_37 (by decide) ?_
        exact wreti hx hb hr hlocks (by rw [hF]) (by rw [hF]; exact hP) hS dX6_setCost_38
      · have hF := hF.trans (if_pos c_3)
        refine lv_iconst (v := (-1)) hx hb dX6_setCost_28 (by decide) ?_
        exact wreti hx hb hr hlocks (by rw [hF]) (by rw [hF]; exact hP) hS dX6_setCost_29

-- LeastCostModel.term
theorem pmX6_term : mFit yX6_term 2 := ⟨by decide +kernel, by decide +kernel, by decide +kernel⟩
noncomputable def fX6_term_L75 (x1 : Int32) (x2 : Int32) (v_constraints : Int32) (v_terms : Int32) (v_begun : Int32) (v_factors : Nat → Int32) (v_literals : Nat → Int32) (v_begins : Nat → Int32) : Nat → Int32 → Int32 → Int32 × Int32 × (Nat → Int32) × (Nat → Int32)
  | 0, l4, l5 => (0, v_terms, v_factors, v_literals)
  | n + 1, l4, l5 => (if l4 = 0 then (if l4 = 0 then ((-1), v_terms, v_factors, v_literals) else (0, v_terms + 1, (upd v_factors v_terms.toNatClampNeg x1), (upd v_literals v_terms.toNatClampNeg x2))) else (if v_terms ≤ l5 then (if l4 = 0 then ((-1), v_terms, v_factors, v_literals) else (0, v_terms + 1, (upd v_factors v_terms.toNatClampNeg x1), (upd v_literals v_terms.toNatClampNeg x2))) else (if (v_literals l5.toNatClampNeg) = x2 then fX6_term_L75 x1 x2 v_constraints v_terms v_begun v_factors v_literals v_begins n 0 (l5 + 1) else (if (v_literals l5.toNatClampNeg) = (-x2) then fX6_term_L75 x1 x2 v_constraints v_terms v_begun v_factors v_literals v_begins n 0 (l5 + 1) else fX6_term_L75 x1 x2 v_constraints v_terms v_begun v_factors v_literals v_begins n 1 (l5 + 1)))))
noncomputable def fX6_term_d (x1 : Int32) (x2 : Int32) (v_constraints : Int32) (v_terms : Int32) (v_begun : Int32) (v_factors : Nat → Int32) (v_literals : Nat → Int32) (v_begins : Nat → Int32) : Int32 × Int32 × (Nat → Int32) × (Nat → Int32) :=
  (if 0 ≤ x2 then (if v_begun = 0 then (if (fX6_isIn x1 1 32767) = 0 then fX6_term_L75 x1 x2 v_constraints v_terms v_begun v_factors v_literals v_begins 121 0 (v_begins v_constraints.toNatClampNeg) else (if (fX6_isIn x2 1 16) = 0 then fX6_term_L75 x1 x2 v_constraints v_terms v_begun v_factors v_literals v_begins 121 0 (v_begins v_constraints.toNatClampNeg) else (if 120 ≤ v_terms then fX6_term_L75 x1 x2 v_constraints v_terms v_begun v_factors v_literals v_begins 121 0 (v_begins v_constraints.toNatClampNeg) else (if 20 ≤ v_constraints then fX6_term_L75 x1 x2 v_constraints v_terms v_begun v_factors v_literals v_begins 121 0 (v_begins v_constraints.toNatClampNeg) else fX6_term_L75 x1 x2 v_constraints v_terms v_begun v_factors v_literals v_begins 121 1 (v_begins v_constraints.toNatClampNeg))))) else fX6_term_L75 x1 x2 v_constraints v_terms v_begun v_factors v_literals v_begins 121 0 (v_begins v_constraints.toNatClampNeg)) else (if v_begun = 0 then (if (fX6_isIn x1 1 32767) = 0 then fX6_term_L75 x1 x2 v_constraints v_terms v_begun v_factors v_literals v_begins 121 0 (v_begins v_constraints.toNatClampNeg) else (if (fX6_isIn (-x2) 1 16) = 0 then fX6_term_L75 x1 x2 v_constraints v_terms v_begun v_factors v_literals v_begins 121 0 (v_begins v_constraints.toNatClampNeg) else (if 120 ≤ v_terms then fX6_term_L75 x1 x2 v_constraints v_terms v_begun v_factors v_literals v_begins 121 0 (v_begins v_constraints.toNatClampNeg) else (if 20 ≤ v_constraints then fX6_term_L75 x1 x2 v_constraints v_terms v_begun v_factors v_literals v_begins 121 0 (v_begins v_constraints.toNatClampNeg) else fX6_term_L75 x1 x2 v_constraints v_terms v_begun v_factors v_literals v_begins 121 1 (v_begins v_constraints.toNatClampNeg))))) else fX6_term_L75 x1 x2 v_constraints v_terms v_begun v_factors v_literals v_begins 121 0 (v_begins v_constraints.toNatClampNeg)))
theorem fX6_term_ex : ∃ f : Int32 → Int32 → Int32 → Int32 → Int32 → (Nat → Int32) → (Nat → Int32) → (Nat → Int32) → (Int32 × Int32 × (Nat → Int32) × (Nat → Int32)), ∀ (x1 : Int32) (x2 : Int32) (v_constraints : Int32) (v_terms : Int32) (v_begun : Int32) (v_factors : Nat → Int32) (v_literals : Nat → Int32) (v_begins : Nat → Int32), f x1 x2 v_constraints v_terms v_begun v_factors v_literals v_begins = fX6_term_d x1 x2 v_constraints v_terms v_begun v_factors v_literals v_begins := ⟨fX6_term_d, fun _ _ _ _ _ _ _ _ => rfl⟩
noncomputable def fX6_term : Int32 → Int32 → Int32 → Int32 → Int32 → (Nat → Int32) → (Nat → Int32) → (Nat → Int32) → (Int32 × Int32 × (Nat → Int32) × (Nat → Int32)) := Classical.choose fX6_term_ex
theorem fX6_term_eq (x1 : Int32) (x2 : Int32) (v_constraints : Int32) (v_terms : Int32) (v_begun : Int32) (v_factors : Nat → Int32) (v_literals : Nat → Int32) (v_begins : Nat → Int32) : fX6_term x1 x2 v_constraints v_terms v_begun v_factors v_literals v_begins = fX6_term_d x1 x2 v_constraints v_terms v_begun v_factors v_literals v_begins := Classical.choose_spec fX6_term_ex x1 x2 v_constraints v_terms v_begun v_factors v_literals v_begins
set_option maxHeartbeats 1000000 in
set_option maxRecDepth 100000 in
theorem ctX6_term (l : Launch) (D : va_G) (cI cZ : ClassId) (h0 h0_costs h0_factors h0_literals h0_begins h0_bounds h0_trail h0_choice h0_log h0_waitSet h0_waitOnes h0_waitDead : Nat) (x1 : Int32) (x2 : Int32) (v_thrown v_constraints v_terms v_begun v_done v_over v_set v_ones v_depth v_searchSet v_searchOnes v_best v_bestOnes v_made v_size v_answer v_looked v_place v_waiting : Int32) (v_factors v_literals v_begins : Nat → Int32) (hT : okN 120 v_terms) (hCn : okN 20 v_constraints) (hB : okN 120 (v_begins v_constraints.toNatClampNeg)) : Met l yX6_term (gw yX6_term cX6_term 6 (some .int)) { frames := 1, cells := 0, slots := 0, locals := 22 } (wPc D cI cZ [.ref h0, .int x1, .int x2] [(h0, .inr (6, [.int v_thrown, .ref h0_costs, .ref h0_factors, .ref h0_literals, .ref h0_begins, .ref h0_bounds, .int v_constraints, .int v_terms, .int v_begun, .int v_done, .int v_over, .int v_set, .int v_ones, .ref h0_trail, .ref h0_choice, .int v_depth, .int v_searchSet, .int v_searchOnes, .int v_best, .int v_bestOnes, .int v_made, .ref h0_log, .int v_size, .int v_answer, .int v_looked, .int v_place, .int v_waiting, .ref h0_waitSet, .ref h0_waitOnes, .ref h0_waitDead])), (h0_factors, .inl (cI, 120, .inl v_factors)), (h0_literals, .inl (cI, 120, .inl v_literals)), (h0_begins, .inl (cI, 22, .inl v_begins))]) (wQ D (some (.int ((fX6_term x1 x2 v_constraints v_terms v_begun v_factors v_literals v_begins).1))) [(h0, .inr (6, [.int v_thrown, .ref h0_costs, .ref h0_factors, .ref h0_literals, .ref h0_begins, .ref h0_bounds, .int v_constraints, .int v_terms, .int v_begun, .int v_done, .int v_over, .int v_set, .int v_ones, .ref h0_trail, .ref h0_choice, .int v_depth, .int v_searchSet, .int v_searchOnes, .int v_best, .int v_bestOnes, .int v_made, .ref h0_log, .int v_size, .int v_answer, .int v_looked, .int v_place, .int v_waiting, .ref h0_waitSet, .ref h0_waitOnes, .ref h0_waitDead])), (h0_factors, .inl (cI, 120, .inl v_factors)), (h0_literals, .inl (cI, 120, .inl v_literals)), (h0_begins, .inl (cI, 22, .inl v_begins))] [(h0, .inr (6, [.int v_thrown, .ref h0_costs, .ref h0_factors, .ref h0_literals, .ref h0_begins, .ref h0_bounds, .int v_constraints, .int ((fX6_term x1 x2 v_constraints v_terms v_begun v_factors v_literals v_begins).2.1), .int v_begun, .int v_done, .int v_over, .int v_set, .int v_ones, .ref h0_trail, .ref h0_choice, .int v_depth, .int v_searchSet, .int v_searchOnes, .int v_best, .int v_bestOnes, .int v_made, .ref h0_log, .int v_size, .int v_answer, .int v_looked, .int v_place, .int v_waiting, .ref h0_waitSet, .ref h0_waitOnes, .ref h0_waitDead])), (h0_factors, .inl (cI, 120, .inl ((fX6_term x1 x2 v_constraints v_terms v_begun v_factors v_literals v_begins).2.2.1))), (h0_literals, .inl (cI, 120, .inl ((fX6_term x1 x2 v_constraints v_terms v_begun v_factors v_literals v_begins).2.2.2))), (h0_begins, .inl (cI, 22, .inl v_begins))]) 0 0 (aw [(h0, .inr (6, [.int v_thrown, .ref h0_costs, .ref h0_factors, .ref h0_literals, .ref h0_begins, .ref h0_bounds, .int v_constraints, .int v_terms, .int v_begun, .int v_done, .int v_over, .int v_set, .int v_ones, .ref h0_trail, .ref h0_choice, .int v_depth, .int v_searchSet, .int v_searchOnes, .int v_best, .int v_bestOnes, .int v_made, .ref h0_log, .int v_size, .int v_answer, .int v_looked, .int v_place, .int v_waiting, .ref h0_waitSet, .ref h0_waitOnes, .ref h0_waitDead])), (h0_factors, .inl (cI, 120, .inl v_factors)), (h0_literals, .inl (cI, 120, .inl v_literals)), (h0_begins, .inl (cI, 22, .inl v_begins))]) := by
  refine wMet (by decide) (Nat.le_of_ble_eq_true rfl) ?_
  intro p e s m below meth c hx hb hr hlocks hml hown hts hP hK hN hD hS ls hl
  have hl : lv_has ls 6 [(0, .ref h0), (1, .int x1), (2, .int x2)] := hl
  have hF := (fX6_term_eq x1 x2 v_constraints v_terms v_begun v_factors v_literals v_begins).trans (fX6_term_d.eq_1 x1 x2 v_constraints v_terms v_begun v_factors v_literals v_begins)
  obtain ⟨T, eT, hT2⟩ := id hT
  obtain ⟨B, eB, hB2⟩ := id hB
  refine lv_iload_n hx hb dX6_term_0 rfl (lv_at hl 2 rfl) ?_
  refine lv_if_ge (tgt := 9) hx hb dX6_term_1 (by decide) (fun c_1 => ?_) (fun c_1 => ?_)
  · have hF := hF.trans (if_pos c_1)
    refine lv_iload_n hx hb dX6_term_9 rfl (lv_at hl 2 rfl) ?_
    refine lv_istore_n (lv' := [(3, .int x2), (0, .ref h0), (1, .int x1), (2, .int x2)]) hx hb dX6_term_10 rfl hl (by decide) rfl (fun ls hl => ?_)
    refine lv_aload_n hx hb dX6_term_11 rfl (lv_at hl 1 rfl) ?_
    refine va_get (D := D) hx hb hts inX6 hown hK hP 0 rfl rfl 8 (by decide) (hts _ kw481) (fun _ h9 => h9) rfl dX6_term_12 ?_
    refine lv_if_ne (tgt := 61) hx hb dX6_term_15 (by decide) (fun c_2 => ?_) (fun c_2 => ?_)
    · have hF := hF.trans (if_neg c_2)
      refine lv_iconst (v := 0) hx hb dX6_term_61 (by decide) ?_
      refine lv_istore (lv' := [(4, .int 0), (3, .int x2), (0, .ref h0), (1, .int x1), (2, .int x2)]) hx hb dX6_term_62 hl (by decide) rfl (fun ls hl => ?_)
      refine lv_aload_n hx hb dX6_term_64 rfl (lv_at hl 2 rfl) ?_
      refine va_get (D := D) hx hb hts inX6 hown hK hP 0 rfl rfl 4 (by decide) (hts _ kw477) (fun _ h9 => h9) rfl dX6_term_65 ?_
      refine lv_aload_n hx hb dX6_term_68 rfl (lv_at hl 2 rfl) ?_
      refine va_get (D := D) hx hb hts inX6 hown hK hP 0 rfl rfl 6 (by decide) (hts _ kw479) (fun _ h9 => h9) rfl dX6_term_69 ?_
      refine va_iald hx hb hK hP 3 0 rfl rfl (okN_inS hCn (by decide) (by decide)) dX6_term_72 ?_
      refine lv_istore (lv' := [(5, .int (v_begins v_constraints.toNatClampNeg)), (4, .int 0), (3, .int x2), (0, .ref h0), (1, .int x1), (2, .int x2)]) hx hb dX6_term_73 hl (by decide) rfl (fun ls hl => ?_)
      have loop75 : ∀ (n : Nat) (k : Nat) (l4 : Int32) (l5 : Int32) , (l5 = nI k ∧ k ≤ 120 ∧ 120 < k + n) → (l4 = 0 ∨ ¬ (120 : Int32) ≤ v_terms) → fX6_term x1 x2 v_constraints v_terms v_begun v_factors v_literals v_begins = fX6_term_L75 x1 x2 v_constraints v_terms v_begun v_factors v_literals v_begins n l4 l5 → ∀ (H : Heap) (locs : List Loc), va_P D vwCl [(h0, .inr (6, [.int v_thrown, .ref h0_costs, .ref h0_factors, .ref h0_literals, .ref h0_begins, .ref h0_bounds, .int v_constraints, .int v_terms, .int v_begun, .int v_done, .int v_over, .int v_set, .int v_ones, .ref h0_trail, .ref h0_choice, .int v_depth, .int v_searchSet, .int v_searchOnes, .int v_best, .int v_bestOnes, .int v_made, .ref h0_log, .int v_size, .int v_answer, .int v_looked, .int v_place, .int v_waiting, .ref h0_waitSet, .ref h0_waitOnes, .ref h0_waitDead])), (h0_factors, .inl (cI, 120, .inl v_factors)), (h0_literals, .inl (cI, 120, .inl v_literals)), (h0_begins, .inl (cI, 22, .inl v_begins))] H → va_D (aw [(h0, .inr (6, [.int v_thrown, .ref h0_costs, .ref h0_factors, .ref h0_literals, .ref h0_begins, .ref h0_bounds, .int v_constraints, .int v_terms, .int v_begun, .int v_done, .int v_over, .int v_set, .int v_ones, .ref h0_trail, .ref h0_choice, .int v_depth, .int v_searchSet, .int v_searchOnes, .int v_best, .int v_bestOnes, .int v_made, .ref h0_log, .int v_size, .int v_answer, .int v_looked, .int v_place, .int v_waiting, .ref h0_waitSet, .ref h0_waitOnes, .ref h0_waitDead])), (h0_factors, .inl (cI, 120, .inl v_factors)), (h0_literals, .inl (cI, 120, .inl v_literals)), (h0_begins, .inl (cI, 22, .inl v_begins))]) [(h0, .inr (6, [.int v_thrown, .ref h0_costs, .ref h0_factors, .ref h0_literals, .ref h0_begins, .ref h0_bounds, .int v_constraints, .int v_terms, .int v_begun, .int v_done, .int v_over, .int v_set, .int v_ones, .ref h0_trail, .ref h0_choice, .int v_depth, .int v_searchSet, .int v_searchOnes, .int v_best, .int v_bestOnes, .int v_made, .ref h0_log, .int v_size, .int v_answer, .int v_looked, .int v_place, .int v_waiting, .ref h0_waitSet, .ref h0_waitOnes, .ref h0_waitDead])), (h0_factors, .inl (cI, 120, .inl v_factors)), (h0_literals, .inl (cI, 120, .inl v_literals)), (h0_begins, .inl (cI, 22, .inl v_begins))] → va_S (aw [(h0, .inr (6, [.int v_thrown, .ref h0_costs, .ref h0_factors, .ref h0_literals, .ref h0_begins, .ref h0_bounds, .int v_constraints, .int v_terms, .int v_begun, .int v_done, .int v_over, .int v_set, .int v_ones, .ref h0_trail, .ref h0_choice, .int v_depth, .int v_searchSet, .int v_searchOnes, .int v_best, .int v_bestOnes, .int v_made, .ref h0_log, .int v_size, .int v_answer, .int v_looked, .int v_place, .int v_waiting, .ref h0_waitSet, .ref h0_waitOnes, .ref h0_waitDead])), (h0_factors, .inl (cI, 120, .inl v_factors)), (h0_literals, .inl (cI, 120, .inl v_literals)), (h0_begins, .inl (cI, 22, .inl v_begins))]) s.heap H locs → ∀ ls : Array Slot, lv_has ls 6 [(4, .int l4), (5, .int l5), (3, .int x2), (0, .ref h0), (1, .int x1), (2, .int x2)] → W p l e { frames := 1, cells := 0, slots := 0, locals := 22 } s m [.ref h0, .int x1, .int x2].toArray below meth c H locs 0 0 (MQ below (wQ D (some (.int ((fX6_term x1 x2 v_constraints v_terms v_begun v_factors v_literals v_begins).1))) [(h0, .inr (6, [.int v_thrown, .ref h0_costs, .ref h0_factors, .ref h0_literals, .ref h0_begins, .ref h0_bounds, .int v_constraints, .int v_terms, .int v_begun, .int v_done, .int v_over, .int v_set, .int v_ones, .ref h0_trail, .ref h0_choice, .int v_depth, .int v_searchSet, .int v_searchOnes, .int v_best, .int v_bestOnes, .int v_made, .ref h0_log, .int v_size, .int v_answer, .int v_looked, .int v_place, .int v_waiting, .ref h0_waitSet, .ref h0_waitOnes, .ref h0_waitDead])), (h0_factors, .inl (cI, 120, .inl v_factors)), (h0_literals, .inl (cI, 120, .inl v_literals)), (h0_begins, .inl (cI, 22, .inl v_begins))] [(h0, .inr (6, [.int v_thrown, .ref h0_costs, .ref h0_factors, .ref h0_literals, .ref h0_begins, .ref h0_bounds, .int v_constraints, .int ((fX6_term x1 x2 v_constraints v_terms v_begun v_factors v_literals v_begins).2.1), .int v_begun, .int v_done, .int v_over, .int v_set, .int v_ones, .ref h0_trail, .ref h0_choice, .int v_depth, .int v_searchSet, .int v_searchOnes, .int v_best, .int v_bestOnes, .int v_made, .ref h0_log, .int v_size, .int v_answer, .int v_looked, .int v_place, .int v_waiting, .ref h0_waitSet, .ref h0_waitOnes, .ref h0_waitDead])), (h0_factors, .inl (cI, 120, .inl ((fX6_term x1 x2 v_constraints v_terms v_begun v_factors v_literals v_begins).2.2.1))), (h0_literals, .inl (cI, 120, .inl ((fX6_term x1 x2 v_constraints v_terms v_begun v_factors v_literals v_begins).2.2.2))), (h0_begins, .inl (cI, 22, .inl v_begins))]) [.ref h0, .int x1, .int x2].toArray s 0 0 (aw [(h0, .inr (6, [.int v_thrown, .ref h0_costs, .ref h0_factors, .ref h0_literals, .ref h0_begins, .ref h0_bounds, .int v_constraints, .int v_terms, .int v_begun, .int v_done, .int v_over, .int v_set, .int v_ones, .ref h0_trail, .ref h0_choice, .int v_depth, .int v_searchSet, .int v_searchOnes, .int v_best, .int v_bestOnes, .int v_made, .ref h0_log, .int v_size, .int v_answer, .int v_looked, .int v_place, .int v_waiting, .ref h0_waitSet, .ref h0_waitOnes, .ref h0_waitDead])), (h0_factors, .inl (cI, 120, .inl v_factors)), (h0_literals, .inl (cI, 120, .inl v_literals)), (h0_begins, .inl (cI, 22, .inl v_begins))])) (F0 m 75 ls []) := by
        intro n
        induction n with
        | zero =>
          intro k l4 l5 hk hg hF
          exact (by obtain ⟨_, h2, h3⟩ := hk; exact absurd h3 (by omega))
        | succ n ih =>
          intro k l4 l5 hk hg hF H locs hP hD hS ls hl
          have hF := hF.trans (fX6_term_L75.eq_2 ..)
          obtain ⟨ek, hk1, hk2⟩ := hk
          refine lv_iload hx hb dX6_term_75 (lv_at hl 0 rfl) ?_
          refine lv_if_eq (tgt := 125) hx hb dX6_term_77 (by decide) (fun c_3 => ?_) (fun c_3 => ?_)
          · have hF := hF.trans (if_pos c_3)
            refine lv_iload hx hb dX6_term_125 (lv_at hl 0 rfl) ?_
            refine lv_if_ne (tgt := 132) hx hb dX6_term_127 (by decide) (fun c_4 => ?_) (fun c_4 => ?_)
            · have hF := hF.trans (if_neg c_4)
              refine lv_aload_n hx hb dX6_term_132 rfl (lv_at hl 3 rfl) ?_
              refine va_get (D := D) hx hb hts inX6 hown hK hP 0 rfl rfl 2 (by decide) (hts _ kw475) (fun _ h9 => h9) rfl dX6_term_133 ?_
              refine lv_aload_n hx hb dX6_term_136 rfl (lv_at hl 3 rfl) ?_
              refine va_get (D := D) hx hb hts inX6 hown hK hP 0 rfl rfl 7 (by decide) (hts _ kw480) (fun _ h9 => h9) rfl dX6_term_137 ?_
              refine lv_iload_n hx hb dX6_term_140 rfl (lv_at hl 4 rfl) ?_
              refine va_iast hx hb hK hP hD hS 1 0 rfl rfl (by rcases hg with h | h <;> first | exact absurd h (by assumption) | exact okN_in hT (by decide) (k_lt_of h)) dX6_term_141 (fun H locs hP hD hS => ?_)
              have hP : va_P D vwCl [(h0, .inr (6, [.int v_thrown, .ref h0_costs, .ref h0_factors, .ref h0_literals, .ref h0_begins, .ref h0_bounds, .int v_constraints, .int v_terms, .int v_begun, .int v_done, .int v_over, .int v_set, .int v_ones, .ref h0_trail, .ref h0_choice, .int v_depth, .int v_searchSet, .int v_searchOnes, .int v_best, .int v_bestOnes, .int v_made, .ref h0_log, .int v_size, .int v_answer, .int v_looked, .int v_place, .int v_waiting, .ref h0_waitSet, .ref h0_waitOnes, .ref h0_waitDead])), (h0_factors, .inl (cI, 120, .inl (upd v_factors v_terms.toNatClampNeg x1))), (h0_literals, .inl (cI, 120, .inl v_literals)), (h0_begins, .inl (cI, 22, .inl v_begins))] H := hP
              have hD : va_D _ [(h0, .inr (6, [.int v_thrown, .ref h0_costs, .ref h0_factors, .ref h0_literals, .ref h0_begins, .ref h0_bounds, .int v_constraints, .int v_terms, .int v_begun, .int v_done, .int v_over, .int v_set, .int v_ones, .ref h0_trail, .ref h0_choice, .int v_depth, .int v_searchSet, .int v_searchOnes, .int v_best, .int v_bestOnes, .int v_made, .ref h0_log, .int v_size, .int v_answer, .int v_looked, .int v_place, .int v_waiting, .ref h0_waitSet, .ref h0_waitOnes, .ref h0_waitDead])), (h0_factors, .inl (cI, 120, .inl (upd v_factors v_terms.toNatClampNeg x1))), (h0_literals, .inl (cI, 120, .inl v_literals)), (h0_begins, .inl (cI, 22, .inl v_begins))] := hD
              refine lv_aload_n hx hb dX6_term_142 rfl (lv_at hl 3 rfl) ?_
              refine va_get (D := D) hx hb hts inX6 hown hK hP 0 rfl rfl 3 (by decide) (hts _ kw476) (fun _ h9 => h9) rfl dX6_term_143 ?_
              refine lv_aload_n hx hb dX6_term_146 rfl (lv_at hl 3 rfl) ?_
              refine va_get (D := D) hx hb hts inX6 hown hK hP 0 rfl rfl 7 (by decide) (hts _ kw480) (fun _ h9 => h9) rfl dX6_term_147 ?_
              refine lv_iload_n hx hb dX6_term_150 rfl (lv_at hl 5 rfl) ?_
              refine va_iast hx hb hK hP hD hS 2 0 rfl rfl (by rcases hg with h | h <;> first | exact absurd h (by assumption) | exact okN_in hT (by decide) (k_lt_of h)) dX6_term_151 (fun H locs hP hD hS => ?_)
              have hP : va_P D vwCl [(h0, .inr (6, [.int v_thrown, .ref h0_costs, .ref h0_factors, .ref h0_literals, .ref h0_begins, .ref h0_bounds, .int v_constraints, .int v_terms, .int v_begun, .int v_done, .int v_over, .int v_set, .int v_ones, .ref h0_trail, .ref h0_choice, .int v_depth, .int v_searchSet, .int v_searchOnes, .int v_best, .int v_bestOnes, .int v_made, .ref h0_log, .int v_size, .int v_answer, .int v_looked, .int v_place, .int v_waiting, .ref h0_waitSet, .ref h0_waitOnes, .ref h0_waitDead])), (h0_factors, .inl (cI, 120, .inl (upd v_factors v_terms.toNatClampNeg x1))), (h0_literals, .inl (cI, 120, .inl (upd v_literals v_terms.toNatClampNeg x2))), (h0_begins, .inl (cI, 22, .inl v_begins))] H := hP
              have hD : va_D _ [(h0, .inr (6, [.int v_thrown, .ref h0_costs, .ref h0_factors, .ref h0_literals, .ref h0_begins, .ref h0_bounds, .int v_constraints, .int v_terms, .int v_begun, .int v_done, .int v_over, .int v_set, .int v_ones, .ref h0_trail, .ref h0_choice, .int v_depth, .int v_searchSet, .int v_searchOnes, .int v_best, .int v_bestOnes, .int v_made, .ref h0_log, .int v_size, .int v_answer, .int v_looked, .int v_place, .int v_waiting, .ref h0_waitSet, .ref h0_waitOnes, .ref h0_waitDead])), (h0_factors, .inl (cI, 120, .inl (upd v_factors v_terms.toNatClampNeg x1))), (h0_literals, .inl (cI, 120, .inl (upd v_literals v_terms.toNatClampNeg x2))), (h0_begins, .inl (cI, 22, .inl v_begins))] := hD
              refine lv_aload_n hx hb dX6_term_152 rfl (lv_at hl 3 rfl) ?_
              refine lv_dup hx hb dX6_term_153 rfl ?_
              refine va_get (D := D) hx hb hts inX6 hown hK hP 0 rfl rfl 7 (by decide) (hts _ kw480) (fun _ h9 => h9) rfl dX6_term_154 ?_
              refine lv_iconst (v := 1) hx hb dX6_term_157 (by decide) ?_
              refine lv_iadd hx hb dX6_term_158 ?_
              refine va_put (D := D) (v := .int (v_terms + 1)) (ty := .int) hx hb hts inX6 tyX6 tyX6_ok nmX6 hown hK hP hD hS 0 rfl rfl 7 (by decide) (hts _ kw480) (fun _ h9 => h9) rfl (by decide +kernel) rfl rfl (Nat.le_of_ble_eq_true rfl) dX6_term_159 (fun H locs hP hD hS => ?_)
              have hP : va_P D vwCl [(h0, .inr (6, [.int v_thrown, .ref h0_costs, .ref h0_factors, .ref h0_literals, .ref h0_begins, .ref h0_bounds, .int v_constraints, .int (v_terms + 1), .int v_begun, .int v_done, .int v_over, .int v_set, .int v_ones, .ref h0_trail, .ref h0_choice, .int v_depth, .int v_searchSet, .int v_searchOnes, .int v_best, .int v_bestOnes, .int v_made, .ref h0_log, .int v_size, .int v_answer, .int v_looked, .int v_place, .int v_waiting, .ref h0_waitSet, .ref h0_waitOnes, .ref h0_waitDead])), (h0_factors, .inl (cI, 120, .inl (upd v_factors v_terms.toNatClampNeg x1))), (h0_literals, .inl (cI, 120, .inl (upd v_literals v_terms.toNatClampNeg x2))), (h0_begins, .inl (cI, 22, .inl v_begins))] H := hP
              have hD : va_D _ [(h0, .inr (6, [.int v_thrown, .ref h0_costs, .ref h0_factors, .ref h0_literals, .ref h0_begins, .ref h0_bounds, .int v_constraints, .int (v_terms + 1), .int v_begun, .int v_done, .int v_over, .int v_set, .int v_ones, .ref h0_trail, .ref h0_choice, .int v_depth, .int v_searchSet, .int v_searchOnes, .int v_best, .int v_bestOnes, .int v_made, .ref h0_log, .int v_size, .int v_answer, .int v_looked, .int v_place, .int v_waiting, .ref h0_waitSet, .ref h0_waitOnes, .ref h0_waitDead])), (h0_factors, .inl (cI, 120, .inl (upd v_factors v_terms.toNatClampNeg x1))), (h0_literals, .inl (cI, 120, .inl (upd v_literals v_terms.toNatClampNeg x2))), (h0_begins, .inl (cI, 22, .inl v_begins))] := hD
              refine lv_iconst (v := 0) hx hb dX6_term_162 (by decide) ?_
              exact wreti hx hb hr hlocks (by rw [hF]) (by rw [hF]; exact hP) hS dX6_term_163
            · have hF := hF.trans (if_pos c_4)
              refine lv_iconst (v := (-1)) hx hb dX6_term_130 (by decide) ?_
              exact wreti hx hb hr hlocks (by rw [hF]) (by rw [hF]; exact hP) hS dX6_term_131
          · have hF := hF.trans (if_neg c_3)
            refine lv_iload hx hb dX6_term_80 (lv_at hl 1 rfl) ?_
            refine lv_aload_n hx hb dX6_term_82 rfl (lv_at hl 3 rfl) ?_
            refine va_get (D := D) hx hb hts inX6 hown hK hP 0 rfl rfl 7 (by decide) (hts _ kw480) (fun _ h9 => h9) rfl dX6_term_83 ?_
            refine lv_icmp_ge (tgt := 125) hx hb dX6_term_86 (by decide) (fun c_5 => ?_) (fun c_5 => ?_)
            · have hF := hF.trans (if_pos c_5)
              refine lv_iload hx hb dX6_term_125 (lv_at hl 0 rfl) ?_
              refine lv_if_ne (tgt := 132) hx hb dX6_term_127 (by decide) (fun c_6 => ?_) (fun c_6 => ?_)
              · have hF := hF.trans (if_neg c_6)
                refine lv_aload_n hx hb dX6_term_132 rfl (lv_at hl 3 rfl) ?_
                refine va_get (D := D) hx hb hts inX6 hown hK hP 0 rfl rfl 2 (by decide) (hts _ kw475) (fun _ h9 => h9) rfl dX6_term_133 ?_
                refine lv_aload_n hx hb dX6_term_136 rfl (lv_at hl 3 rfl) ?_
                refine va_get (D := D) hx hb hts inX6 hown hK hP 0 rfl rfl 7 (by decide) (hts _ kw480) (fun _ h9 => h9) rfl dX6_term_137 ?_
                refine lv_iload_n hx hb dX6_term_140 rfl (lv_at hl 4 rfl) ?_
                refine va_iast hx hb hK hP hD hS 1 0 rfl rfl (by rcases hg with h | h <;> first | exact absurd h (by assumption) | exact okN_in hT (by decide) (k_lt_of h)) dX6_term_141 (fun H locs hP hD hS => ?_)
                have hP : va_P D vwCl [(h0, .inr (6, [.int v_thrown, .ref h0_costs, .ref h0_factors, .ref h0_literals, .ref h0_begins, .ref h0_bounds, .int v_constraints, .int v_terms, .int v_begun, .int v_done, .int v_over, .int v_set, .int v_ones, .ref h0_trail, .ref h0_choice, .int v_depth, .int v_searchSet, .int v_searchOnes, .int v_best, .int v_bestOnes, .int v_made, .ref h0_log, .int v_size, .int v_answer, .int v_looked, .int v_place, .int v_waiting, .ref h0_waitSet, .ref h0_waitOnes, .ref h0_waitDead])), (h0_factors, .inl (cI, 120, .inl (upd v_factors v_terms.toNatClampNeg x1))), (h0_literals, .inl (cI, 120, .inl v_literals)), (h0_begins, .inl (cI, 22, .inl v_begins))] H := hP
                have hD : va_D _ [(h0, .inr (6, [.int v_thrown, .ref h0_costs, .ref h0_factors, .ref h0_literals, .ref h0_begins, .ref h0_bounds, .int v_constraints, .int v_terms, .int v_begun, .int v_done, .int v_over, .int v_set, .int v_ones, .ref h0_trail, .ref h0_choice, .int v_depth, .int v_searchSet, .int v_searchOnes, .int v_best, .int v_bestOnes, .int v_made, .ref h0_log, .int v_size, .int v_answer, .int v_looked, .int v_place, .int v_waiting, .ref h0_waitSet, .ref h0_waitOnes, .ref h0_waitDead])), (h0_factors, .inl (cI, 120, .inl (upd v_factors v_terms.toNatClampNeg x1))), (h0_literals, .inl (cI, 120, .inl v_literals)), (h0_begins, .inl (cI, 22, .inl v_begins))] := hD
                refine lv_aload_n hx hb dX6_term_142 rfl (lv_at hl 3 rfl) ?_
                refine va_get (D := D) hx hb hts inX6 hown hK hP 0 rfl rfl 3 (by decide) (hts _ kw476) (fun _ h9 => h9) rfl dX6_term_143 ?_
                refine lv_aload_n hx hb dX6_term_146 rfl (lv_at hl 3 rfl) ?_
                refine va_get (D := D) hx hb hts inX6 hown hK hP 0 rfl rfl 7 (by decide) (hts _ kw480) (fun _ h9 => h9) rfl dX6_term_147 ?_
                refine lv_iload_n hx hb dX6_term_150 rfl (lv_at hl 5 rfl) ?_
                refine va_iast hx hb hK hP hD hS 2 0 rfl rfl (by rcases hg with h | h <;> first | exact absurd h (by assumption) | exact okN_in hT (by decide) (k_lt_of h)) dX6_term_151 (fun H locs hP hD hS => ?_)
                have hP : va_P D vwCl [(h0, .inr (6, [.int v_thrown, .ref h0_costs, .ref h0_factors, .ref h0_literals, .ref h0_begins, .ref h0_bounds, .int v_constraints, .int v_terms, .int v_begun, .int v_done, .int v_over, .int v_set, .int v_ones, .ref h0_trail, .ref h0_choice, .int v_depth, .int v_searchSet, .int v_searchOnes, .int v_best, .int v_bestOnes, .int v_made, .ref h0_log, .int v_size, .int v_answer, .int v_looked, .int v_place, .int v_waiting, .ref h0_waitSet, .ref h0_waitOnes, .ref h0_waitDead])), (h0_factors, .inl (cI, 120, .inl (upd v_factors v_terms.toNatClampNeg x1))), (h0_literals, .inl (cI, 120, .inl (upd v_literals v_terms.toNatClampNeg x2))), (h0_begins, .inl (cI, 22, .inl v_begins))] H := hP
                have hD : va_D _ [(h0, .inr (6, [.int v_thrown, .ref h0_costs, .ref h0_factors, .ref h0_literals, .ref h0_begins, .ref h0_bounds, .int v_constraints, .int v_terms, .int v_begun, .int v_done, .int v_over, .int v_set, .int v_ones, .ref h0_trail, .ref h0_choice, .int v_depth, .int v_searchSet, .int v_searchOnes, .int v_best, .int v_bestOnes, .int v_made, .ref h0_log, .int v_size, .int v_answer, .int v_looked, .int v_place, .int v_waiting, .ref h0_waitSet, .ref h0_waitOnes, .ref h0_waitDead])), (h0_factors, .inl (cI, 120, .inl (upd v_factors v_terms.toNatClampNeg x1))), (h0_literals, .inl (cI, 120, .inl (upd v_literals v_terms.toNatClampNeg x2))), (h0_begins, .inl (cI, 22, .inl v_begins))] := hD
                refine lv_aload_n hx hb dX6_term_152 rfl (lv_at hl 3 rfl) ?_
                refine lv_dup hx hb dX6_term_153 rfl ?_
                refine va_get (D := D) hx hb hts inX6 hown hK hP 0 rfl rfl 7 (by decide) (hts _ kw480) (fun _ h9 => h9) rfl dX6_term_154 ?_
                refine lv_iconst (v := 1) hx hb dX6_term_157 (by decide) ?_
                refine lv_iadd hx hb dX6_term_158 ?_
                refine va_put (D := D) (v := .int (v_terms + 1)) (ty := .int) hx hb hts inX6 tyX6 tyX6_ok nmX6 hown hK hP hD hS 0 rfl rfl 7 (by decide) (hts _ kw480) (fun _ h9 => h9) rfl (by decide +kernel) rfl rfl (Nat.le_of_ble_eq_true rfl) dX6_term_159 (fun H locs hP hD hS => ?_)
                have hP : va_P D vwCl [(h0, .inr (6, [.int v_thrown, .ref h0_costs, .ref h0_factors, .ref h0_literals, .ref h0_begins, .ref h0_bounds, .int v_constraints, .int (v_terms + 1), .int v_begun, .int v_done, .int v_over, .int v_set, .int v_ones, .ref h0_trail, .ref h0_choice, .int v_depth, .int v_searchSet, .int v_searchOnes, .int v_best, .int v_bestOnes, .int v_made, .ref h0_log, .int v_size, .int v_answer, .int v_looked, .int v_place, .int v_waiting, .ref h0_waitSet, .ref h0_waitOnes, .ref h0_waitDead])), (h0_factors, .inl (cI, 120, .inl (upd v_factors v_terms.toNatClampNeg x1))), (h0_literals, .inl (cI, 120, .inl (upd v_literals v_terms.toNatClampNeg x2))), (h0_begins, .inl (cI, 22, .inl v_begins))] H := hP
                have hD : va_D _ [(h0, .inr (6, [.int v_thrown, .ref h0_costs, .ref h0_factors, .ref h0_literals, .ref h0_begins, .ref h0_bounds, .int v_constraints, .int (v_terms + 1), .int v_begun, .int v_done, .int v_over, .int v_set, .int v_ones, .ref h0_trail, .ref h0_choice, .int v_depth, .int v_searchSet, .int v_searchOnes, .int v_best, .int v_bestOnes, .int v_made, .ref h0_log, .int v_size, .int v_answer, .int v_looked, .int v_place, .int v_waiting, .ref h0_waitSet, .ref h0_waitOnes, .ref h0_waitDead])), (h0_factors, .inl (cI, 120, .inl (upd v_factors v_terms.toNatClampNeg x1))), (h0_literals, .inl (cI, 120, .inl (upd v_literals v_terms.toNatClampNeg x2))), (h0_begins, .inl (cI, 22, .inl v_begins))] := hD
                refine lv_iconst (v := 0) hx hb dX6_term_162 (by decide) ?_
                exact wreti hx hb hr hlocks (by rw [hF]) (by rw [hF]; exact hP) hS dX6_term_163
              · have hF := hF.trans (if_pos c_6)
                refine lv_iconst (v := (-1)) hx hb dX6_term_130 (by decide) ?_
                exact wreti hx hb hr hlocks (by rw [hF]) (by rw [hF]; exact hP) hS dX6_term_131
            · have hF := hF.trans (if_neg c_5)
              refine lv_aload_n hx hb dX6_term_89 rfl (lv_at hl 3 rfl) ?_
              refine va_get (D := D) hx hb hts inX6 hown hK hP 0 rfl rfl 3 (by decide) (hts _ kw476) (fun _ h9 => h9) rfl dX6_term_90 ?_
              refine lv_iload hx hb dX6_term_93 (lv_at hl 1 rfl) ?_
              refine va_iald hx hb hK hP 2 0 rfl rfl (k_in ek (by have := okC_lt ek eT hk1 (by assumption); omega) (by decide)) dX6_term_95 ?_
              refine lv_iload_n hx hb dX6_term_96 rfl (lv_at hl 5 rfl) ?_
              refine lv_icmp_eq (tgt := 116) hx hb dX6_term_97 (by decide) (fun c_7 => ?_) (fun c_7 => ?_)
              · have hF := hF.trans (if_pos c_7)
                refine lv_iconst (v := 0) hx hb dX6_term_116 (by decide) ?_
                refine lv_istore (lv' := [(4, .int 0), (5, .int l5), (3, .int x2), (0, .ref h0), (1, .int x1), (2, .int x2)]) hx hb dX6_term_117 hl (by decide) rfl (fun ls hl => ?_)
                refine lv_iinc (v := l5 + 1) (lv' := [(5, .int (l5 + 1)), (4, .int 0), (3, .int x2), (0, .ref h0), (1, .int x1), (2, .int x2)]) hx hb dX6_term_119 hl (k := 1) rfl rfl (by decide) rfl (fun ls hl => ?_)
                refine lv_goto (tgt := 75) hx hb dX6_term_122 (by decide) ?_
                exact ih (k + 1) 0 (l5 + 1) ⟨k_s ek, by have := okC_lt ek eT hk1 (by assumption); omega, by omega⟩ (by first | exact Or.inl rfl | (rcases hg with h | h <;> first | exact absurd h (by assumption) | exact Or.inr h)) hF H locs hP hD hS ls (lv_sub hl [1, 0, 2, 3, 4, 5] rfl)
              · have hF := hF.trans (if_neg c_7)
                refine lv_aload_n hx hb dX6_term_100 rfl (lv_at hl 3 rfl) ?_
                refine va_get (D := D) hx hb hts inX6 hown hK hP 0 rfl rfl 3 (by decide) (hts _ kw476) (fun _ h9 => h9) rfl dX6_term_101 ?_
                refine lv_iload hx hb dX6_term_104 (lv_at hl 1 rfl) ?_
                refine va_iald hx hb hK hP 2 0 rfl rfl (k_in ek (by have := okC_lt ek eT hk1 (by assumption); omega) (by decide)) dX6_term_106 ?_
                refine lv_iload_n hx hb dX6_term_107 rfl (lv_at hl 5 rfl) ?_
                refine lv_ineg hx hb dX6_term_108 ?_
                refine lv_icmp_eq (tgt := 116) hx hb dX6_term_109 (by decide) (fun c_8 => ?_) (fun c_8 => ?_)
                · have hF := hF.trans (if_pos c_8)
                  refine lv_iconst (v := 0) hx hb dX6_term_116 (by decide) ?_
                  refine lv_istore (lv' := [(4, .int 0), (5, .int l5), (3, .int x2), (0, .ref h0), (1, .int x1), (2, .int x2)]) hx hb dX6_term_117 hl (by decide) rfl (fun ls hl => ?_)
                  refine lv_iinc (v := l5 + 1) (lv' := [(5, .int (l5 + 1)), (4, .int 0), (3, .int x2), (0, .ref h0), (1, .int x1), (2, .int x2)]) hx hb dX6_term_119 hl (k := 1) rfl rfl (by decide) rfl (fun ls hl => ?_)
                  refine lv_goto (tgt := 75) hx hb dX6_term_122 (by decide) ?_
                  exact ih (k + 1) 0 (l5 + 1) ⟨k_s ek, by have := okC_lt ek eT hk1 (by assumption); omega, by omega⟩ (by first | exact Or.inl rfl | (rcases hg with h | h <;> first | exact absurd h (by assumption) | exact Or.inr h)) hF H locs hP hD hS ls (lv_sub hl [1, 0, 2, 3, 4, 5] rfl)
                · have hF := hF.trans (if_neg c_8)
                  refine lv_iconst (v := 1) hx hb dX6_term_112 (by decide) ?_
                  refine lv_goto (tgt := 117) hx hb dX6_term_113 (by decide) ?_
                  refine lv_istore (lv' := [(4, .int 1), (5, .int l5), (3, .int x2), (0, .ref h0), (1, .int x1), (2, .int x2)]) hx hb dX6_term_117 hl (by decide) rfl (fun ls hl => ?_)
                  refine lv_iinc (v := l5 + 1) (lv' := [(5, .int (l5 + 1)), (4, .int 1), (3, .int x2), (0, .ref h0), (1, .int x1), (2, .int x2)]) hx hb dX6_term_119 hl (k := 1) rfl rfl (by decide) rfl (fun ls hl => ?_)
                  refine lv_goto (tgt := 75) hx hb dX6_term_122 (by decide) ?_
                  exact ih (k + 1) 1 (l5 + 1) ⟨k_s ek, by have := okC_lt ek eT hk1 (by assumption); omega, by omega⟩ (by first | exact Or.inl rfl | (rcases hg with h | h <;> first | exact absurd h (by assumption) | exact Or.inr h)) hF H locs hP hD hS ls (lv_sub hl [1, 0, 2, 3, 4, 5] rfl)
      exact loop75 121 B 0 (v_begins v_constraints.toNatClampNeg) ⟨eB, by omega, by omega⟩ (by first | exact Or.inl rfl | exact Or.inr (by assumption)) hF _ _ hP hD hS ls (lv_sub hl [1, 0, 2, 3, 4, 5] rfl)
    · have hF := hF.trans (if_pos c_2)
      refine lv_iload_n hx hb dX6_term_18 rfl (lv_at hl 2 rfl) ?_
      refine lv_iconst (v := 1) hx hb dX6_term_19 (by decide) ?_
      refine lv_sipush (v := 32767) hx hb dX6_term_20 (by decide) ?_
      have hPc : va_P D vwCl [] _ := hP.sub [] rfl
      refine rback (va_runS (As := [.int x1, .int 1, .int 32767]) (rest := []) ⟨hx, hb, hml, hown, hts⟩ (ctX6_isIn l D cI cZ x1 1 32767) ⟨(cB hts kw570 kw568 kw58 pmX6_isIn ⟨Nat.le_of_ble_eq_true rfl, Nat.le_of_ble_eq_true rfl⟩), hts _ kw569⟩ ⟨rPc_blind, rpre hPc hK hN⟩ rfl rfl hl.1 rfl (lv_room (Nat.le_of_ble_eq_true rfl)) dX6_term_23 ⟨Nat.zero_le _, Nat.zero_le _⟩) ?_
      refine lv_if_eq (tgt := 61) hx hb dX6_term_26 (by decide) (fun c_9 => ?_) (fun c_9 => ?_)
      · have hF := hF.trans (if_pos c_9)
        refine lv_iconst (v := 0) hx hb dX6_term_61 (by decide) ?_
        refine lv_istore (lv' := [(4, .int 0), (3, .int x2), (0, .ref h0), (1, .int x1), (2, .int x2)]) hx hb dX6_term_62 hl (by decide) rfl (fun ls hl => ?_)
        refine lv_aload_n hx hb dX6_term_64 rfl (lv_at hl 2 rfl) ?_
        refine va_get (D := D) hx hb hts inX6 hown hK hP 0 rfl rfl 4 (by decide) (hts _ kw477) (fun _ h9 => h9) rfl dX6_term_65 ?_
        refine lv_aload_n hx hb dX6_term_68 rfl (lv_at hl 2 rfl) ?_
        refine va_get (D := D) hx hb hts inX6 hown hK hP 0 rfl rfl 6 (by decide) (hts _ kw479) (fun _ h9 => h9) rfl dX6_term_69 ?_
        refine va_iald hx hb hK hP 3 0 rfl rfl (okN_inS hCn (by decide) (by decide)) dX6_term_72 ?_
        refine lv_istore (lv' := [(5, .int (v_begins v_constraints.toNatClampNeg)), (4, .int 0), (3, .int x2), (0, .ref h0), (1, .int x1), (2, .int x2)]) hx hb dX6_term_73 hl (by decide) rfl (fun ls hl => ?_)
        have loop75 : ∀ (n : Nat) (k : Nat) (l4 : Int32) (l5 : Int32) , (l5 = nI k ∧ k ≤ 120 ∧ 120 < k + n) → (l4 = 0 ∨ ¬ (120 : Int32) ≤ v_terms) → fX6_term x1 x2 v_constraints v_terms v_begun v_factors v_literals v_begins = fX6_term_L75 x1 x2 v_constraints v_terms v_begun v_factors v_literals v_begins n l4 l5 → ∀ (H : Heap) (locs : List Loc), va_P D vwCl [(h0, .inr (6, [.int v_thrown, .ref h0_costs, .ref h0_factors, .ref h0_literals, .ref h0_begins, .ref h0_bounds, .int v_constraints, .int v_terms, .int v_begun, .int v_done, .int v_over, .int v_set, .int v_ones, .ref h0_trail, .ref h0_choice, .int v_depth, .int v_searchSet, .int v_searchOnes, .int v_best, .int v_bestOnes, .int v_made, .ref h0_log, .int v_size, .int v_answer, .int v_looked, .int v_place, .int v_waiting, .ref h0_waitSet, .ref h0_waitOnes, .ref h0_waitDead])), (h0_factors, .inl (cI, 120, .inl v_factors)), (h0_literals, .inl (cI, 120, .inl v_literals)), (h0_begins, .inl (cI, 22, .inl v_begins))] H → va_D (aw [(h0, .inr (6, [.int v_thrown, .ref h0_costs, .ref h0_factors, .ref h0_literals, .ref h0_begins, .ref h0_bounds, .int v_constraints, .int v_terms, .int v_begun, .int v_done, .int v_over, .int v_set, .int v_ones, .ref h0_trail, .ref h0_choice, .int v_depth, .int v_searchSet, .int v_searchOnes, .int v_best, .int v_bestOnes, .int v_made, .ref h0_log, .int v_size, .int v_answer, .int v_looked, .int v_place, .int v_waiting, .ref h0_waitSet, .ref h0_waitOnes, .ref h0_waitDead])), (h0_factors, .inl (cI, 120, .inl v_factors)), (h0_literals, .inl (cI, 120, .inl v_literals)), (h0_begins, .inl (cI, 22, .inl v_begins))]) [(h0, .inr (6, [.int v_thrown, .ref h0_costs, .ref h0_factors, .ref h0_literals, .ref h0_begins, .ref h0_bounds, .int v_constraints, .int v_terms, .int v_begun, .int v_done, .int v_over, .int v_set, .int v_ones, .ref h0_trail, .ref h0_choice, .int v_depth, .int v_searchSet, .int v_searchOnes, .int v_best, .int v_bestOnes, .int v_made, .ref h0_log, .int v_size, .int v_answer, .int v_looked, .int v_place, .int v_waiting, .ref h0_waitSet, .ref h0_waitOnes, .ref h0_waitDead])), (h0_factors, .inl (cI, 120, .inl v_factors)), (h0_literals, .inl (cI, 120, .inl v_literals)), (h0_begins, .inl (cI, 22, .inl v_begins))] → va_S (aw [(h0, .inr (6, [.int v_thrown, .ref h0_costs, .ref h0_factors, .ref h0_literals, .ref h0_begins, .ref h0_bounds, .int v_constraints, .int v_terms, .int v_begun, .int v_done, .int v_over, .int v_set, .int v_ones, .ref h0_trail, .ref h0_choice, .int v_depth, .int v_searchSet, .int v_searchOnes, .int v_best, .int v_bestOnes, .int v_made, .ref h0_log, .int v_size, .int v_answer, .int v_looked, .int v_place, .int v_waiting, .ref h0_waitSet, .ref h0_waitOnes, .ref h0_waitDead])), (h0_factors, .inl (cI, 120, .inl v_factors)), (h0_literals, .inl (cI, 120, .inl v_literals)), (h0_begins, .inl (cI, 22, .inl v_begins))]) s.heap H locs → ∀ ls : Array Slot, lv_has ls 6 [(4, .int l4), (5, .int l5), (3, .int x2), (0, .ref h0), (1, .int x1), (2, .int x2)] → W p l e { frames := 1, cells := 0, slots := 0, locals := 22 } s m [.ref h0, .int x1, .int x2].toArray below meth c H locs 0 0 (MQ below (wQ D (some (.int ((fX6_term x1 x2 v_constraints v_terms v_begun v_factors v_literals v_begins).1))) [(h0, .inr (6, [.int v_thrown, .ref h0_costs, .ref h0_factors, .ref h0_literals, .ref h0_begins, .ref h0_bounds, .int v_constraints, .int v_terms, .int v_begun, .int v_done, .int v_over, .int v_set, .int v_ones, .ref h0_trail, .ref h0_choice, .int v_depth, .int v_searchSet, .int v_searchOnes, .int v_best, .int v_bestOnes, .int v_made, .ref h0_log, .int v_size, .int v_answer, .int v_looked, .int v_place, .int v_waiting, .ref h0_waitSet, .ref h0_waitOnes, .ref h0_waitDead])), (h0_factors, .inl (cI, 120, .inl v_factors)), (h0_literals, .inl (cI, 120, .inl v_literals)), (h0_begins, .inl (cI, 22, .inl v_begins))] [(h0, .inr (6, [.int v_thrown, .ref h0_costs, .ref h0_factors, .ref h0_literals, .ref h0_begins, .ref h0_bounds, .int v_constraints, .int ((fX6_term x1 x2 v_constraints v_terms v_begun v_factors v_literals v_begins).2.1), .int v_begun, .int v_done, .int v_over, .int v_set, .int v_ones, .ref h0_trail, .ref h0_choice, .int v_depth, .int v_searchSet, .int v_searchOnes, .int v_best, .int v_bestOnes, .int v_made, .ref h0_log, .int v_size, .int v_answer, .int v_looked, .int v_place, .int v_waiting, .ref h0_waitSet, .ref h0_waitOnes, .ref h0_waitDead])), (h0_factors, .inl (cI, 120, .inl ((fX6_term x1 x2 v_constraints v_terms v_begun v_factors v_literals v_begins).2.2.1))), (h0_literals, .inl (cI, 120, .inl ((fX6_term x1 x2 v_constraints v_terms v_begun v_factors v_literals v_begins).2.2.2))), (h0_begins, .inl (cI, 22, .inl v_begins))]) [.ref h0, .int x1, .int x2].toArray s 0 0 (aw [(h0, .inr (6, [.int v_thrown, .ref h0_costs, .ref h0_factors, .ref h0_literals, .ref h0_begins, .ref h0_bounds, .int v_constraints, .int v_terms, .int v_begun, .int v_done, .int v_over, .int v_set, .int v_ones, .ref h0_trail, .ref h0_choice, .int v_depth, .int v_searchSet, .int v_searchOnes, .int v_best, .int v_bestOnes, .int v_made, .ref h0_log, .int v_size, .int v_answer, .int v_looked, .int v_place, .int v_waiting, .ref h0_waitSet, .ref h0_waitOnes, .ref h0_waitDead])), (h0_factors, .inl (cI, 120, .inl v_factors)), (h0_literals, .inl (cI, 120, .inl v_literals)), (h0_begins, .inl (cI, 22, .inl v_begins))])) (F0 m 75 ls []) := by
          intro n
          induction n with
          | zero =>
            intro k l4 l5 hk hg hF
            exact (by obtain ⟨_, h2, h3⟩ := hk; exact absurd h3 (by omega))
          | succ n ih =>
            intro k l4 l5 hk hg hF H locs hP hD hS ls hl
            have hF := hF.trans (fX6_term_L75.eq_2 ..)
            obtain ⟨ek, hk1, hk2⟩ := hk
            refine lv_iload hx hb dX6_term_75 (lv_at hl 0 rfl) ?_
            refine lv_if_eq (tgt := 125) hx hb dX6_term_77 (by decide) (fun c_3 => ?_) (fun c_3 => ?_)
            · have hF := hF.trans (if_pos c_3)
              refine lv_iload hx hb dX6_term_125 (lv_at hl 0 rfl) ?_
              refine lv_if_ne (tgt := 132) hx hb dX6_term_127 (by decide) (fun c_4 => ?_) (fun c_4 => ?_)
              · have hF := hF.trans (if_neg c_4)
                refine lv_aload_n hx hb dX6_term_132 rfl (lv_at hl 3 rfl) ?_
                refine va_get (D := D) hx hb hts inX6 hown hK hP 0 rfl rfl 2 (by decide) (hts _ kw475) (fun _ h9 => h9) rfl dX6_term_133 ?_
                refine lv_aload_n hx hb dX6_term_136 rfl (lv_at hl 3 rfl) ?_
                refine va_get (D := D) hx hb hts inX6 hown hK hP 0 rfl rfl 7 (by decide) (hts _ kw480) (fun _ h9 => h9) rfl dX6_term_137 ?_
                refine lv_iload_n hx hb dX6_term_140 rfl (lv_at hl 4 rfl) ?_
                refine va_iast hx hb hK hP hD hS 1 0 rfl rfl (by rcases hg with h | h <;> first | exact absurd h (by assumption) | exact okN_in hT (by decide) (k_lt_of h)) dX6_term_141 (fun H locs hP hD hS => ?_)
                have hP : va_P D vwCl [(h0, .inr (6, [.int v_thrown, .ref h0_costs, .ref h0_factors, .ref h0_literals, .ref h0_begins, .ref h0_bounds, .int v_constraints, .int v_terms, .int v_begun, .int v_done, .int v_over, .int v_set, .int v_ones, .ref h0_trail, .ref h0_choice, .int v_depth, .int v_searchSet, .int v_searchOnes, .int v_best, .int v_bestOnes, .int v_made, .ref h0_log, .int v_size, .int v_answer, .int v_looked, .int v_place, .int v_waiting, .ref h0_waitSet, .ref h0_waitOnes, .ref h0_waitDead])), (h0_factors, .inl (cI, 120, .inl (upd v_factors v_terms.toNatClampNeg x1))), (h0_literals, .inl (cI, 120, .inl v_literals)), (h0_begins, .inl (cI, 22, .inl v_begins))] H := hP
                have hD : va_D _ [(h0, .inr (6, [.int v_thrown, .ref h0_costs, .ref h0_factors, .ref h0_literals, .ref h0_begins, .ref h0_bounds, .int v_constraints, .int v_terms, .int v_begun, .int v_done, .int v_over, .int v_set, .int v_ones, .ref h0_trail, .ref h0_choice, .int v_depth, .int v_searchSet, .int v_searchOnes, .int v_best, .int v_bestOnes, .int v_made, .ref h0_log, .int v_size, .int v_answer, .int v_looked, .int v_place, .int v_waiting, .ref h0_waitSet, .ref h0_waitOnes, .ref h0_waitDead])), (h0_factors, .inl (cI, 120, .inl (upd v_factors v_terms.toNatClampNeg x1))), (h0_literals, .inl (cI, 120, .inl v_literals)), (h0_begins, .inl (cI, 22, .inl v_begins))] := hD
                refine lv_aload_n hx hb dX6_term_142 rfl (lv_at hl 3 rfl) ?_
                refine va_get (D := D) hx hb hts inX6 hown hK hP 0 rfl rfl 3 (by decide) (hts _ kw476) (fun _ h9 => h9) rfl dX6_term_143 ?_
                refine lv_aload_n hx hb dX6_term_146 rfl (lv_at hl 3 rfl) ?_
                refine va_get (D := D) hx hb hts inX6 hown hK hP 0 rfl rfl 7 (by decide) (hts _ kw480) (fun _ h9 => h9) rfl dX6_term_147 ?_
                refine lv_iload_n hx hb dX6_term_150 rfl (lv_at hl 5 rfl) ?_
                refine va_iast hx hb hK hP hD hS 2 0 rfl rfl (by rcases hg with h | h <;> first | exact absurd h (by assumption) | exact okN_in hT (by decide) (k_lt_of h)) dX6_term_151 (fun H locs hP hD hS => ?_)
                have hP : va_P D vwCl [(h0, .inr (6, [.int v_thrown, .ref h0_costs, .ref h0_factors, .ref h0_literals, .ref h0_begins, .ref h0_bounds, .int v_constraints, .int v_terms, .int v_begun, .int v_done, .int v_over, .int v_set, .int v_ones, .ref h0_trail, .ref h0_choice, .int v_depth, .int v_searchSet, .int v_searchOnes, .int v_best, .int v_bestOnes, .int v_made, .ref h0_log, .int v_size, .int v_answer, .int v_looked, .int v_place, .int v_waiting, .ref h0_waitSet, .ref h0_waitOnes, .ref h0_waitDead])), (h0_factors, .inl (cI, 120, .inl (upd v_factors v_terms.toNatClampNeg x1))), (h0_literals, .inl (cI, 120, .inl (upd v_literals v_terms.toNatClampNeg x2))), (h0_begins, .inl (cI, 22, .inl v_begins))] H := hP
                have hD : va_D _ [(h0, .inr (6, [.int v_thrown, .ref h0_costs, .ref h0_factors, .ref h0_literals, .ref h0_begins, .ref h0_bounds, .int v_constraints, .int v_terms, .int v_begun, .int v_done, .int v_over, .int v_set, .int v_ones, .ref h0_trail, .ref h0_choice, .int v_depth, .int v_searchSet, .int v_searchOnes, .int v_best, .int v_bestOnes, .int v_made, .ref h0_log, .int v_size, .int v_answer, .int v_looked, .int v_place, .int v_waiting, .ref h0_waitSet, .ref h0_waitOnes, .ref h0_waitDead])), (h0_factors, .inl (cI, 120, .inl (upd v_factors v_terms.toNatClampNeg x1))), (h0_literals, .inl (cI, 120, .inl (upd v_literals v_terms.toNatClampNeg x2))), (h0_begins, .inl (cI, 22, .inl v_begins))] := hD
                refine lv_aload_n hx hb dX6_term_152 rfl (lv_at hl 3 rfl) ?_
                refine lv_dup hx hb dX6_term_153 rfl ?_
                refine va_get (D := D) hx hb hts inX6 hown hK hP 0 rfl rfl 7 (by decide) (hts _ kw480) (fun _ h9 => h9) rfl dX6_term_154 ?_
                refine lv_iconst (v := 1) hx hb dX6_term_157 (by decide) ?_
                refine lv_iadd hx hb dX6_term_158 ?_
                refine va_put (D := D) (v := .int (v_terms + 1)) (ty := .int) hx hb hts inX6 tyX6 tyX6_ok nmX6 hown hK hP hD hS 0 rfl rfl 7 (by decide) (hts _ kw480) (fun _ h9 => h9) rfl (by decide +kernel) rfl rfl (Nat.le_of_ble_eq_true rfl) dX6_term_159 (fun H locs hP hD hS => ?_)
                have hP : va_P D vwCl [(h0, .inr (6, [.int v_thrown, .ref h0_costs, .ref h0_factors, .ref h0_literals, .ref h0_begins, .ref h0_bounds, .int v_constraints, .int (v_terms + 1), .int v_begun, .int v_done, .int v_over, .int v_set, .int v_ones, .ref h0_trail, .ref h0_choice, .int v_depth, .int v_searchSet, .int v_searchOnes, .int v_best, .int v_bestOnes, .int v_made, .ref h0_log, .int v_size, .int v_answer, .int v_looked, .int v_place, .int v_waiting, .ref h0_waitSet, .ref h0_waitOnes, .ref h0_waitDead])), (h0_factors, .inl (cI, 120, .inl (upd v_factors v_terms.toNatClampNeg x1))), (h0_literals, .inl (cI, 120, .inl (upd v_literals v_terms.toNatClampNeg x2))), (h0_begins, .inl (cI, 22, .inl v_begins))] H := hP
                have hD : va_D _ [(h0, .inr (6, [.int v_thrown, .ref h0_costs, .ref h0_factors, .ref h0_literals, .ref h0_begins, .ref h0_bounds, .int v_constraints, .int (v_terms + 1), .int v_begun, .int v_done, .int v_over, .int v_set, .int v_ones, .ref h0_trail, .ref h0_choice, .int v_depth, .int v_searchSet, .int v_searchOnes, .int v_best, .int v_bestOnes, .int v_made, .ref h0_log, .int v_size, .int v_answer, .int v_looked, .int v_place, .int v_waiting, .ref h0_waitSet, .ref h0_waitOnes, .ref h0_waitDead])), (h0_factors, .inl (cI, 120, .inl (upd v_factors v_terms.toNatClampNeg x1))), (h0_literals, .inl (cI, 120, .inl (upd v_literals v_terms.toNatClampNeg x2))), (h0_begins, .inl (cI, 22, .inl v_begins))] := hD
                refine lv_iconst (v := 0) hx hb dX6_term_162 (by decide) ?_
                exact wreti hx hb hr hlocks (by rw [hF]) (by rw [hF]; exact hP) hS dX6_term_163
              · have hF := hF.trans (if_pos c_4)
                refine lv_iconst (v := (-1)) hx hb dX6_term_130 (by decide) ?_
                exact wreti hx hb hr hlocks (by rw [hF]) (by rw [hF]; exact hP) hS dX6_term_131
            · have hF := hF.trans (if_neg c_3)
              refine lv_iload hx hb dX6_term_80 (lv_at hl 1 rfl) ?_
              refine lv_aload_n hx hb dX6_term_82 rfl (lv_at hl 3 rfl) ?_
              refine va_get (D := D) hx hb hts inX6 hown hK hP 0 rfl rfl 7 (by decide) (hts _ kw480) (fun _ h9 => h9) rfl dX6_term_83 ?_
              refine lv_icmp_ge (tgt := 125) hx hb dX6_term_86 (by decide) (fun c_5 => ?_) (fun c_5 => ?_)
              · have hF := hF.trans (if_pos c_5)
                refine lv_iload hx hb dX6_term_125 (lv_at hl 0 rfl) ?_
                refine lv_if_ne (tgt := 132) hx hb dX6_term_127 (by decide) (fun c_6 => ?_) (fun c_6 => ?_)
                · have hF := hF.trans (if_neg c_6)
                  refine lv_aload_n hx hb dX6_term_132 rfl (lv_at hl 3 rfl) ?_
                  refine va_get (D := D) hx hb hts inX6 hown hK hP 0 rfl rfl 2 (by decide) (hts _ kw475) (fun _ h9 => h9) rfl dX6_term_133 ?_
                  refine lv_aload_n hx hb dX6_term_136 rfl (lv_at hl 3 rfl) ?_
                  refine va_get (D := D) hx hb hts inX6 hown hK hP 0 rfl rfl 7 (by decide) (hts _ kw480) (fun _ h9 => h9) rfl dX6_term_137 ?_
                  refine lv_iload_n hx hb dX6_term_140 rfl (lv_at hl 4 rfl) ?_
                  refine va_iast hx hb hK hP hD hS 1 0 rfl rfl (by rcases hg with h | h <;> first | exact absurd h (by assumption) | exact okN_in hT (by decide) (k_lt_of h)) dX6_term_141 (fun H locs hP hD hS => ?_)
                  have hP : va_P D vwCl [(h0, .inr (6, [.int v_thrown, .ref h0_costs, .ref h0_factors, .ref h0_literals, .ref h0_begins, .ref h0_bounds, .int v_constraints, .int v_terms, .int v_begun, .int v_done, .int v_over, .int v_set, .int v_ones, .ref h0_trail, .ref h0_choice, .int v_depth, .int v_searchSet, .int v_searchOnes, .int v_best, .int v_bestOnes, .int v_made, .ref h0_log, .int v_size, .int v_answer, .int v_looked, .int v_place, .int v_waiting, .ref h0_waitSet, .ref h0_waitOnes, .ref h0_waitDead])), (h0_factors, .inl (cI, 120, .inl (upd v_factors v_terms.toNatClampNeg x1))), (h0_literals, .inl (cI, 120, .inl v_literals)), (h0_begins, .inl (cI, 22, .inl v_begins))] H := hP
                  have hD : va_D _ [(h0, .inr (6, [.int v_thrown, .ref h0_costs, .ref h0_factors, .ref h0_literals, .ref h0_begins, .ref h0_bounds, .int v_constraints, .int v_terms, .int v_begun, .int v_done, .int v_over, .int v_set, .int v_ones, .ref h0_trail, .ref h0_choice, .int v_depth, .int v_searchSet, .int v_searchOnes, .int v_best, .int v_bestOnes, .int v_made, .ref h0_log, .int v_size, .int v_answer, .int v_looked, .int v_place, .int v_waiting, .ref h0_waitSet, .ref h0_waitOnes, .ref h0_waitDead])), (h0_factors, .inl (cI, 120, .inl (upd v_factors v_terms.toNatClampNeg x1))), (h0_literals, .inl (cI, 120, .inl v_literals)), (h0_begins, .inl (cI, 22, .inl v_begins))] := hD
                  refine lv_aload_n hx hb dX6_term_142 rfl (lv_at hl 3 rfl) ?_
                  refine va_get (D := D) hx hb hts inX6 hown hK hP 0 rfl rfl 3 (by decide) (hts _ kw476) (fun _ h9 => h9) rfl dX6_term_143 ?_
                  refine lv_aload_n hx hb dX6_term_146 rfl (lv_at hl 3 rfl) ?_
                  refine va_get (D := D) hx hb hts inX6 hown hK hP 0 rfl rfl 7 (by decide) (hts _ kw480) (fun _ h9 => h9) rfl dX6_term_147 ?_
                  refine lv_iload_n hx hb dX6_term_150 rfl (lv_at hl 5 rfl) ?_
                  refine va_iast hx hb hK hP hD hS 2 0 rfl rfl (by rcases hg with h | h <;> first | exact absurd h (by assumption) | exact okN_in hT (by decide) (k_lt_of h)) dX6_term_151 (fun H locs hP hD hS => ?_)
                  have hP : va_P D vwCl [(h0, .inr (6, [.int v_thrown, .ref h0_costs, .ref h0_factors, .ref h0_literals, .ref h0_begins, .ref h0_bounds, .int v_constraints, .int v_terms, .int v_begun, .int v_done, .int v_over, .int v_set, .int v_ones, .ref h0_trail, .ref h0_choice, .int v_depth, .int v_searchSet, .int v_searchOnes, .int v_best, .int v_bestOnes, .int v_made, .ref h0_log, .int v_size, .int v_answer, .int v_looked, .int v_place, .int v_waiting, .ref h0_waitSet, .ref h0_waitOnes, .ref h0_waitDead])), (h0_factors, .inl (cI, 120, .inl (upd v_factors v_terms.toNatClampNeg x1))), (h0_literals, .inl (cI, 120, .inl (upd v_literals v_terms.toNatClampNeg x2))), (h0_begins, .inl (cI, 22, .inl v_begins))] H := hP
                  have hD : va_D _ [(h0, .inr (6, [.int v_thrown, .ref h0_costs, .ref h0_factors, .ref h0_literals, .ref h0_begins, .ref h0_bounds, .int v_constraints, .int v_terms, .int v_begun, .int v_done, .int v_over, .int v_set, .int v_ones, .ref h0_trail, .ref h0_choice, .int v_depth, .int v_searchSet, .int v_searchOnes, .int v_best, .int v_bestOnes, .int v_made, .ref h0_log, .int v_size, .int v_answer, .int v_looked, .int v_place, .int v_waiting, .ref h0_waitSet, .ref h0_waitOnes, .ref h0_waitDead])), (h0_factors, .inl (cI, 120, .inl (upd v_factors v_terms.toNatClampNeg x1))), (h0_literals, .inl (cI, 120, .inl (upd v_literals v_terms.toNatClampNeg x2))), (h0_begins, .inl (cI, 22, .inl v_begins))] := hD
                  refine lv_aload_n hx hb dX6_term_152 rfl (lv_at hl 3 rfl) ?_
                  refine lv_dup hx hb dX6_term_153 rfl ?_
                  refine va_get (D := D) hx hb hts inX6 hown hK hP 0 rfl rfl 7 (by decide) (hts _ kw480) (fun _ h9 => h9) rfl dX6_term_154 ?_
                  refine lv_iconst (v := 1) hx hb dX6_term_157 (by decide) ?_
                  refine lv_iadd hx hb dX6_term_158 ?_
                  refine va_put (D := D) (v := .int (v_terms + 1)) (ty := .int) hx hb hts inX6 tyX6 tyX6_ok nmX6 hown hK hP hD hS 0 rfl rfl 7 (by decide) (hts _ kw480) (fun _ h9 => h9) rfl (by decide +kernel) rfl rfl (Nat.le_of_ble_eq_true rfl) dX6_term_159 (fun H locs hP hD hS => ?_)
                  have hP : va_P D vwCl [(h0, .inr (6, [.int v_thrown, .ref h0_costs, .ref h0_factors, .ref h0_literals, .ref h0_begins, .ref h0_bounds, .int v_constraints, .int (v_terms + 1), .int v_begun, .int v_done, .int v_over, .int v_set, .int v_ones, .ref h0_trail, .ref h0_choice, .int v_depth, .int v_searchSet, .int v_searchOnes, .int v_best, .int v_bestOnes, .int v_made, .ref h0_log, .int v_size, .int v_answer, .int v_looked, .int v_place, .int v_waiting, .ref h0_waitSet, .ref h0_waitOnes, .ref h0_waitDead])), (h0_factors, .inl (cI, 120, .inl (upd v_factors v_terms.toNatClampNeg x1))), (h0_literals, .inl (cI, 120, .inl (upd v_literals v_terms.toNatClampNeg x2))), (h0_begins, .inl (cI, 22, .inl v_begins))] H := hP
                  have hD : va_D _ [(h0, .inr (6, [.int v_thrown, .ref h0_costs, .ref h0_factors, .ref h0_literals, .ref h0_begins, .ref h0_bounds, .int v_constraints, .int (v_terms + 1), .int v_begun, .int v_done, .int v_over, .int v_set, .int v_ones, .ref h0_trail, .ref h0_choice, .int v_depth, .int v_searchSet, .int v_searchOnes, .int v_best, .int v_bestOnes, .int v_made, .ref h0_log, .int v_size, .int v_answer, .int v_looked, .int v_place, .int v_waiting, .ref h0_waitSet, .ref h0_waitOnes, .ref h0_waitDead])), (h0_factors, .inl (cI, 120, .inl (upd v_factors v_terms.toNatClampNeg x1))), (h0_literals, .inl (cI, 120, .inl (upd v_literals v_terms.toNatClampNeg x2))), (h0_begins, .inl (cI, 22, .inl v_begins))] := hD
                  refine lv_iconst (v := 0) hx hb dX6_term_162 (by decide) ?_
                  exact wreti hx hb hr hlocks (by rw [hF]) (by rw [hF]; exact hP) hS dX6_term_163
                · have hF := hF.trans (if_pos c_6)
                  refine lv_iconst (v := (-1)) hx hb dX6_term_130 (by decide) ?_
                  exact wreti hx hb hr hlocks (by rw [hF]) (by rw [hF]; exact hP) hS dX6_term_131
              · have hF := hF.trans (if_neg c_5)
                refine lv_aload_n hx hb dX6_term_89 rfl (lv_at hl 3 rfl) ?_
                refine va_get (D := D) hx hb hts inX6 hown hK hP 0 rfl rfl 3 (by decide) (hts _ kw476) (fun _ h9 => h9) rfl dX6_term_90 ?_
                refine lv_iload hx hb dX6_term_93 (lv_at hl 1 rfl) ?_
                refine va_iald hx hb hK hP 2 0 rfl rfl (k_in ek (by have := okC_lt ek eT hk1 (by assumption); omega) (by decide)) dX6_term_95 ?_
                refine lv_iload_n hx hb dX6_term_96 rfl (lv_at hl 5 rfl) ?_
                refine lv_icmp_eq (tgt := 116) hx hb dX6_term_97 (by decide) (fun c_7 => ?_) (fun c_7 => ?_)
                · have hF := hF.trans (if_pos c_7)
                  refine lv_iconst (v := 0) hx hb dX6_term_116 (by decide) ?_
                  refine lv_istore (lv' := [(4, .int 0), (5, .int l5), (3, .int x2), (0, .ref h0), (1, .int x1), (2, .int x2)]) hx hb dX6_term_117 hl (by decide) rfl (fun ls hl => ?_)
                  refine lv_iinc (v := l5 + 1) (lv' := [(5, .int (l5 + 1)), (4, .int 0), (3, .int x2), (0, .ref h0), (1, .int x1), (2, .int x2)]) hx hb dX6_term_119 hl (k := 1) rfl rfl (by decide) rfl (fun ls hl => ?_)
                  refine lv_goto (tgt := 75) hx hb dX6_term_122 (by decide) ?_
                  exact ih (k + 1) 0 (l5 + 1) ⟨k_s ek, by have := okC_lt ek eT hk1 (by assumption); omega, by omega⟩ (by first | exact Or.inl rfl | (rcases hg with h | h <;> first | exact absurd h (by assumption) | exact Or.inr h)) hF H locs hP hD hS ls (lv_sub hl [1, 0, 2, 3, 4, 5] rfl)
                · have hF := hF.trans (if_neg c_7)
                  refine lv_aload_n hx hb dX6_term_100 rfl (lv_at hl 3 rfl) ?_
                  refine va_get (D := D) hx hb hts inX6 hown hK hP 0 rfl rfl 3 (by decide) (hts _ kw476) (fun _ h9 => h9) rfl dX6_term_101 ?_
                  refine lv_iload hx hb dX6_term_104 (lv_at hl 1 rfl) ?_
                  refine va_iald hx hb hK hP 2 0 rfl rfl (k_in ek (by have := okC_lt ek eT hk1 (by assumption); omega) (by decide)) dX6_term_106 ?_
                  refine lv_iload_n hx hb dX6_term_107 rfl (lv_at hl 5 rfl) ?_
                  refine lv_ineg hx hb dX6_term_108 ?_
                  refine lv_icmp_eq (tgt := 116) hx hb dX6_term_109 (by decide) (fun c_8 => ?_) (fun c_8 => ?_)
                  · have hF := hF.trans (if_pos c_8)
                    refine lv_iconst (v := 0) hx hb dX6_term_116 (by decide) ?_
                    refine lv_istore (lv' := [(4, .int 0), (5, .int l5), (3, .int x2), (0, .ref h0), (1, .int x1), (2, .int x2)]) hx hb dX6_term_117 hl (by decide) rfl (fun ls hl => ?_)
                    refine lv_iinc (v := l5 + 1) (lv' := [(5, .int (l5 + 1)), (4, .int 0), (3, .int x2), (0, .ref h0), (1, .int x1), (2, .int x2)]) hx hb dX6_term_119 hl (k := 1) rfl rfl (by decide) rfl (fun ls hl => ?_)
                    refine lv_goto (tgt := 75) hx hb dX6_term_122 (by decide) ?_
                    exact ih (k + 1) 0 (l5 + 1) ⟨k_s ek, by have := okC_lt ek eT hk1 (by assumption); omega, by omega⟩ (by first | exact Or.inl rfl | (rcases hg with h | h <;> first | exact absurd h (by assumption) | exact Or.inr h)) hF H locs hP hD hS ls (lv_sub hl [1, 0, 2, 3, 4, 5] rfl)
                  · have hF := hF.trans (if_neg c_8)
                    refine lv_iconst (v := 1) hx hb dX6_term_112 (by decide) ?_
                    refine lv_goto (tgt := 117) hx hb dX6_term_113 (by decide) ?_
                    refine lv_istore (lv' := [(4, .int 1), (5, .int l5), (3, .int x2), (0, .ref h0), (1, .int x1), (2, .int x2)]) hx hb dX6_term_117 hl (by decide) rfl (fun ls hl => ?_)
                    refine lv_iinc (v := l5 + 1) (lv' := [(5, .int (l5 + 1)), (4, .int 1), (3, .int x2), (0, .ref h0), (1, .int x1), (2, .int x2)]) hx hb dX6_term_119 hl (k := 1) rfl rfl (by decide) rfl (fun ls hl => ?_)
                    refine lv_goto (tgt := 75) hx hb dX6_term_122 (by decide) ?_
                    exact ih (k + 1) 1 (l5 + 1) ⟨k_s ek, by have := okC_lt ek eT hk1 (by assumption); omega, by omega⟩ (by first | exact Or.inl rfl | (rcases hg with h | h <;> first | exact absurd h (by assumption) | exact Or.inr h)) hF H locs hP hD hS ls (lv_sub hl [1, 0, 2, 3, 4, 5] rfl)
        exact loop75 121 B 0 (v_begins v_constraints.toNatClampNeg) ⟨eB, by omega, by omega⟩ (by first | exact Or.inl rfl | exact Or.inr (by assumption)) hF _ _ hP hD hS ls (lv_sub hl [1, 0, 2, 3, 4, 5] rfl)
      · have hF := hF.trans (if_neg c_9)
        refine lv_iload_n hx hb dX6_term_29 rfl (lv_at hl 0 rfl) ?_
        refine lv_iconst (v := 1) hx hb dX6_term_30 (by decide) ?_
        refine lv_bipush (v := 16) hx hb dX6_term_31 (by decide) ?_
        have hPc : va_P D vwCl [] _ := hP.sub [] rfl
        refine rback (va_runS (As := [.int x2, .int 1, .int 16]) (rest := []) ⟨hx, hb, hml, hown, hts⟩ (ctX6_isIn l D cI cZ x2 1 16) ⟨(cB hts kw570 kw568 kw58 pmX6_isIn ⟨Nat.le_of_ble_eq_true rfl, Nat.le_of_ble_eq_true rfl⟩), hts _ kw569⟩ ⟨rPc_blind, rpre hPc hK hN⟩ rfl rfl hl.1 rfl (lv_room (Nat.le_of_ble_eq_true rfl)) dX6_term_33 ⟨Nat.zero_le _, Nat.zero_le _⟩) ?_
        refine lv_if_eq (tgt := 61) hx hb dX6_term_36 (by decide) (fun c_9 => ?_) (fun c_9 => ?_)
        · have hF := hF.trans (if_pos c_9)
          refine lv_iconst (v := 0) hx hb dX6_term_61 (by decide) ?_
          refine lv_istore (lv' := [(4, .int 0), (3, .int x2), (0, .ref h0), (1, .int x1), (2, .int x2)]) hx hb dX6_term_62 hl (by decide) rfl (fun ls hl => ?_)
          refine lv_aload_n hx hb dX6_term_64 rfl (lv_at hl 2 rfl) ?_
          refine va_get (D := D) hx hb hts inX6 hown hK hP 0 rfl rfl 4 (by decide) (hts _ kw477) (fun _ h9 => h9) rfl dX6_term_65 ?_
          refine lv_aload_n hx hb dX6_term_68 rfl (lv_at hl 2 rfl) ?_
          refine va_get (D := D) hx hb hts inX6 hown hK hP 0 rfl rfl 6 (by decide) (hts _ kw479) (fun _ h9 => h9) rfl dX6_term_69 ?_
          refine va_iald hx hb hK hP 3 0 rfl rfl (okN_inS hCn (by decide) (by decide)) dX6_term_72 ?_
          refine lv_istore (lv' := [(5, .int (v_begins v_constraints.toNatClampNeg)), (4, .int 0), (3, .int x2), (0, .ref h0), (1, .int x1), (2, .int x2)]) hx hb dX6_term_73 hl (by decide) rfl (fun ls hl => ?_)
          have loop75 : ∀ (n : Nat) (k : Nat) (l4 : Int32) (l5 : Int32) , (l5 = nI k ∧ k ≤ 120 ∧ 120 < k + n) → (l4 = 0 ∨ ¬ (120 : Int32) ≤ v_terms) → fX6_term x1 x2 v_constraints v_terms v_begun v_factors v_literals v_begins = fX6_term_L75 x1 x2 v_constraints v_terms v_begun v_factors v_literals v_begins n l4 l5 → ∀ (H : Heap) (locs : List Loc), va_P D vwCl [(h0, .inr (6, [.int v_thrown, .ref h0_costs, .ref h0_factors, .ref h0_literals, .ref h0_begins, .ref h0_bounds, .int v_constraints, .int v_terms, .int v_begun, .int v_done, .int v_over, .int v_set, .int v_ones, .ref h0_trail, .ref h0_choice, .int v_depth, .int v_searchSet, .int v_searchOnes, .int v_best, .int v_bestOnes, .int v_made, .ref h0_log, .int v_size, .int v_answer, .int v_looked, .int v_place, .int v_waiting, .ref h0_waitSet, .ref h0_waitOnes, .ref h0_waitDead])), (h0_factors, .inl (cI, 120, .inl v_factors)), (h0_literals, .inl (cI, 120, .inl v_literals)), (h0_begins, .inl (cI, 22, .inl v_begins))] H → va_D (aw [(h0, .inr (6, [.int v_thrown, .ref h0_costs, .ref h0_factors, .ref h0_literals, .ref h0_begins, .ref h0_bounds, .int v_constraints, .int v_terms, .int v_begun, .int v_done, .int v_over, .int v_set, .int v_ones, .ref h0_trail, .ref h0_choice, .int v_depth, .int v_searchSet, .int v_searchOnes, .int v_best, .int v_bestOnes, .int v_made, .ref h0_log, .int v_size, .int v_answer, .int v_looked, .int v_place, .int v_waiting, .ref h0_waitSet, .ref h0_waitOnes, .ref h0_waitDead])), (h0_factors, .inl (cI, 120, .inl v_factors)), (h0_literals, .inl (cI, 120, .inl v_literals)), (h0_begins, .inl (cI, 22, .inl v_begins))]) [(h0, .inr (6, [.int v_thrown, .ref h0_costs, .ref h0_factors, .ref h0_literals, .ref h0_begins, .ref h0_bounds, .int v_constraints, .int v_terms, .int v_begun, .int v_done, .int v_over, .int v_set, .int v_ones, .ref h0_trail, .ref h0_choice, .int v_depth, .int v_searchSet, .int v_searchOnes, .int v_best, .int v_bestOnes, .int v_made, .ref h0_log, .int v_size, .int v_answer, .int v_looked, .int v_place, .int v_waiting, .ref h0_waitSet, .ref h0_waitOnes, .ref h0_waitDead])), (h0_factors, .inl (cI, 120, .inl v_factors)), (h0_literals, .inl (cI, 120, .inl v_literals)), (h0_begins, .inl (cI, 22, .inl v_begins))] → va_S (aw [(h0, .inr (6, [.int v_thrown, .ref h0_costs, .ref h0_factors, .ref h0_literals, .ref h0_begins, .ref h0_bounds, .int v_constraints, .int v_terms, .int v_begun, .int v_done, .int v_over, .int v_set, .int v_ones, .ref h0_trail, .ref h0_choice, .int v_depth, .int v_searchSet, .int v_searchOnes, .int v_best, .int v_bestOnes, .int v_made, .ref h0_log, .int v_size, .int v_answer, .int v_looked, .int v_place, .int v_waiting, .ref h0_waitSet, .ref h0_waitOnes, .ref h0_waitDead])), (h0_factors, .inl (cI, 120, .inl v_factors)), (h0_literals, .inl (cI, 120, .inl v_literals)), (h0_begins, .inl (cI, 22, .inl v_begins))]) s.heap H locs → ∀ ls : Array Slot, lv_has ls 6 [(4, .int l4), (5, .int l5), (3, .int x2), (0, .ref h0), (1, .int x1), (2, .int x2)] → W p l e { frames := 1, cells := 0, slots := 0, locals := 22 } s m [.ref h0, .int x1, .int x2].toArray below meth c H locs 0 0 (MQ below (wQ D (some (.int ((fX6_term x1 x2 v_constraints v_terms v_begun v_factors v_literals v_begins).1))) [(h0, .inr (6, [.int v_thrown, .ref h0_costs, .ref h0_factors, .ref h0_literals, .ref h0_begins, .ref h0_bounds, .int v_constraints, .int v_terms, .int v_begun, .int v_done, .int v_over, .int v_set, .int v_ones, .ref h0_trail, .ref h0_choice, .int v_depth, .int v_searchSet, .int v_searchOnes, .int v_best, .int v_bestOnes, .int v_made, .ref h0_log, .int v_size, .int v_answer, .int v_looked, .int v_place, .int v_waiting, .ref h0_waitSet, .ref h0_waitOnes, .ref h0_waitDead])), (h0_factors, .inl (cI, 120, .inl v_factors)), (h0_literals, .inl (cI, 120, .inl v_literals)), (h0_begins, .inl (cI, 22, .inl v_begins))] [(h0, .inr (6, [.int v_thrown, .ref h0_costs, .ref h0_factors, .ref h0_literals, .ref h0_begins, .ref h0_bounds, .int v_constraints, .int ((fX6_term x1 x2 v_constraints v_terms v_begun v_factors v_literals v_begins).2.1), .int v_begun, .int v_done, .int v_over, .int v_set, .int v_ones, .ref h0_trail, .ref h0_choice, .int v_depth, .int v_searchSet, .int v_searchOnes, .int v_best, .int v_bestOnes, .int v_made, .ref h0_log, .int v_size, .int v_answer, .int v_looked, .int v_place, .int v_waiting, .ref h0_waitSet, .ref h0_waitOnes, .ref h0_waitDead])), (h0_factors, .inl (cI, 120, .inl ((fX6_term x1 x2 v_constraints v_terms v_begun v_factors v_literals v_begins).2.2.1))), (h0_literals, .inl (cI, 120, .inl ((fX6_term x1 x2 v_constraints v_terms v_begun v_factors v_literals v_begins).2.2.2))), (h0_begins, .inl (cI, 22, .inl v_begins))]) [.ref h0, .int x1, .int x2].toArray s 0 0 (aw [(h0, .inr (6, [.int v_thrown, .ref h0_costs, .ref h0_factors, .ref h0_literals, .ref h0_begins, .ref h0_bounds, .int v_constraints, .int v_terms, .int v_begun, .int v_done, .int v_over, .int v_set, .int v_ones, .ref h0_trail, .ref h0_choice, .int v_depth, .int v_searchSet, .int v_searchOnes, .int v_best, .int v_bestOnes, .int v_made, .ref h0_log, .int v_size, .int v_answer, .int v_looked, .int v_place, .int v_waiting, .ref h0_waitSet, .ref h0_waitOnes, .ref h0_waitDead])), (h0_factors, .inl (cI, 120, .inl v_factors)), (h0_literals, .inl (cI, 120, .inl v_literals)), (h0_begins, .inl (cI, 22, .inl v_begins))])) (F0 m 75 ls []) := by
            intro n
            induction n with
            | zero =>
              intro k l4 l5 hk hg hF
              exact (by obtain ⟨_, h2, h3⟩ := hk; exact absurd h3 (by omega))
            | succ n ih =>
              intro k l4 l5 hk hg hF H locs hP hD hS ls hl
              have hF := hF.trans (fX6_term_L75.eq_2 ..)
              obtain ⟨ek, hk1, hk2⟩ := hk
              refine lv_iload hx hb dX6_term_75 (lv_at hl 0 rfl) ?_
              refine lv_if_eq (tgt := 125) hx hb dX6_term_77 (by decide) (fun c_3 => ?_) (fun c_3 => ?_)
              · have hF := hF.trans (if_pos c_3)
                refine lv_iload hx hb dX6_term_125 (lv_at hl 0 rfl) ?_
                refine lv_if_ne (tgt := 132) hx hb dX6_term_127 (by decide) (fun c_4 => ?_) (fun c_4 => ?_)
                · have hF := hF.trans (if_neg c_4)
                  refine lv_aload_n hx hb dX6_term_132 rfl (lv_at hl 3 rfl) ?_
                  refine va_get (D := D) hx hb hts inX6 hown hK hP 0 rfl rfl 2 (by decide) (hts _ kw475) (fun _ h9 => h9) rfl dX6_term_133 ?_
                  refine lv_aload_n hx hb dX6_term_136 rfl (lv_at hl 3 rfl) ?_
                  refine va_get (D := D) hx hb hts inX6 hown hK hP 0 rfl rfl 7 (by decide) (hts _ kw480) (fun _ h9 => h9) rfl dX6_term_137 ?_
                  refine lv_iload_n hx hb dX6_term_140 rfl (lv_at hl 4 rfl) ?_
                  refine va_iast hx hb hK hP hD hS 1 0 rfl rfl (by rcases hg with h | h <;> first | exact absurd h (by assumption) | exact okN_in hT (by decide) (k_lt_of h)) dX6_term_141 (fun H locs hP hD hS => ?_)
                  have hP : va_P D vwCl [(h0, .inr (6, [.int v_thrown, .ref h0_costs, .ref h0_factors, .ref h0_literals, .ref h0_begins, .ref h0_bounds, .int v_constraints, .int v_terms, .int v_begun, .int v_done, .int v_over, .int v_set, .int v_ones, .ref h0_trail, .ref h0_choice, .int v_depth, .int v_searchSet, .int v_searchOnes, .int v_best, .int v_bestOnes, .int v_made, .ref h0_log, .int v_size, .int v_answer, .int v_looked, .int v_place, .int v_waiting, .ref h0_waitSet, .ref h0_waitOnes, .ref h0_waitDead])), (h0_factors, .inl (cI, 120, .inl (upd v_factors v_terms.toNatClampNeg x1))), (h0_literals, .inl (cI, 120, .inl v_literals)), (h0_begins, .inl (cI, 22, .inl v_begins))] H := hP
                  have hD : va_D _ [(h0, .inr (6, [.int v_thrown, .ref h0_costs, .ref h0_factors, .ref h0_literals, .ref h0_begins, .ref h0_bounds, .int v_constraints, .int v_terms, .int v_begun, .int v_done, .int v_over, .int v_set, .int v_ones, .ref h0_trail, .ref h0_choice, .int v_depth, .int v_searchSet, .int v_searchOnes, .int v_best, .int v_bestOnes, .int v_made, .ref h0_log, .int v_size, .int v_answer, .int v_looked, .int v_place, .int v_waiting, .ref h0_waitSet, .ref h0_waitOnes, .ref h0_waitDead])), (h0_factors, .inl (cI, 120, .inl (upd v_factors v_terms.toNatClampNeg x1))), (h0_literals, .inl (cI, 120, .inl v_literals)), (h0_begins, .inl (cI, 22, .inl v_begins))] := hD
                  refine lv_aload_n hx hb dX6_term_142 rfl (lv_at hl 3 rfl) ?_
                  refine va_get (D := D) hx hb hts inX6 hown hK hP 0 rfl rfl 3 (by decide) (hts _ kw476) (fun _ h9 => h9) rfl dX6_term_143 ?_
                  refine lv_aload_n hx hb dX6_term_146 rfl (lv_at hl 3 rfl) ?_
                  refine va_get (D := D) hx hb hts inX6 hown hK hP 0 rfl rfl 7 (by decide) (hts _ kw480) (fun _ h9 => h9) rfl dX6_term_147 ?_
                  refine lv_iload_n hx hb dX6_term_150 rfl (lv_at hl 5 rfl) ?_
                  refine va_iast hx hb hK hP hD hS 2 0 rfl rfl (by rcases hg with h | h <;> first | exact absurd h (by assumption) | exact okN_in hT (by decide) (k_lt_of h)) dX6_term_151 (fun H locs hP hD hS => ?_)
                  have hP : va_P D vwCl [(h0, .inr (6, [.int v_thrown, .ref h0_costs, .ref h0_factors, .ref h0_literals, .ref h0_begins, .ref h0_bounds, .int v_constraints, .int v_terms, .int v_begun, .int v_done, .int v_over, .int v_set, .int v_ones, .ref h0_trail, .ref h0_choice, .int v_depth, .int v_searchSet, .int v_searchOnes, .int v_best, .int v_bestOnes, .int v_made, .ref h0_log, .int v_size, .int v_answer, .int v_looked, .int v_place, .int v_waiting, .ref h0_waitSet, .ref h0_waitOnes, .ref h0_waitDead])), (h0_factors, .inl (cI, 120, .inl (upd v_factors v_terms.toNatClampNeg x1))), (h0_literals, .inl (cI, 120, .inl (upd v_literals v_terms.toNatClampNeg x2))), (h0_begins, .inl (cI, 22, .inl v_begins))] H := hP
                  have hD : va_D _ [(h0, .inr (6, [.int v_thrown, .ref h0_costs, .ref h0_factors, .ref h0_literals, .ref h0_begins, .ref h0_bounds, .int v_constraints, .int v_terms, .int v_begun, .int v_done, .int v_over, .int v_set, .int v_ones, .ref h0_trail, .ref h0_choice, .int v_depth, .int v_searchSet, .int v_searchOnes, .int v_best, .int v_bestOnes, .int v_made, .ref h0_log, .int v_size, .int v_answer, .int v_looked, .int v_place, .int v_waiting, .ref h0_waitSet, .ref h0_waitOnes, .ref h0_waitDead])), (h0_factors, .inl (cI, 120, .inl (upd v_factors v_terms.toNatClampNeg x1))), (h0_literals, .inl (cI, 120, .inl (upd v_literals v_terms.toNatClampNeg x2))), (h0_begins, .inl (cI, 22, .inl v_begins))] := hD
                  refine lv_aload_n hx hb dX6_term_152 rfl (lv_at hl 3 rfl) ?_
                  refine lv_dup hx hb dX6_term_153 rfl ?_
                  refine va_get (D := D) hx hb hts inX6 hown hK hP 0 rfl rfl 7 (by decide) (hts _ kw480) (fun _ h9 => h9) rfl dX6_term_154 ?_
                  refine lv_iconst (v := 1) hx hb dX6_term_157 (by decide) ?_
                  refine lv_iadd hx hb dX6_term_158 ?_
                  refine va_put (D := D) (v := .int (v_terms + 1)) (ty := .int) hx hb hts inX6 tyX6 tyX6_ok nmX6 hown hK hP hD hS 0 rfl rfl 7 (by decide) (hts _ kw480) (fun _ h9 => h9) rfl (by decide +kernel) rfl rfl (Nat.le_of_ble_eq_true rfl) dX6_term_159 (fun H locs hP hD hS => ?_)
                  have hP : va_P D vwCl [(h0, .inr (6, [.int v_thrown, .ref h0_costs, .ref h0_factors, .ref h0_literals, .ref h0_begins, .ref h0_bounds, .int v_constraints, .int (v_terms + 1), .int v_begun, .int v_done, .int v_over, .int v_set, .int v_ones, .ref h0_trail, .ref h0_choice, .int v_depth, .int v_searchSet, .int v_searchOnes, .int v_best, .int v_bestOnes, .int v_made, .ref h0_log, .int v_size, .int v_answer, .int v_looked, .int v_place, .int v_waiting, .ref h0_waitSet, .ref h0_waitOnes, .ref h0_waitDead])), (h0_factors, .inl (cI, 120, .inl (upd v_factors v_terms.toNatClampNeg x1))), (h0_literals, .inl (cI, 120, .inl (upd v_literals v_terms.toNatClampNeg x2))), (h0_begins, .inl (cI, 22, .inl v_begins))] H := hP
                  have hD : va_D _ [(h0, .inr (6, [.int v_thrown, .ref h0_costs, .ref h0_factors, .ref h0_literals, .ref h0_begins, .ref h0_bounds, .int v_constraints, .int (v_terms + 1), .int v_begun, .int v_done, .int v_over, .int v_set, .int v_ones, .ref h0_trail, .ref h0_choice, .int v_depth, .int v_searchSet, .int v_searchOnes, .int v_best, .int v_bestOnes, .int v_made, .ref h0_log, .int v_size, .int v_answer, .int v_looked, .int v_place, .int v_waiting, .ref h0_waitSet, .ref h0_waitOnes, .ref h0_waitDead])), (h0_factors, .inl (cI, 120, .inl (upd v_factors v_terms.toNatClampNeg x1))), (h0_literals, .inl (cI, 120, .inl (upd v_literals v_terms.toNatClampNeg x2))), (h0_begins, .inl (cI, 22, .inl v_begins))] := hD
                  refine lv_iconst (v := 0) hx hb dX6_term_162 (by decide) ?_
                  exact wreti hx hb hr hlocks (by rw [hF]) (by rw [hF]; exact hP) hS dX6_term_163
                · have hF := hF.trans (if_pos c_4)
                  refine lv_iconst (v := (-1)) hx hb dX6_term_130 (by decide) ?_
                  exact wreti hx hb hr hlocks (by rw [hF]) (by rw [hF]; exact hP) hS dX6_term_131
              · have hF := hF.trans (if_neg c_3)
                refine lv_iload hx hb dX6_term_80 (lv_at hl 1 rfl) ?_
                refine lv_aload_n hx hb dX6_term_82 rfl (lv_at hl 3 rfl) ?_
                refine va_get (D := D) hx hb hts inX6 hown hK hP 0 rfl rfl 7 (by decide) (hts _ kw480) (fun _ h9 => h9) rfl dX6_term_83 ?_
                refine lv_icmp_ge (tgt := 125) hx hb dX6_term_86 (by decide) (fun c_5 => ?_) (fun c_5 => ?_)
                · have hF := hF.trans (if_pos c_5)
                  refine lv_iload hx hb dX6_term_125 (lv_at hl 0 rfl) ?_
                  refine lv_if_ne (tgt := 132) hx hb dX6_term_127 (by decide) (fun c_6 => ?_) (fun c_6 => ?_)
                  · have hF := hF.trans (if_neg c_6)
                    refine lv_aload_n hx hb dX6_term_132 rfl (lv_at hl 3 rfl) ?_
                    refine va_get (D := D) hx hb hts inX6 hown hK hP 0 rfl rfl 2 (by decide) (hts _ kw475) (fun _ h9 => h9) rfl dX6_term_133 ?_
                    refine lv_aload_n hx hb dX6_term_136 rfl (lv_at hl 3 rfl) ?_
                    refine va_get (D := D) hx hb hts inX6 hown hK hP 0 rfl rfl 7 (by decide) (hts _ kw480) (fun _ h9 => h9) rfl dX6_term_137 ?_
                    refine lv_iload_n hx hb dX6_term_140 rfl (lv_at hl 4 rfl) ?_
                    refine va_iast hx hb hK hP hD hS 1 0 rfl rfl (by rcases hg with h | h <;> first | exact absurd h (by assumption) | exact okN_in hT (by decide) (k_lt_of h)) dX6_term_141 (fun H locs hP hD hS => ?_)
                    have hP : va_P D vwCl [(h0, .inr (6, [.int v_thrown, .ref h0_costs, .ref h0_factors, .ref h0_literals, .ref h0_begins, .ref h0_bounds, .int v_constraints, .int v_terms, .int v_begun, .int v_done, .int v_over, .int v_set, .int v_ones, .ref h0_trail, .ref h0_choice, .int v_depth, .int v_searchSet, .int v_searchOnes, .int v_best, .int v_bestOnes, .int v_made, .ref h0_log, .int v_size, .int v_answer, .int v_looked, .int v_place, .int v_waiting, .ref h0_waitSet, .ref h0_waitOnes, .ref h0_waitDead])), (h0_factors, .inl (cI, 120, .inl (upd v_factors v_terms.toNatClampNeg x1))), (h0_literals, .inl (cI, 120, .inl v_literals)), (h0_begins, .inl (cI, 22, .inl v_begins))] H := hP
                    have hD : va_D _ [(h0, .inr (6, [.int v_thrown, .ref h0_costs, .ref h0_factors, .ref h0_literals, .ref h0_begins, .ref h0_bounds, .int v_constraints, .int v_terms, .int v_begun, .int v_done, .int v_over, .int v_set, .int v_ones, .ref h0_trail, .ref h0_choice, .int v_depth, .int v_searchSet, .int v_searchOnes, .int v_best, .int v_bestOnes, .int v_made, .ref h0_log, .int v_size, .int v_answer, .int v_looked, .int v_place, .int v_waiting, .ref h0_waitSet, .ref h0_waitOnes, .ref h0_waitDead])), (h0_factors, .inl (cI, 120, .inl (upd v_factors v_terms.toNatClampNeg x1))), (h0_literals, .inl (cI, 120, .inl v_literals)), (h0_begins, .inl (cI, 22, .inl v_begins))] := hD
                    refine lv_aload_n hx hb dX6_term_142 rfl (lv_at hl 3 rfl) ?_
                    refine va_get (D := D) hx hb hts inX6 hown hK hP 0 rfl rfl 3 (by decide) (hts _ kw476) (fun _ h9 => h9) rfl dX6_term_143 ?_
                    refine lv_aload_n hx hb dX6_term_146 rfl (lv_at hl 3 rfl) ?_
                    refine va_get (D := D) hx hb hts inX6 hown hK hP 0 rfl rfl 7 (by decide) (hts _ kw480) (fun _ h9 => h9) rfl dX6_term_147 ?_
                    refine lv_iload_n hx hb dX6_term_150 rfl (lv_at hl 5 rfl) ?_
                    refine va_iast hx hb hK hP hD hS 2 0 rfl rfl (by rcases hg with h | h <;> first | exact absurd h (by assumption) | exact okN_in hT (by decide) (k_lt_of h)) dX6_term_151 (fun H locs hP hD hS => ?_)
                    have hP : va_P D vwCl [(h0, .inr (6, [.int v_thrown, .ref h0_costs, .ref h0_factors, .ref h0_literals, .ref h0_begins, .ref h0_bounds, .int v_constraints, .int v_terms, .int v_begun, .int v_done, .int v_over, .int v_set, .int v_ones, .ref h0_trail, .ref h0_choice, .int v_depth, .int v_searchSet, .int v_searchOnes, .int v_best, .int v_bestOnes, .int v_made, .ref h0_log, .int v_size, .int v_answer, .int v_looked, .int v_place, .int v_waiting, .ref h0_waitSet, .ref h0_waitOnes, .ref h0_waitDead])), (h0_factors, .inl (cI, 120, .inl (upd v_factors v_terms.toNatClampNeg x1))), (h0_literals, .inl (cI, 120, .inl (upd v_literals v_terms.toNatClampNeg x2))), (h0_begins, .inl (cI, 22, .inl v_begins))] H := hP
                    have hD : va_D _ [(h0, .inr (6, [.int v_thrown, .ref h0_costs, .ref h0_factors, .ref h0_literals, .ref h0_begins, .ref h0_bounds, .int v_constraints, .int v_terms, .int v_begun, .int v_done, .int v_over, .int v_set, .int v_ones, .ref h0_trail, .ref h0_choice, .int v_depth, .int v_searchSet, .int v_searchOnes, .int v_best, .int v_bestOnes, .int v_made, .ref h0_log, .int v_size, .int v_answer, .int v_looked, .int v_place, .int v_waiting, .ref h0_waitSet, .ref h0_waitOnes, .ref h0_waitDead])), (h0_factors, .inl (cI, 120, .inl (upd v_factors v_terms.toNatClampNeg x1))), (h0_literals, .inl (cI, 120, .inl (upd v_literals v_terms.toNatClampNeg x2))), (h0_begins, .inl (cI, 22, .inl v_begins))] := hD
                    refine lv_aload_n hx hb dX6_term_152 rfl (lv_at hl 3 rfl) ?_
                    refine lv_dup hx hb dX6_term_153 rfl ?_
                    refine va_get (D := D) hx hb hts inX6 hown hK hP 0 rfl rfl 7 (by decide) (hts _ kw480) (fun _ h9 => h9) rfl dX6_term_154 ?_
                    refine lv_iconst (v := 1) hx hb dX6_term_157 (by decide) ?_
                    refine lv_iadd hx hb dX6_term_158 ?_
                    refine va_put (D := D) (v := .int (v_terms + 1)) (ty := .int) hx hb hts inX6 tyX6 tyX6_ok nmX6 hown hK hP hD hS 0 rfl rfl 7 (by decide) (hts _ kw480) (fun _ h9 => h9) rfl (by decide +kernel) rfl rfl (Nat.le_of_ble_eq_true rfl) dX6_term_159 (fun H locs hP hD hS => ?_)
                    have hP : va_P D vwCl [(h0, .inr (6, [.int v_thrown, .ref h0_costs, .ref h0_factors, .ref h0_literals, .ref h0_begins, .ref h0_bounds, .int v_constraints, .int (v_terms + 1), .int v_begun, .int v_done, .int v_over, .int v_set, .int v_ones, .ref h0_trail, .ref h0_choice, .int v_depth, .int v_searchSet, .int v_searchOnes, .int v_best, .int v_bestOnes, .int v_made, .ref h0_log, .int v_size, .int v_answer, .int v_looked, .int v_place, .int v_waiting, .ref h0_waitSet, .ref h0_waitOnes, .ref h0_waitDead])), (h0_factors, .inl (cI, 120, .inl (upd v_factors v_terms.toNatClampNeg x1))), (h0_literals, .inl (cI, 120, .inl (upd v_literals v_terms.toNatClampNeg x2))), (h0_begins, .inl (cI, 22, .inl v_begins))] H := hP
                    have hD : va_D _ [(h0, .inr (6, [.int v_thrown, .ref h0_costs, .ref h0_factors, .ref h0_literals, .ref h0_begins, .ref h0_bounds, .int v_constraints, .int (v_terms + 1), .int v_begun, .int v_done, .int v_over, .int v_set, .int v_ones, .ref h0_trail, .ref h0_choice, .int v_depth, .int v_searchSet, .int v_searchOnes, .int v_best, .int v_bestOnes, .int v_made, .ref h0_log, .int v_size, .int v_answer, .int v_looked, .int v_place, .int v_waiting, .ref h0_waitSet, .ref h0_waitOnes, .ref h0_waitDead])), (h0_factors, .inl (cI, 120, .inl (upd v_factors v_terms.toNatClampNeg x1))), (h0_literals, .inl (cI, 120, .inl (upd v_literals v_terms.toNatClampNeg x2))), (h0_begins, .inl (cI, 22, .inl v_begins))] := hD
                    refine lv_iconst (v := 0) hx hb dX6_term_162 (by decide) ?_
                    exact wreti hx hb hr hlocks (by rw [hF]) (by rw [hF]; exact hP) hS dX6_term_163
                  · have hF := hF.trans (if_pos c_6)
                    refine lv_iconst (v := (-1)) hx hb dX6_term_130 (by decide) ?_
                    exact wreti hx hb hr hlocks (by rw [hF]) (by rw [hF]; exact hP) hS dX6_term_131
                · have hF := hF.trans (if_neg c_5)
                  refine lv_aload_n hx hb dX6_term_89 rfl (lv_at hl 3 rfl) ?_
                  refine va_get (D := D) hx hb hts inX6 hown hK hP 0 rfl rfl 3 (by decide) (hts _ kw476) (fun _ h9 => h9) rfl dX6_term_90 ?_
                  refine lv_iload hx hb dX6_term_93 (lv_at hl 1 rfl) ?_
                  refine va_iald hx hb hK hP 2 0 rfl rfl (k_in ek (by have := okC_lt ek eT hk1 (by assumption); omega) (by decide)) dX6_term_95 ?_
                  refine lv_iload_n hx hb dX6_term_96 rfl (lv_at hl 5 rfl) ?_
                  refine lv_icmp_eq (tgt := 116) hx hb dX6_term_97 (by decide) (fun c_7 => ?_) (fun c_7 => ?_)
                  · have hF := hF.trans (if_pos c_7)
                    refine lv_iconst (v := 0) hx hb dX6_term_116 (by decide) ?_
                    refine lv_istore (lv' := [(4, .int 0), (5, .int l5), (3, .int x2), (0, .ref h0), (1, .int x1), (2, .int x2)]) hx hb dX6_term_117 hl (by decide) rfl (fun ls hl => ?_)
                    refine lv_iinc (v := l5 + 1) (lv' := [(5, .int (l5 + 1)), (4, .int 0), (3, .int x2), (0, .ref h0), (1, .int x1), (2, .int x2)]) hx hb dX6_term_119 hl (k := 1) rfl rfl (by decide) rfl (fun ls hl => ?_)
                    refine lv_goto (tgt := 75) hx hb dX6_term_122 (by decide) ?_
                    exact ih (k + 1) 0 (l5 + 1) ⟨k_s ek, by have := okC_lt ek eT hk1 (by assumption); omega, by omega⟩ (by first | exact Or.inl rfl | (rcases hg with h | h <;> first | exact absurd h (by assumption) | exact Or.inr h)) hF H locs hP hD hS ls (lv_sub hl [1, 0, 2, 3, 4, 5] rfl)
                  · have hF := hF.trans (if_neg c_7)
                    refine lv_aload_n hx hb dX6_term_100 rfl (lv_at hl 3 rfl) ?_
                    refine va_get (D := D) hx hb hts inX6 hown hK hP 0 rfl rfl 3 (by decide) (hts _ kw476) (fun _ h9 => h9) rfl dX6_term_101 ?_
                    refine lv_iload hx hb dX6_term_104 (lv_at hl 1 rfl) ?_
                    refine va_iald hx hb hK hP 2 0 rfl rfl (k_in ek (by have := okC_lt ek eT hk1 (by assumption); omega) (by decide)) dX6_term_106 ?_
                    refine lv_iload_n hx hb dX6_term_107 rfl (lv_at hl 5 rfl) ?_
                    refine lv_ineg hx hb dX6_term_108 ?_
                    refine lv_icmp_eq (tgt := 116) hx hb dX6_term_109 (by decide) (fun c_8 => ?_) (fun c_8 => ?_)
                    · have hF := hF.trans (if_pos c_8)
                      refine lv_iconst (v := 0) hx hb dX6_term_116 (by decide) ?_
                      refine lv_istore (lv' := [(4, .int 0), (5, .int l5), (3, .int x2), (0, .ref h0), (1, .int x1), (2, .int x2)]) hx hb dX6_term_117 hl (by decide) rfl (fun ls hl => ?_)
                      refine lv_iinc (v := l5 + 1) (lv' := [(5, .int (l5 + 1)), (4, .int 0), (3, .int x2), (0, .ref h0), (1, .int x1), (2, .int x2)]) hx hb dX6_term_119 hl (k := 1) rfl rfl (by decide) rfl (fun ls hl => ?_)
                      refine lv_goto (tgt := 75) hx hb dX6_term_122 (by decide) ?_
                      exact ih (k + 1) 0 (l5 + 1) ⟨k_s ek, by have := okC_lt ek eT hk1 (by assumption); omega, by omega⟩ (by first | exact Or.inl rfl | (rcases hg with h | h <;> first | exact absurd h (by assumption) | exact Or.inr h)) hF H locs hP hD hS ls (lv_sub hl [1, 0, 2, 3, 4, 5] rfl)
                    · have hF := hF.trans (if_neg c_8)
                      refine lv_iconst (v := 1) hx hb dX6_term_112 (by decide) ?_
                      refine lv_goto (tgt := 117) hx hb dX6_term_113 (by decide) ?_
                      refine lv_istore (lv' := [(4, .int 1), (5, .int l5), (3, .int x2), (0, .ref h0), (1, .int x1), (2, .int x2)]) hx hb dX6_term_117 hl (by decide) rfl (fun ls hl => ?_)
                      refine lv_iinc (v := l5 + 1) (lv' := [(5, .int (l5 + 1)), (4, .int 1), (3, .int x2), (0, .ref h0), (1, .int x1), (2, .int x2)]) hx hb dX6_term_119 hl (k := 1) rfl rfl (by decide) rfl (fun ls hl => ?_)
                      refine lv_goto (tgt := 75) hx hb dX6_term_122 (by decide) ?_
                      exact ih (k + 1) 1 (l5 + 1) ⟨k_s ek, by have := okC_lt ek eT hk1 (by assumption); omega, by omega⟩ (by first | exact Or.inl rfl | (rcases hg with h | h <;> first | exact absurd h (by assumption) | exact Or.inr h)) hF H locs hP hD hS ls (lv_sub hl [1, 0, 2, 3, 4, 5] rfl)
          exact loop75 121 B 0 (v_begins v_constraints.toNatClampNeg) ⟨eB, by omega, by omega⟩ (by first | exact Or.inl rfl | exact Or.inr (by assumption)) hF _ _ hP hD hS ls (lv_sub hl [1, 0, 2, 3, 4, 5] rfl)
        · have hF := hF.trans (if_neg c_9)
          refine lv_aload_n hx hb dX6_term_39 rfl (lv_at hl 1 rfl) ?_
          refine va_get (D := D) hx hb hts inX6 hown hK hP 0 rfl rfl 7 (by decide) (hts _ kw480) (fun _ h9 => h9) rfl dX6_term_40 ?_
          refine lv_bipush (v := 120) hx hb dX6_term_43 (by decide) ?_
          refine lv_icmp_ge (tgt := 61) hx hb dX6_term_45 (by decide) (fun c_9 => ?_) (fun c_9 => ?_)
          · have hF := hF.trans (if_pos c_9)
            refine lv_iconst (v := 0) hx hb dX6_term_61 (by decide) ?_
            refine lv_istore (lv' := [(4, .int 0), (3, .int x2), (0, .ref h0), (1, .int x1), (2, .int x2)]) hx hb dX6_term_62 hl (by decide) rfl (fun ls hl => ?_)
            refine lv_aload_n hx hb dX6_term_64 rfl (lv_at hl 2 rfl) ?_
            refine va_get (D := D) hx hb hts inX6 hown hK hP 0 rfl rfl 4 (by decide) (hts _ kw477) (fun _ h9 => h9) rfl dX6_term_65 ?_
            refine lv_aload_n hx hb dX6_term_68 rfl (lv_at hl 2 rfl) ?_
            refine va_get (D := D) hx hb hts inX6 hown hK hP 0 rfl rfl 6 (by decide) (hts _ kw479) (fun _ h9 => h9) rfl dX6_term_69 ?_
            refine va_iald hx hb hK hP 3 0 rfl rfl (okN_inS hCn (by decide) (by decide)) dX6_term_72 ?_
            refine lv_istore (lv' := [(5, .int (v_begins v_constraints.toNatClampNeg)), (4, .int 0), (3, .int x2), (0, .ref h0), (1, .int x1), (2, .int x2)]) hx hb dX6_term_73 hl (by decide) rfl (fun ls hl => ?_)
            have loop75 : ∀ (n : Nat) (k : Nat) (l4 : Int32) (l5 : Int32) , (l5 = nI k ∧ k ≤ 120 ∧ 120 < k + n) → (l4 = 0 ∨ ¬ (120 : Int32) ≤ v_terms) → fX6_term x1 x2 v_constraints v_terms v_begun v_factors v_literals v_begins = fX6_term_L75 x1 x2 v_constraints v_terms v_begun v_factors v_literals v_begins n l4 l5 → ∀ (H : Heap) (locs : List Loc), va_P D vwCl [(h0, .inr (6, [.int v_thrown, .ref h0_costs, .ref h0_factors, .ref h0_literals, .ref h0_begins, .ref h0_bounds, .int v_constraints, .int v_terms, .int v_begun, .int v_done, .int v_over, .int v_set, .int v_ones, .ref h0_trail, .ref h0_choice, .int v_depth, .int v_searchSet, .int v_searchOnes, .int v_best, .int v_bestOnes, .int v_made, .ref h0_log, .int v_size, .int v_answer, .int v_looked, .int v_place, .int v_waiting, .ref h0_waitSet, .ref h0_waitOnes, .ref h0_waitDead])), (h0_factors, .inl (cI, 120, .inl v_factors)), (h0_literals, .inl (cI, 120, .inl v_literals)), (h0_begins, .inl (cI, 22, .inl v_begins))] H → va_D (aw [(h0, .inr (6, [.int v_thrown, .ref h0_costs, .ref h0_factors, .ref h0_literals, .ref h0_begins, .ref h0_bounds, .int v_constraints, .int v_terms, .int v_begun, .int v_done, .int v_over, .int v_set, .int v_ones, .ref h0_trail, .ref h0_choice, .int v_depth, .int v_searchSet, .int v_searchOnes, .int v_best, .int v_bestOnes, .int v_made, .ref h0_log, .int v_size, .int v_answer, .int v_looked, .int v_place, .int v_waiting, .ref h0_waitSet, .ref h0_waitOnes, .ref h0_waitDead])), (h0_factors, .inl (cI, 120, .inl v_factors)), (h0_literals, .inl (cI, 120, .inl v_literals)), (h0_begins, .inl (cI, 22, .inl v_begins))]) [(h0, .inr (6, [.int v_thrown, .ref h0_costs, .ref h0_factors, .ref h0_literals, .ref h0_begins, .ref h0_bounds, .int v_constraints, .int v_terms, .int v_begun, .int v_done, .int v_over, .int v_set, .int v_ones, .ref h0_trail, .ref h0_choice, .int v_depth, .int v_searchSet, .int v_searchOnes, .int v_best, .int v_bestOnes, .int v_made, .ref h0_log, .int v_size, .int v_answer, .int v_looked, .int v_place, .int v_waiting, .ref h0_waitSet, .ref h0_waitOnes, .ref h0_waitDead])), (h0_factors, .inl (cI, 120, .inl v_factors)), (h0_literals, .inl (cI, 120, .inl v_literals)), (h0_begins, .inl (cI, 22, .inl v_begins))] → va_S (aw [(h0, .inr (6, [.int v_thrown, .ref h0_costs, .ref h0_factors, .ref h0_literals, .ref h0_begins, .ref h0_bounds, .int v_constraints, .int v_terms, .int v_begun, .int v_done, .int v_over, .int v_set, .int v_ones, .ref h0_trail, .ref h0_choice, .int v_depth, .int v_searchSet, .int v_searchOnes, .int v_best, .int v_bestOnes, .int v_made, .ref h0_log, .int v_size, .int v_answer, .int v_looked, .int v_place, .int v_waiting, .ref h0_waitSet, .ref h0_waitOnes, .ref h0_waitDead])), (h0_factors, .inl (cI, 120, .inl v_factors)), (h0_literals, .inl (cI, 120, .inl v_literals)), (h0_begins, .inl (cI, 22, .inl v_begins))]) s.heap H locs → ∀ ls : Array Slot, lv_has ls 6 [(4, .int l4), (5, .int l5), (3, .int x2), (0, .ref h0), (1, .int x1), (2, .int x2)] → W p l e { frames := 1, cells := 0, slots := 0, locals := 22 } s m [.ref h0, .int x1, .int x2].toArray below meth c H locs 0 0 (MQ below (wQ D (some (.int ((fX6_term x1 x2 v_constraints v_terms v_begun v_factors v_literals v_begins).1))) [(h0, .inr (6, [.int v_thrown, .ref h0_costs, .ref h0_factors, .ref h0_literals, .ref h0_begins, .ref h0_bounds, .int v_constraints, .int v_terms, .int v_begun, .int v_done, .int v_over, .int v_set, .int v_ones, .ref h0_trail, .ref h0_choice, .int v_depth, .int v_searchSet, .int v_searchOnes, .int v_best, .int v_bestOnes, .int v_made, .ref h0_log, .int v_size, .int v_answer, .int v_looked, .int v_place, .int v_waiting, .ref h0_waitSet, .ref h0_waitOnes, .ref h0_waitDead])), (h0_factors, .inl (cI, 120, .inl v_factors)), (h0_literals, .inl (cI, 120, .inl v_literals)), (h0_begins, .inl (cI, 22, .inl v_begins))] [(h0, .inr (6, [.int v_thrown, .ref h0_costs, .ref h0_factors, .ref h0_literals, .ref h0_begins, .ref h0_bounds, .int v_constraints, .int ((fX6_term x1 x2 v_constraints v_terms v_begun v_factors v_literals v_begins).2.1), .int v_begun, .int v_done, .int v_over, .int v_set, .int v_ones, .ref h0_trail, .ref h0_choice, .int v_depth, .int v_searchSet, .int v_searchOnes, .int v_best, .int v_bestOnes, .int v_made, .ref h0_log, .int v_size, .int v_answer, .int v_looked, .int v_place, .int v_waiting, .ref h0_waitSet, .ref h0_waitOnes, .ref h0_waitDead])), (h0_factors, .inl (cI, 120, .inl ((fX6_term x1 x2 v_constraints v_terms v_begun v_factors v_literals v_begins).2.2.1))), (h0_literals, .inl (cI, 120, .inl ((fX6_term x1 x2 v_constraints v_terms v_begun v_factors v_literals v_begins).2.2.2))), (h0_begins, .inl (cI, 22, .inl v_begins))]) [.ref h0, .int x1, .int x2].toArray s 0 0 (aw [(h0, .inr (6, [.int v_thrown, .ref h0_costs, .ref h0_factors, .ref h0_literals, .ref h0_begins, .ref h0_bounds, .int v_constraints, .int v_terms, .int v_begun, .int v_done, .int v_over, .int v_set, .int v_ones, .ref h0_trail, .ref h0_choice, .int v_depth, .int v_searchSet, .int v_searchOnes, .int v_best, .int v_bestOnes, .int v_made, .ref h0_log, .int v_size, .int v_answer, .int v_looked, .int v_place, .int v_waiting, .ref h0_waitSet, .ref h0_waitOnes, .ref h0_waitDead])), (h0_factors, .inl (cI, 120, .inl v_factors)), (h0_literals, .inl (cI, 120, .inl v_literals)), (h0_begins, .inl (cI, 22, .inl v_begins))])) (F0 m 75 ls []) := by
              intro n
              induction n with
              | zero =>
                intro k l4 l5 hk hg hF
                exact (by obtain ⟨_, h2, h3⟩ := hk; exact absurd h3 (by omega))
              | succ n ih =>
                intro k l4 l5 hk hg hF H locs hP hD hS ls hl
                have hF := hF.trans (fX6_term_L75.eq_2 ..)
                obtain ⟨ek, hk1, hk2⟩ := hk
                refine lv_iload hx hb dX6_term_75 (lv_at hl 0 rfl) ?_
                refine lv_if_eq (tgt := 125) hx hb dX6_term_77 (by decide) (fun c_3 => ?_) (fun c_3 => ?_)
                · have hF := hF.trans (if_pos c_3)
                  refine lv_iload hx hb dX6_term_125 (lv_at hl 0 rfl) ?_
                  refine lv_if_ne (tgt := 132) hx hb dX6_term_127 (by decide) (fun c_4 => ?_) (fun c_4 => ?_)
                  · have hF := hF.trans (if_neg c_4)
                    refine lv_aload_n hx hb dX6_term_132 rfl (lv_at hl 3 rfl) ?_
                    refine va_get (D := D) hx hb hts inX6 hown hK hP 0 rfl rfl 2 (by decide) (hts _ kw475) (fun _ h9 => h9) rfl dX6_term_133 ?_
                    refine lv_aload_n hx hb dX6_term_136 rfl (lv_at hl 3 rfl) ?_
                    refine va_get (D := D) hx hb hts inX6 hown hK hP 0 rfl rfl 7 (by decide) (hts _ kw480) (fun _ h9 => h9) rfl dX6_term_137 ?_
                    refine lv_iload_n hx hb dX6_term_140 rfl (lv_at hl 4 rfl) ?_
                    refine va_iast hx hb hK hP hD hS 1 0 rfl rfl (by rcases hg with h | h <;> first | exact absurd h (by assumption) | exact okN_in hT (by decide) (k_lt_of h)) dX6_term_141 (fun H locs hP hD hS => ?_)
                    have hP : va_P D vwCl [(h0, .inr (6, [.int v_thrown, .ref h0_costs, .ref h0_factors, .ref h0_literals, .ref h0_begins, .ref h0_bounds, .int v_constraints, .int v_terms, .int v_begun, .int v_done, .int v_over, .int v_set, .int v_ones, .ref h0_trail, .ref h0_choice, .int v_depth, .int v_searchSet, .int v_searchOnes, .int v_best, .int v_bestOnes, .int v_made, .ref h0_log, .int v_size, .int v_answer, .int v_looked, .int v_place, .int v_waiting, .ref h0_waitSet, .ref h0_waitOnes, .ref h0_waitDead])), (h0_factors, .inl (cI, 120, .inl (upd v_factors v_terms.toNatClampNeg x1))), (h0_literals, .inl (cI, 120, .inl v_literals)), (h0_begins, .inl (cI, 22, .inl v_begins))] H := hP
                    have hD : va_D _ [(h0, .inr (6, [.int v_thrown, .ref h0_costs, .ref h0_factors, .ref h0_literals, .ref h0_begins, .ref h0_bounds, .int v_constraints, .int v_terms, .int v_begun, .int v_done, .int v_over, .int v_set, .int v_ones, .ref h0_trail, .ref h0_choice, .int v_depth, .int v_searchSet, .int v_searchOnes, .int v_best, .int v_bestOnes, .int v_made, .ref h0_log, .int v_size, .int v_answer, .int v_looked, .int v_place, .int v_waiting, .ref h0_waitSet, .ref h0_waitOnes, .ref h0_waitDead])), (h0_factors, .inl (cI, 120, .inl (upd v_factors v_terms.toNatClampNeg x1))), (h0_literals, .inl (cI, 120, .inl v_literals)), (h0_begins, .inl (cI, 22, .inl v_begins))] := hD
                    refine lv_aload_n hx hb dX6_term_142 rfl (lv_at hl 3 rfl) ?_
                    refine va_get (D := D) hx hb hts inX6 hown hK hP 0 rfl rfl 3 (by decide) (hts _ kw476) (fun _ h9 => h9) rfl dX6_term_143 ?_
                    refine lv_aload_n hx hb dX6_term_146 rfl (lv_at hl 3 rfl) ?_
                    refine va_get (D := D) hx hb hts inX6 hown hK hP 0 rfl rfl 7 (by decide) (hts _ kw480) (fun _ h9 => h9) rfl dX6_term_147 ?_
                    refine lv_iload_n hx hb dX6_term_150 rfl (lv_at hl 5 rfl) ?_
                    refine va_iast hx hb hK hP hD hS 2 0 rfl rfl (by rcases hg with h | h <;> first | exact absurd h (by assumption) | exact okN_in hT (by decide) (k_lt_of h)) dX6_term_151 (fun H locs hP hD hS => ?_)
                    have hP : va_P D vwCl [(h0, .inr (6, [.int v_thrown, .ref h0_costs, .ref h0_factors, .ref h0_literals, .ref h0_begins, .ref h0_bounds, .int v_constraints, .int v_terms, .int v_begun, .int v_done, .int v_over, .int v_set, .int v_ones, .ref h0_trail, .ref h0_choice, .int v_depth, .int v_searchSet, .int v_searchOnes, .int v_best, .int v_bestOnes, .int v_made, .ref h0_log, .int v_size, .int v_answer, .int v_looked, .int v_place, .int v_waiting, .ref h0_waitSet, .ref h0_waitOnes, .ref h0_waitDead])), (h0_factors, .inl (cI, 120, .inl (upd v_factors v_terms.toNatClampNeg x1))), (h0_literals, .inl (cI, 120, .inl (upd v_literals v_terms.toNatClampNeg x2))), (h0_begins, .inl (cI, 22, .inl v_begins))] H := hP
                    have hD : va_D _ [(h0, .inr (6, [.int v_thrown, .ref h0_costs, .ref h0_factors, .ref h0_literals, .ref h0_begins, .ref h0_bounds, .int v_constraints, .int v_terms, .int v_begun, .int v_done, .int v_over, .int v_set, .int v_ones, .ref h0_trail, .ref h0_choice, .int v_depth, .int v_searchSet, .int v_searchOnes, .int v_best, .int v_bestOnes, .int v_made, .ref h0_log, .int v_size, .int v_answer, .int v_looked, .int v_place, .int v_waiting, .ref h0_waitSet, .ref h0_waitOnes, .ref h0_waitDead])), (h0_factors, .inl (cI, 120, .inl (upd v_factors v_terms.toNatClampNeg x1))), (h0_literals, .inl (cI, 120, .inl (upd v_literals v_terms.toNatClampNeg x2))), (h0_begins, .inl (cI, 22, .inl v_begins))] := hD
                    refine lv_aload_n hx hb dX6_term_152 rfl (lv_at hl 3 rfl) ?_
                    refine lv_dup hx hb dX6_term_153 rfl ?_
                    refine va_get (D := D) hx hb hts inX6 hown hK hP 0 rfl rfl 7 (by decide) (hts _ kw480) (fun _ h9 => h9) rfl dX6_term_154 ?_
                    refine lv_iconst (v := 1) hx hb dX6_term_157 (by decide) ?_
                    refine lv_iadd hx hb dX6_term_158 ?_
                    refine va_put (D := D) (v := .int (v_terms + 1)) (ty := .int) hx hb hts inX6 tyX6 tyX6_ok nmX6 hown hK hP hD hS 0 rfl rfl 7 (by decide) (hts _ kw480) (fun _ h9 => h9) rfl (by decide +kernel) rfl rfl (Nat.le_of_ble_eq_true rfl) dX6_term_159 (fun H locs hP hD hS => ?_)
                    have hP : va_P D vwCl [(h0, .inr (6, [.int v_thrown, .ref h0_costs, .ref h0_factors, .ref h0_literals, .ref h0_begins, .ref h0_bounds, .int v_constraints, .int (v_terms + 1), .int v_begun, .int v_done, .int v_over, .int v_set, .int v_ones, .ref h0_trail, .ref h0_choice, .int v_depth, .int v_searchSet, .int v_searchOnes, .int v_best, .int v_bestOnes, .int v_made, .ref h0_log, .int v_size, .int v_answer, .int v_looked, .int v_place, .int v_waiting, .ref h0_waitSet, .ref h0_waitOnes, .ref h0_waitDead])), (h0_factors, .inl (cI, 120, .inl (upd v_factors v_terms.toNatClampNeg x1))), (h0_literals, .inl (cI, 120, .inl (upd v_literals v_terms.toNatClampNeg x2))), (h0_begins, .inl (cI, 22, .inl v_begins))] H := hP
                    have hD : va_D _ [(h0, .inr (6, [.int v_thrown, .ref h0_costs, .ref h0_factors, .ref h0_literals, .ref h0_begins, .ref h0_bounds, .int v_constraints, .int (v_terms + 1), .int v_begun, .int v_done, .int v_over, .int v_set, .int v_ones, .ref h0_trail, .ref h0_choice, .int v_depth, .int v_searchSet, .int v_searchOnes, .int v_best, .int v_bestOnes, .int v_made, .ref h0_log, .int v_size, .int v_answer, .int v_looked, .int v_place, .int v_waiting, .ref h0_waitSet, .ref h0_waitOnes, .ref h0_waitDead])), (h0_factors, .inl (cI, 120, .inl (upd v_factors v_terms.toNatClampNeg x1))), (h0_literals, .inl (cI, 120, .inl (upd v_literals v_terms.toNatClampNeg x2))), (h0_begins, .inl (cI, 22, .inl v_begins))] := hD
                    refine lv_iconst (v := 0) hx hb dX6_term_162 (by decide) ?_
                    exact wreti hx hb hr hlocks (by rw [hF]) (by rw [hF]; exact hP) hS dX6_term_163
                  · have hF := hF.trans (if_pos c_4)
                    refine lv_iconst (v := (-1)) hx hb dX6_term_130 (by decide) ?_
                    exact wreti hx hb hr hlocks (by rw [hF]) (by rw [hF]; exact hP) hS dX6_term_131
                · have hF := hF.trans (if_neg c_3)
                  refine lv_iload hx hb dX6_term_80 (lv_at hl 1 rfl) ?_
                  refine lv_aload_n hx hb dX6_term_82 rfl (lv_at hl 3 rfl) ?_
                  refine va_get (D := D) hx hb hts inX6 hown hK hP 0 rfl rfl 7 (by decide) (hts _ kw480) (fun _ h9 => h9) rfl dX6_term_83 ?_
                  refine lv_icmp_ge (tgt := 125) hx hb dX6_term_86 (by decide) (fun c_5 => ?_) (fun c_5 => ?_)
                  · have hF := hF.trans (if_pos c_5)
                    refine lv_iload hx hb dX6_term_125 (lv_at hl 0 rfl) ?_
                    refine lv_if_ne (tgt := 132) hx hb dX6_term_127 (by decide) (fun c_6 => ?_) (fun c_6 => ?_)
                    · have hF := hF.trans (if_neg c_6)
                      refine lv_aload_n hx hb dX6_term_132 rfl (lv_at hl 3 rfl) ?_
                      refine va_get (D := D) hx hb hts inX6 hown hK hP 0 rfl rfl 2 (by decide) (hts _ kw475) (fun _ h9 => h9) rfl dX6_term_133 ?_
                      refine lv_aload_n hx hb dX6_term_136 rfl (lv_at hl 3 rfl) ?_
                      refine va_get (D := D) hx hb hts inX6 hown hK hP 0 rfl rfl 7 (by decide) (hts _ kw480) (fun _ h9 => h9) rfl dX6_term_137 ?_
                      refine lv_iload_n hx hb dX6_term_140 rfl (lv_at hl 4 rfl) ?_
                      refine va_iast hx hb hK hP hD hS 1 0 rfl rfl (by rcases hg with h | h <;> first | exact absurd h (by assumption) | exact okN_in hT (by decide) (k_lt_of h)) dX6_term_141 (fun H locs hP hD hS => ?_)
                      have hP : va_P D vwCl [(h0, .inr (6, [.int v_thrown, .ref h0_costs, .ref h0_factors, .ref h0_literals, .ref h0_begins, .ref h0_bounds, .int v_constraints, .int v_terms, .int v_begun, .int v_done, .int v_over, .int v_set, .int v_ones, .ref h0_trail, .ref h0_choice, .int v_depth, .int v_searchSet, .int v_searchOnes, .int v_best, .int v_bestOnes, .int v_made, .ref h0_log, .int v_size, .int v_answer, .int v_looked, .int v_place, .int v_waiting, .ref h0_waitSet, .ref h0_waitOnes, .ref h0_waitDead])), (h0_factors, .inl (cI, 120, .inl (upd v_factors v_terms.toNatClampNeg x1))), (h0_literals, .inl (cI, 120, .inl v_literals)), (h0_begins, .inl (cI, 22, .inl v_begins))] H := hP
                      have hD : va_D _ [(h0, .inr (6, [.int v_thrown, .ref h0_costs, .ref h0_factors, .ref h0_literals, .ref h0_begins, .ref h0_bounds, .int v_constraints, .int v_terms, .int v_begun, .int v_done, .int v_over, .int v_set, .int v_ones, .ref h0_trail, .ref h0_choice, .int v_depth, .int v_searchSet, .int v_searchOnes, .int v_best, .int v_bestOnes, .int v_made, .ref h0_log, .int v_size, .int v_answer, .int v_looked, .int v_place, .int v_waiting, .ref h0_waitSet, .ref h0_waitOnes, .ref h0_waitDead])), (h0_factors, .inl (cI, 120, .inl (upd v_factors v_terms.toNatClampNeg x1))), (h0_literals, .inl (cI, 120, .inl v_literals)), (h0_begins, .inl (cI, 22, .inl v_begins))] := hD
                      refine lv_aload_n hx hb dX6_term_142 rfl (lv_at hl 3 rfl) ?_
                      refine va_get (D := D) hx hb hts inX6 hown hK hP 0 rfl rfl 3 (by decide) (hts _ kw476) (fun _ h9 => h9) rfl dX6_term_143 ?_
                      refine lv_aload_n hx hb dX6_term_146 rfl (lv_at hl 3 rfl) ?_
                      refine va_get (D := D) hx hb hts inX6 hown hK hP 0 rfl rfl 7 (by decide) (hts _ kw480) (fun _ h9 => h9) rfl dX6_term_147 ?_
                      refine lv_iload_n hx hb dX6_term_150 rfl (lv_at hl 5 rfl) ?_
                      refine va_iast hx hb hK hP hD hS 2 0 rfl rfl (by rcases hg with h | h <;> first | exact absurd h (by assumption) | exact okN_in hT (by decide) (k_lt_of h)) dX6_term_151 (fun H locs hP hD hS => ?_)
                      have hP : va_P D vwCl [(h0, .inr (6, [.int v_thrown, .ref h0_costs, .ref h0_factors, .ref h0_literals, .ref h0_begins, .ref h0_bounds, .int v_constraints, .int v_terms, .int v_begun, .int v_done, .int v_over, .int v_set, .int v_ones, .ref h0_trail, .ref h0_choice, .int v_depth, .int v_searchSet, .int v_searchOnes, .int v_best, .int v_bestOnes, .int v_made, .ref h0_log, .int v_size, .int v_answer, .int v_looked, .int v_place, .int v_waiting, .ref h0_waitSet, .ref h0_waitOnes, .ref h0_waitDead])), (h0_factors, .inl (cI, 120, .inl (upd v_factors v_terms.toNatClampNeg x1))), (h0_literals, .inl (cI, 120, .inl (upd v_literals v_terms.toNatClampNeg x2))), (h0_begins, .inl (cI, 22, .inl v_begins))] H := hP
                      have hD : va_D _ [(h0, .inr (6, [.int v_thrown, .ref h0_costs, .ref h0_factors, .ref h0_literals, .ref h0_begins, .ref h0_bounds, .int v_constraints, .int v_terms, .int v_begun, .int v_done, .int v_over, .int v_set, .int v_ones, .ref h0_trail, .ref h0_choice, .int v_depth, .int v_searchSet, .int v_searchOnes, .int v_best, .int v_bestOnes, .int v_made, .ref h0_log, .int v_size, .int v_answer, .int v_looked, .int v_place, .int v_waiting, .ref h0_waitSet, .ref h0_waitOnes, .ref h0_waitDead])), (h0_factors, .inl (cI, 120, .inl (upd v_factors v_terms.toNatClampNeg x1))), (h0_literals, .inl (cI, 120, .inl (upd v_literals v_terms.toNatClampNeg x2))), (h0_begins, .inl (cI, 22, .inl v_begins))] := hD
                      refine lv_aload_n hx hb dX6_term_152 rfl (lv_at hl 3 rfl) ?_
                      refine lv_dup hx hb dX6_term_153 rfl ?_
                      refine va_get (D := D) hx hb hts inX6 hown hK hP 0 rfl rfl 7 (by decide) (hts _ kw480) (fun _ h9 => h9) rfl dX6_term_154 ?_
                      refine lv_iconst (v := 1) hx hb dX6_term_157 (by decide) ?_
                      refine lv_iadd hx hb dX6_term_158 ?_
                      refine va_put (D := D) (v := .int (v_terms + 1)) (ty := .int) hx hb hts inX6 tyX6 tyX6_ok nmX6 hown hK hP hD hS 0 rfl rfl 7 (by decide) (hts _ kw480) (fun _ h9 => h9) rfl (by decide +kernel) rfl rfl (Nat.le_of_ble_eq_true rfl) dX6_term_159 (fun H locs hP hD hS => ?_)
                      have hP : va_P D vwCl [(h0, .inr (6, [.int v_thrown, .ref h0_costs, .ref h0_factors, .ref h0_literals, .ref h0_begins, .ref h0_bounds, .int v_constraints, .int (v_terms + 1), .int v_begun, .int v_done, .int v_over, .int v_set, .int v_ones, .ref h0_trail, .ref h0_choice, .int v_depth, .int v_searchSet, .int v_searchOnes, .int v_best, .int v_bestOnes, .int v_made, .ref h0_log, .int v_size, .int v_answer, .int v_looked, .int v_place, .int v_waiting, .ref h0_waitSet, .ref h0_waitOnes, .ref h0_waitDead])), (h0_factors, .inl (cI, 120, .inl (upd v_factors v_terms.toNatClampNeg x1))), (h0_literals, .inl (cI, 120, .inl (upd v_literals v_terms.toNatClampNeg x2))), (h0_begins, .inl (cI, 22, .inl v_begins))] H := hP
                      have hD : va_D _ [(h0, .inr (6, [.int v_thrown, .ref h0_costs, .ref h0_factors, .ref h0_literals, .ref h0_begins, .ref h0_bounds, .int v_constraints, .int (v_terms + 1), .int v_begun, .int v_done, .int v_over, .int v_set, .int v_ones, .ref h0_trail, .ref h0_choice, .int v_depth, .int v_searchSet, .int v_searchOnes, .int v_best, .int v_bestOnes, .int v_made, .ref h0_log, .int v_size, .int v_answer, .int v_looked, .int v_place, .int v_waiting, .ref h0_waitSet, .ref h0_waitOnes, .ref h0_waitDead])), (h0_factors, .inl (cI, 120, .inl (upd v_factors v_terms.toNatClampNeg x1))), (h0_literals, .inl (cI, 120, .inl (upd v_literals v_terms.toNatClampNeg x2))), (h0_begins, .inl (cI, 22, .inl v_begins))] := hD
                      refine lv_iconst (v := 0) hx hb dX6_term_162 (by decide) ?_
                      exact wreti hx hb hr hlocks (by rw [hF]) (by rw [hF]; exact hP) hS dX6_term_163
                    · have hF := hF.trans (if_pos c_6)
                      refine lv_iconst (v := (-1)) hx hb dX6_term_130 (by decide) ?_
                      exact wreti hx hb hr hlocks (by rw [hF]) (by rw [hF]; exact hP) hS dX6_term_131
                  · have hF := hF.trans (if_neg c_5)
                    refine lv_aload_n hx hb dX6_term_89 rfl (lv_at hl 3 rfl) ?_
                    refine va_get (D := D) hx hb hts inX6 hown hK hP 0 rfl rfl 3 (by decide) (hts _ kw476) (fun _ h9 => h9) rfl dX6_term_90 ?_
                    refine lv_iload hx hb dX6_term_93 (lv_at hl 1 rfl) ?_
                    refine va_iald hx hb hK hP 2 0 rfl rfl (k_in ek (by have := okC_lt ek eT hk1 (by assumption); omega) (by decide)) dX6_term_95 ?_
                    refine lv_iload_n hx hb dX6_term_96 rfl (lv_at hl 5 rfl) ?_
                    refine lv_icmp_eq (tgt := 116) hx hb dX6_term_97 (by decide) (fun c_7 => ?_) (fun c_7 => ?_)
                    · have hF := hF.trans (if_pos c_7)
                      refine lv_iconst (v := 0) hx hb dX6_term_116 (by decide) ?_
                      refine lv_istore (lv' := [(4, .int 0), (5, .int l5), (3, .int x2), (0, .ref h0), (1, .int x1), (2, .int x2)]) hx hb dX6_term_117 hl (by decide) rfl (fun ls hl => ?_)
                      refine lv_iinc (v := l5 + 1) (lv' := [(5, .int (l5 + 1)), (4, .int 0), (3, .int x2), (0, .ref h0), (1, .int x1), (2, .int x2)]) hx hb dX6_term_119 hl (k := 1) rfl rfl (by decide) rfl (fun ls hl => ?_)
                      refine lv_goto (tgt := 75) hx hb dX6_term_122 (by decide) ?_
                      exact ih (k + 1) 0 (l5 + 1) ⟨k_s ek, by have := okC_lt ek eT hk1 (by assumption); omega, by omega⟩ (by first | exact Or.inl rfl | (rcases hg with h | h <;> first | exact absurd h (by assumption) | exact Or.inr h)) hF H locs hP hD hS ls (lv_sub hl [1, 0, 2, 3, 4, 5] rfl)
                    · have hF := hF.trans (if_neg c_7)
                      refine lv_aload_n hx hb dX6_term_100 rfl (lv_at hl 3 rfl) ?_
                      refine va_get (D := D) hx hb hts inX6 hown hK hP 0 rfl rfl 3 (by decide) (hts _ kw476) (fun _ h9 => h9) rfl dX6_term_101 ?_
                      refine lv_iload hx hb dX6_term_104 (lv_at hl 1 rfl) ?_
                      refine va_iald hx hb hK hP 2 0 rfl rfl (k_in ek (by have := okC_lt ek eT hk1 (by assumption); omega) (by decide)) dX6_term_106 ?_
                      refine lv_iload_n hx hb dX6_term_107 rfl (lv_at hl 5 rfl) ?_
                      refine lv_ineg hx hb dX6_term_108 ?_
                      refine lv_icmp_eq (tgt := 116) hx hb dX6_term_109 (by decide) (fun c_8 => ?_) (fun c_8 => ?_)
                      · have hF := hF.trans (if_pos c_8)
                        refine lv_iconst (v := 0) hx hb dX6_term_116 (by decide) ?_
                        refine lv_istore (lv' := [(4, .int 0), (5, .int l5), (3, .int x2), (0, .ref h0), (1, .int x1), (2, .int x2)]) hx hb dX6_term_117 hl (by decide) rfl (fun ls hl => ?_)
                        refine lv_iinc (v := l5 + 1) (lv' := [(5, .int (l5 + 1)), (4, .int 0), (3, .int x2), (0, .ref h0), (1, .int x1), (2, .int x2)]) hx hb dX6_term_119 hl (k := 1) rfl rfl (by decide) rfl (fun ls hl => ?_)
                        refine lv_goto (tgt := 75) hx hb dX6_term_122 (by decide) ?_
                        exact ih (k + 1) 0 (l5 + 1) ⟨k_s ek, by have := okC_lt ek eT hk1 (by assumption); omega, by omega⟩ (by first | exact Or.inl rfl | (rcases hg with h | h <;> first | exact absurd h (by assumption) | exact Or.inr h)) hF H locs hP hD hS ls (lv_sub hl [1, 0, 2, 3, 4, 5] rfl)
                      · have hF := hF.trans (if_neg c_8)
                        refine lv_iconst (v := 1) hx hb dX6_term_112 (by decide) ?_
                        refine lv_goto (tgt := 117) hx hb dX6_term_113 (by decide) ?_
                        refine lv_istore (lv' := [(4, .int 1), (5, .int l5), (3, .int x2), (0, .ref h0), (1, .int x1), (2, .int x2)]) hx hb dX6_term_117 hl (by decide) rfl (fun ls hl => ?_)
                        refine lv_iinc (v := l5 + 1) (lv' := [(5, .int (l5 + 1)), (4, .int 1), (3, .int x2), (0, .ref h0), (1, .int x1), (2, .int x2)]) hx hb dX6_term_119 hl (k := 1) rfl rfl (by decide) rfl (fun ls hl => ?_)
                        refine lv_goto (tgt := 75) hx hb dX6_term_122 (by decide) ?_
                        exact ih (k + 1) 1 (l5 + 1) ⟨k_s ek, by have := okC_lt ek eT hk1 (by assumption); omega, by omega⟩ (by first | exact Or.inl rfl | (rcases hg with h | h <;> first | exact absurd h (by assumption) | exact Or.inr h)) hF H locs hP hD hS ls (lv_sub hl [1, 0, 2, 3, 4, 5] rfl)
            exact loop75 121 B 0 (v_begins v_constraints.toNatClampNeg) ⟨eB, by omega, by omega⟩ (by first | exact Or.inl rfl | exact Or.inr (by assumption)) hF _ _ hP hD hS ls (lv_sub hl [1, 0, 2, 3, 4, 5] rfl)
          · have hF := hF.trans (if_neg c_9)
            refine lv_aload_n hx hb dX6_term_48 rfl (lv_at hl 1 rfl) ?_
            refine va_get (D := D) hx hb hts inX6 hown hK hP 0 rfl rfl 6 (by decide) (hts _ kw479) (fun _ h9 => h9) rfl dX6_term_49 ?_
            refine lv_bipush (v := 20) hx hb dX6_term_52 (by decide) ?_
            refine lv_icmp_ge (tgt := 61) hx hb dX6_term_54 (by decide) (fun c_9 => ?_) (fun c_9 => ?_)
            · have hF := hF.trans (if_pos c_9)
              refine lv_iconst (v := 0) hx hb dX6_term_61 (by decide) ?_
              refine lv_istore (lv' := [(4, .int 0), (3, .int x2), (0, .ref h0), (1, .int x1), (2, .int x2)]) hx hb dX6_term_62 hl (by decide) rfl (fun ls hl => ?_)
              refine lv_aload_n hx hb dX6_term_64 rfl (lv_at hl 2 rfl) ?_
              refine va_get (D := D) hx hb hts inX6 hown hK hP 0 rfl rfl 4 (by decide) (hts _ kw477) (fun _ h9 => h9) rfl dX6_term_65 ?_
              refine lv_aload_n hx hb dX6_term_68 rfl (lv_at hl 2 rfl) ?_
              refine va_get (D := D) hx hb hts inX6 hown hK hP 0 rfl rfl 6 (by decide) (hts _ kw479) (fun _ h9 => h9) rfl dX6_term_69 ?_
              refine va_iald hx hb hK hP 3 0 rfl rfl (okN_inS hCn (by decide) (by decide)) dX6_term_72 ?_
              refine lv_istore (lv' := [(5, .int (v_begins v_constraints.toNatClampNeg)), (4, .int 0), (3, .int x2), (0, .ref h0), (1, .int x1), (2, .int x2)]) hx hb dX6_term_73 hl (by decide) rfl (fun ls hl => ?_)
              have loop75 : ∀ (n : Nat) (k : Nat) (l4 : Int32) (l5 : Int32) , (l5 = nI k ∧ k ≤ 120 ∧ 120 < k + n) → (l4 = 0 ∨ ¬ (120 : Int32) ≤ v_terms) → fX6_term x1 x2 v_constraints v_terms v_begun v_factors v_literals v_begins = fX6_term_L75 x1 x2 v_constraints v_terms v_begun v_factors v_literals v_begins n l4 l5 → ∀ (H : Heap) (locs : List Loc), va_P D vwCl [(h0, .inr (6, [.int v_thrown, .ref h0_costs, .ref h0_factors, .ref h0_literals, .ref h0_begins, .ref h0_bounds, .int v_constraints, .int v_terms, .int v_begun, .int v_done, .int v_over, .int v_set, .int v_ones, .ref h0_trail, .ref h0_choice, .int v_depth, .int v_searchSet, .int v_searchOnes, .int v_best, .int v_bestOnes, .int v_made, .ref h0_log, .int v_size, .int v_answer, .int v_looked, .int v_place, .int v_waiting, .ref h0_waitSet, .ref h0_waitOnes, .ref h0_waitDead])), (h0_factors, .inl (cI, 120, .inl v_factors)), (h0_literals, .inl (cI, 120, .inl v_literals)), (h0_begins, .inl (cI, 22, .inl v_begins))] H → va_D (aw [(h0, .inr (6, [.int v_thrown, .ref h0_costs, .ref h0_factors, .ref h0_literals, .ref h0_begins, .ref h0_bounds, .int v_constraints, .int v_terms, .int v_begun, .int v_done, .int v_over, .int v_set, .int v_ones, .ref h0_trail, .ref h0_choice, .int v_depth, .int v_searchSet, .int v_searchOnes, .int v_best, .int v_bestOnes, .int v_made, .ref h0_log, .int v_size, .int v_answer, .int v_looked, .int v_place, .int v_waiting, .ref h0_waitSet, .ref h0_waitOnes, .ref h0_waitDead])), (h0_factors, .inl (cI, 120, .inl v_factors)), (h0_literals, .inl (cI, 120, .inl v_literals)), (h0_begins, .inl (cI, 22, .inl v_begins))]) [(h0, .inr (6, [.int v_thrown, .ref h0_costs, .ref h0_factors, .ref h0_literals, .ref h0_begins, .ref h0_bounds, .int v_constraints, .int v_terms, .int v_begun, .int v_done, .int v_over, .int v_set, .int v_ones, .ref h0_trail, .ref h0_choice, .int v_depth, .int v_searchSet, .int v_searchOnes, .int v_best, .int v_bestOnes, .int v_made, .ref h0_log, .int v_size, .int v_answer, .int v_looked, .int v_place, .int v_waiting, .ref h0_waitSet, .ref h0_waitOnes, .ref h0_waitDead])), (h0_factors, .inl (cI, 120, .inl v_factors)), (h0_literals, .inl (cI, 120, .inl v_literals)), (h0_begins, .inl (cI, 22, .inl v_begins))] → va_S (aw [(h0, .inr (6, [.int v_thrown, .ref h0_costs, .ref h0_factors, .ref h0_literals, .ref h0_begins, .ref h0_bounds, .int v_constraints, .int v_terms, .int v_begun, .int v_done, .int v_over, .int v_set, .int v_ones, .ref h0_trail, .ref h0_choice, .int v_depth, .int v_searchSet, .int v_searchOnes, .int v_best, .int v_bestOnes, .int v_made, .ref h0_log, .int v_size, .int v_answer, .int v_looked, .int v_place, .int v_waiting, .ref h0_waitSet, .ref h0_waitOnes, .ref h0_waitDead])), (h0_factors, .inl (cI, 120, .inl v_factors)), (h0_literals, .inl (cI, 120, .inl v_literals)), (h0_begins, .inl (cI, 22, .inl v_begins))]) s.heap H locs → ∀ ls : Array Slot, lv_has ls 6 [(4, .int l4), (5, .int l5), (3, .int x2), (0, .ref h0), (1, .int x1), (2, .int x2)] → W p l e { frames := 1, cells := 0, slots := 0, locals := 22 } s m [.ref h0, .int x1, .int x2].toArray below meth c H locs 0 0 (MQ below (wQ D (some (.int ((fX6_term x1 x2 v_constraints v_terms v_begun v_factors v_literals v_begins).1))) [(h0, .inr (6, [.int v_thrown, .ref h0_costs, .ref h0_factors, .ref h0_literals, .ref h0_begins, .ref h0_bounds, .int v_constraints, .int v_terms, .int v_begun, .int v_done, .int v_over, .int v_set, .int v_ones, .ref h0_trail, .ref h0_choice, .int v_depth, .int v_searchSet, .int v_searchOnes, .int v_best, .int v_bestOnes, .int v_made, .ref h0_log, .int v_size, .int v_answer, .int v_looked, .int v_place, .int v_waiting, .ref h0_waitSet, .ref h0_waitOnes, .ref h0_waitDead])), (h0_factors, .inl (cI, 120, .inl v_factors)), (h0_literals, .inl (cI, 120, .inl v_literals)), (h0_begins, .inl (cI, 22, .inl v_begins))] [(h0, .inr (6, [.int v_thrown, .ref h0_costs, .ref h0_factors, .ref h0_literals, .ref h0_begins, .ref h0_bounds, .int v_constraints, .int ((fX6_term x1 x2 v_constraints v_terms v_begun v_factors v_literals v_begins).2.1), .int v_begun, .int v_done, .int v_over, .int v_set, .int v_ones, .ref h0_trail, .ref h0_choice, .int v_depth, .int v_searchSet, .int v_searchOnes, .int v_best, .int v_bestOnes, .int v_made, .ref h0_log, .int v_size, .int v_answer, .int v_looked, .int v_place, .int v_waiting, .ref h0_waitSet, .ref h0_waitOnes, .ref h0_waitDead])), (h0_factors, .inl (cI, 120, .inl ((fX6_term x1 x2 v_constraints v_terms v_begun v_factors v_literals v_begins).2.2.1))), (h0_literals, .inl (cI, 120, .inl ((fX6_term x1 x2 v_constraints v_terms v_begun v_factors v_literals v_begins).2.2.2))), (h0_begins, .inl (cI, 22, .inl v_begins))]) [.ref h0, .int x1, .int x2].toArray s 0 0 (aw [(h0, .inr (6, [.int v_thrown, .ref h0_costs, .ref h0_factors, .ref h0_literals, .ref h0_begins, .ref h0_bounds, .int v_constraints, .int v_terms, .int v_begun, .int v_done, .int v_over, .int v_set, .int v_ones, .ref h0_trail, .ref h0_choice, .int v_depth, .int v_searchSet, .int v_searchOnes, .int v_best, .int v_bestOnes, .int v_made, .ref h0_log, .int v_size, .int v_answer, .int v_looked, .int v_place, .int v_waiting, .ref h0_waitSet, .ref h0_waitOnes, .ref h0_waitDead])), (h0_factors, .inl (cI, 120, .inl v_factors)), (h0_literals, .inl (cI, 120, .inl v_literals)), (h0_begins, .inl (cI, 22, .inl v_begins))])) (F0 m 75 ls []) := by
                intro n
                induction n with
                | zero =>
                  intro k l4 l5 hk hg hF
                  exact (by obtain ⟨_, h2, h3⟩ := hk; exact absurd h3 (by omega))
                | succ n ih =>
                  intro k l4 l5 hk hg hF H locs hP hD hS ls hl
                  have hF := hF.trans (fX6_term_L75.eq_2 ..)
                  obtain ⟨ek, hk1, hk2⟩ := hk
                  refine lv_iload hx hb dX6_term_75 (lv_at hl 0 rfl) ?_
                  refine lv_if_eq (tgt := 125) hx hb dX6_term_77 (by decide) (fun c_3 => ?_) (fun c_3 => ?_)
                  · have hF := hF.trans (if_pos c_3)
                    refine lv_iload hx hb dX6_term_125 (lv_at hl 0 rfl) ?_
                    refine lv_if_ne (tgt := 132) hx hb dX6_term_127 (by decide) (fun c_4 => ?_) (fun c_4 => ?_)
                    · have hF := hF.trans (if_neg c_4)
                      refine lv_aload_n hx hb dX6_term_132 rfl (lv_at hl 3 rfl) ?_
                      refine va_get (D := D) hx hb hts inX6 hown hK hP 0 rfl rfl 2 (by decide) (hts _ kw475) (fun _ h9 => h9) rfl dX6_term_133 ?_
                      refine lv_aload_n hx hb dX6_term_136 rfl (lv_at hl 3 rfl) ?_
                      refine va_get (D := D) hx hb hts inX6 hown hK hP 0 rfl rfl 7 (by decide) (hts _ kw480) (fun _ h9 => h9) rfl dX6_term_137 ?_
                      refine lv_iload_n hx hb dX6_term_140 rfl (lv_at hl 4 rfl) ?_
                      refine va_iast hx hb hK hP hD hS 1 0 rfl rfl (by rcases hg with h | h <;> first | exact absurd h (by assumption) | exact okN_in hT (by decide) (k_lt_of h)) dX6_term_141 (fun H locs hP hD hS => ?_)
                      have hP : va_P D vwCl [(h0, .inr (6, [.int v_thrown, .ref h0_costs, .ref h0_factors, .ref h0_literals, .ref h0_begins, .ref h0_bounds, .int v_constraints, .int v_terms, .int v_begun, .int v_done, .int v_over, .int v_set, .int v_ones, .ref h0_trail, .ref h0_choice, .int v_depth, .int v_searchSet, .int v_searchOnes, .int v_best, .int v_bestOnes, .int v_made, .ref h0_log, .int v_size, .int v_answer, .int v_looked, .int v_place, .int v_waiting, .ref h0_waitSet, .ref h0_waitOnes, .ref h0_waitDead])), (h0_factors, .inl (cI, 120, .inl (upd v_factors v_terms.toNatClampNeg x1))), (h0_literals, .inl (cI, 120, .inl v_literals)), (h0_begins, .inl (cI, 22, .inl v_begins))] H := hP
                      have hD : va_D _ [(h0, .inr (6, [.int v_thrown, .ref h0_costs, .ref h0_factors, .ref h0_literals, .ref h0_begins, .ref h0_bounds, .int v_constraints, .int v_terms, .int v_begun, .int v_done, .int v_over, .int v_set, .int v_ones, .ref h0_trail, .ref h0_choice, .int v_depth, .int v_searchSet, .int v_searchOnes, .int v_best, .int v_bestOnes, .int v_made, .ref h0_log, .int v_size, .int v_answer, .int v_looked, .int v_place, .int v_waiting, .ref h0_waitSet, .ref h0_waitOnes, .ref h0_waitDead])), (h0_factors, .inl (cI, 120, .inl (upd v_factors v_terms.toNatClampNeg x1))), (h0_literals, .inl (cI, 120, .inl v_literals)), (h0_begins, .inl (cI, 22, .inl v_begins))] := hD
                      refine lv_aload_n hx hb dX6_term_142 rfl (lv_at hl 3 rfl) ?_
                      refine va_get (D := D) hx hb hts inX6 hown hK hP 0 rfl rfl 3 (by decide) (hts _ kw476) (fun _ h9 => h9) rfl dX6_term_143 ?_
                      refine lv_aload_n hx hb dX6_term_146 rfl (lv_at hl 3 rfl) ?_
                      refine va_get (D := D) hx hb hts inX6 hown hK hP 0 rfl rfl 7 (by decide) (hts _ kw480) (fun _ h9 => h9) rfl dX6_term_147 ?_
                      refine lv_iload_n hx hb dX6_term_150 rfl (lv_at hl 5 rfl) ?_
                      refine va_iast hx hb hK hP hD hS 2 0 rfl rfl (by rcases hg with h | h <;> first | exact absurd h (by assumption) | exact okN_in hT (by decide) (k_lt_of h)) dX6_term_151 (fun H locs hP hD hS => ?_)
                      have hP : va_P D vwCl [(h0, .inr (6, [.int v_thrown, .ref h0_costs, .ref h0_factors, .ref h0_literals, .ref h0_begins, .ref h0_bounds, .int v_constraints, .int v_terms, .int v_begun, .int v_done, .int v_over, .int v_set, .int v_ones, .ref h0_trail, .ref h0_choice, .int v_depth, .int v_searchSet, .int v_searchOnes, .int v_best, .int v_bestOnes, .int v_made, .ref h0_log, .int v_size, .int v_answer, .int v_looked, .int v_place, .int v_waiting, .ref h0_waitSet, .ref h0_waitOnes, .ref h0_waitDead])), (h0_factors, .inl (cI, 120, .inl (upd v_factors v_terms.toNatClampNeg x1))), (h0_literals, .inl (cI, 120, .inl (upd v_literals v_terms.toNatClampNeg x2))), (h0_begins, .inl (cI, 22, .inl v_begins))] H := hP
                      have hD : va_D _ [(h0, .inr (6, [.int v_thrown, .ref h0_costs, .ref h0_factors, .ref h0_literals, .ref h0_begins, .ref h0_bounds, .int v_constraints, .int v_terms, .int v_begun, .int v_done, .int v_over, .int v_set, .int v_ones, .ref h0_trail, .ref h0_choice, .int v_depth, .int v_searchSet, .int v_searchOnes, .int v_best, .int v_bestOnes, .int v_made, .ref h0_log, .int v_size, .int v_answer, .int v_looked, .int v_place, .int v_waiting, .ref h0_waitSet, .ref h0_waitOnes, .ref h0_waitDead])), (h0_factors, .inl (cI, 120, .inl (upd v_factors v_terms.toNatClampNeg x1))), (h0_literals, .inl (cI, 120, .inl (upd v_literals v_terms.toNatClampNeg x2))), (h0_begins, .inl (cI, 22, .inl v_begins))] := hD
                      refine lv_aload_n hx hb dX6_term_152 rfl (lv_at hl 3 rfl) ?_
                      refine lv_dup hx hb dX6_term_153 rfl ?_
                      refine va_get (D := D) hx hb hts inX6 hown hK hP 0 rfl rfl 7 (by decide) (hts _ kw480) (fun _ h9 => h9) rfl dX6_term_154 ?_
                      refine lv_iconst (v := 1) hx hb dX6_term_157 (by decide) ?_
                      refine lv_iadd hx hb dX6_term_158 ?_
                      refine va_put (D := D) (v := .int (v_terms + 1)) (ty := .int) hx hb hts inX6 tyX6 tyX6_ok nmX6 hown hK hP hD hS 0 rfl rfl 7 (by decide) (hts _ kw480) (fun _ h9 => h9) rfl (by decide +kernel) rfl rfl (Nat.le_of_ble_eq_true rfl) dX6_term_159 (fun H locs hP hD hS => ?_)
                      have hP : va_P D vwCl [(h0, .inr (6, [.int v_thrown, .ref h0_costs, .ref h0_factors, .ref h0_literals, .ref h0_begins, .ref h0_bounds, .int v_constraints, .int (v_terms + 1), .int v_begun, .int v_done, .int v_over, .int v_set, .int v_ones, .ref h0_trail, .ref h0_choice, .int v_depth, .int v_searchSet, .int v_searchOnes, .int v_best, .int v_bestOnes, .int v_made, .ref h0_log, .int v_size, .int v_answer, .int v_looked, .int v_place, .int v_waiting, .ref h0_waitSet, .ref h0_waitOnes, .ref h0_waitDead])), (h0_factors, .inl (cI, 120, .inl (upd v_factors v_terms.toNatClampNeg x1))), (h0_literals, .inl (cI, 120, .inl (upd v_literals v_terms.toNatClampNeg x2))), (h0_begins, .inl (cI, 22, .inl v_begins))] H := hP
                      have hD : va_D _ [(h0, .inr (6, [.int v_thrown, .ref h0_costs, .ref h0_factors, .ref h0_literals, .ref h0_begins, .ref h0_bounds, .int v_constraints, .int (v_terms + 1), .int v_begun, .int v_done, .int v_over, .int v_set, .int v_ones, .ref h0_trail, .ref h0_choice, .int v_depth, .int v_searchSet, .int v_searchOnes, .int v_best, .int v_bestOnes, .int v_made, .ref h0_log, .int v_size, .int v_answer, .int v_looked, .int v_place, .int v_waiting, .ref h0_waitSet, .ref h0_waitOnes, .ref h0_waitDead])), (h0_factors, .inl (cI, 120, .inl (upd v_factors v_terms.toNatClampNeg x1))), (h0_literals, .inl (cI, 120, .inl (upd v_literals v_terms.toNatClampNeg x2))), (h0_begins, .inl (cI, 22, .inl v_begins))] := hD
                      refine lv_iconst (v := 0) hx hb dX6_term_162 (by decide) ?_
                      exact wreti hx hb hr hlocks (by rw [hF]) (by rw [hF]; exact hP) hS dX6_term_163
                    · have hF := hF.trans (if_pos c_4)
                      refine lv_iconst (v := (-1)) hx hb dX6_term_130 (by decide) ?_
                      exact wreti hx hb hr hlocks (by rw [hF]) (by rw [hF]; exact hP) hS dX6_term_131
                  · have hF := hF.trans (if_neg c_3)
                    refine lv_iload hx hb dX6_term_80 (lv_at hl 1 rfl) ?_
                    refine lv_aload_n hx hb dX6_term_82 rfl (lv_at hl 3 rfl) ?_
                    refine va_get (D := D) hx hb hts inX6 hown hK hP 0 rfl rfl 7 (by decide) (hts _ kw480) (fun _ h9 => h9) rfl dX6_term_83 ?_
                    refine lv_icmp_ge (tgt := 125) hx hb dX6_term_86 (by decide) (fun c_5 => ?_) (fun c_5 => ?_)
                    · have hF := hF.trans (if_pos c_5)
                      refine lv_iload hx hb dX6_term_125 (lv_at hl 0 rfl) ?_
                      refine lv_if_ne (tgt := 132) hx hb dX6_term_127 (by decide) (fun c_6 => ?_) (fun c_6 => ?_)
                      · have hF := hF.trans (if_neg c_6)
                        refine lv_aload_n hx hb dX6_term_132 rfl (lv_at hl 3 rfl) ?_
                        refine va_get (D := D) hx hb hts inX6 hown hK hP 0 rfl rfl 2 (by decide) (hts _ kw475) (fun _ h9 => h9) rfl dX6_term_133 ?_
                        refine lv_aload_n hx hb dX6_term_136 rfl (lv_at hl 3 rfl) ?_
                        refine va_get (D := D) hx hb hts inX6 hown hK hP 0 rfl rfl 7 (by decide) (hts _ kw480) (fun _ h9 => h9) rfl dX6_term_137 ?_
                        refine lv_iload_n hx hb dX6_term_140 rfl (lv_at hl 4 rfl) ?_
                        refine va_iast hx hb hK hP hD hS 1 0 rfl rfl (by rcases hg with h | h <;> first | exact absurd h (by assumption) | exact okN_in hT (by decide) (k_lt_of h)) dX6_term_141 (fun H locs hP hD hS => ?_)
                        have hP : va_P D vwCl [(h0, .inr (6, [.int v_thrown, .ref h0_costs, .ref h0_factors, .ref h0_literals, .ref h0_begins, .ref h0_bounds, .int v_constraints, .int v_terms, .int v_begun, .int v_done, .int v_over, .int v_set, .int v_ones, .ref h0_trail, .ref h0_choice, .int v_depth, .int v_searchSet, .int v_searchOnes, .int v_best, .int v_bestOnes, .int v_made, .ref h0_log, .int v_size, .int v_answer, .int v_looked, .int v_place, .int v_waiting, .ref h0_waitSet, .ref h0_waitOnes, .ref h0_waitDead])), (h0_factors, .inl (cI, 120, .inl (upd v_factors v_terms.toNatClampNeg x1))), (h0_literals, .inl (cI, 120, .inl v_literals)), (h0_begins, .inl (cI, 22, .inl v_begins))] H := hP
                        have hD : va_D _ [(h0, .inr (6, [.int v_thrown, .ref h0_costs, .ref h0_factors, .ref h0_literals, .ref h0_begins, .ref h0_bounds, .int v_constraints, .int v_terms, .int v_begun, .int v_done, .int v_over, .int v_set, .int v_ones, .ref h0_trail, .ref h0_choice, .int v_depth, .int v_searchSet, .int v_searchOnes, .int v_best, .int v_bestOnes, .int v_made, .ref h0_log, .int v_size, .int v_answer, .int v_looked, .int v_place, .int v_waiting, .ref h0_waitSet, .ref h0_waitOnes, .ref h0_waitDead])), (h0_factors, .inl (cI, 120, .inl (upd v_factors v_terms.toNatClampNeg x1))), (h0_literals, .inl (cI, 120, .inl v_literals)), (h0_begins, .inl (cI, 22, .inl v_begins))] := hD
                        refine lv_aload_n hx hb dX6_term_142 rfl (lv_at hl 3 rfl) ?_
                        refine va_get (D := D) hx hb hts inX6 hown hK hP 0 rfl rfl 3 (by decide) (hts _ kw476) (fun _ h9 => h9) rfl dX6_term_143 ?_
                        refine lv_aload_n hx hb dX6_term_146 rfl (lv_at hl 3 rfl) ?_
                        refine va_get (D := D) hx hb hts inX6 hown hK hP 0 rfl rfl 7 (by decide) (hts _ kw480) (fun _ h9 => h9) rfl dX6_term_147 ?_
                        refine lv_iload_n hx hb dX6_term_150 rfl (lv_at hl 5 rfl) ?_
                        refine va_iast hx hb hK hP hD hS 2 0 rfl rfl (by rcases hg with h | h <;> first | exact absurd h (by assumption) | exact okN_in hT (by decide) (k_lt_of h)) dX6_term_151 (fun H locs hP hD hS => ?_)
                        have hP : va_P D vwCl [(h0, .inr (6, [.int v_thrown, .ref h0_costs, .ref h0_factors, .ref h0_literals, .ref h0_begins, .ref h0_bounds, .int v_constraints, .int v_terms, .int v_begun, .int v_done, .int v_over, .int v_set, .int v_ones, .ref h0_trail, .ref h0_choice, .int v_depth, .int v_searchSet, .int v_searchOnes, .int v_best, .int v_bestOnes, .int v_made, .ref h0_log, .int v_size, .int v_answer, .int v_looked, .int v_place, .int v_waiting, .ref h0_waitSet, .ref h0_waitOnes, .ref h0_waitDead])), (h0_factors, .inl (cI, 120, .inl (upd v_factors v_terms.toNatClampNeg x1))), (h0_literals, .inl (cI, 120, .inl (upd v_literals v_terms.toNatClampNeg x2))), (h0_begins, .inl (cI, 22, .inl v_begins))] H := hP
                        have hD : va_D _ [(h0, .inr (6, [.int v_thrown, .ref h0_costs, .ref h0_factors, .ref h0_literals, .ref h0_begins, .ref h0_bounds, .int v_constraints, .int v_terms, .int v_begun, .int v_done, .int v_over, .int v_set, .int v_ones, .ref h0_trail, .ref h0_choice, .int v_depth, .int v_searchSet, .int v_searchOnes, .int v_best, .int v_bestOnes, .int v_made, .ref h0_log, .int v_size, .int v_answer, .int v_looked, .int v_place, .int v_waiting, .ref h0_waitSet, .ref h0_waitOnes, .ref h0_waitDead])), (h0_factors, .inl (cI, 120, .inl (upd v_factors v_terms.toNatClampNeg x1))), (h0_literals, .inl (cI, 120, .inl (upd v_literals v_terms.toNatClampNeg x2))), (h0_begins, .inl (cI, 22, .inl v_begins))] := hD
                        refine lv_aload_n hx hb dX6_term_152 rfl (lv_at hl 3 rfl) ?_
                        refine lv_dup hx hb dX6_term_153 rfl ?_
                        refine va_get (D := D) hx hb hts inX6 hown hK hP 0 rfl rfl 7 (by decide) (hts _ kw480) (fun _ h9 => h9) rfl dX6_term_154 ?_
                        refine lv_iconst (v := 1) hx hb dX6_term_157 (by decide) ?_
                        refine lv_iadd hx hb dX6_term_158 ?_
                        refine va_put (D := D) (v := .int (v_terms + 1)) (ty := .int) hx hb hts inX6 tyX6 tyX6_ok nmX6 hown hK hP hD hS 0 rfl rfl 7 (by decide) (hts _ kw480) (fun _ h9 => h9) rfl (by decide +kernel) rfl rfl (Nat.le_of_ble_eq_true rfl) dX6_term_159 (fun H locs hP hD hS => ?_)
                        have hP : va_P D vwCl [(h0, .inr (6, [.int v_thrown, .ref h0_costs, .ref h0_factors, .ref h0_literals, .ref h0_begins, .ref h0_bounds, .int v_constraints, .int (v_terms + 1), .int v_begun, .int v_done, .int v_over, .int v_set, .int v_ones, .ref h0_trail, .ref h0_choice, .int v_depth, .int v_searchSet, .int v_searchOnes, .int v_best, .int v_bestOnes, .int v_made, .ref h0_log, .int v_size, .int v_answer, .int v_looked, .int v_place, .int v_waiting, .ref h0_waitSet, .ref h0_waitOnes, .ref h0_waitDead])), (h0_factors, .inl (cI, 120, .inl (upd v_factors v_terms.toNatClampNeg x1))), (h0_literals, .inl (cI, 120, .inl (upd v_literals v_terms.toNatClampNeg x2))), (h0_begins, .inl (cI, 22, .inl v_begins))] H := hP
                        have hD : va_D _ [(h0, .inr (6, [.int v_thrown, .ref h0_costs, .ref h0_factors, .ref h0_literals, .ref h0_begins, .ref h0_bounds, .int v_constraints, .int (v_terms + 1), .int v_begun, .int v_done, .int v_over, .int v_set, .int v_ones, .ref h0_trail, .ref h0_choice, .int v_depth, .int v_searchSet, .int v_searchOnes, .int v_best, .int v_bestOnes, .int v_made, .ref h0_log, .int v_size, .int v_answer, .int v_looked, .int v_place, .int v_waiting, .ref h0_waitSet, .ref h0_waitOnes, .ref h0_waitDead])), (h0_factors, .inl (cI, 120, .inl (upd v_factors v_terms.toNatClampNeg x1))), (h0_literals, .inl (cI, 120, .inl (upd v_literals v_terms.toNatClampNeg x2))), (h0_begins, .inl (cI, 22, .inl v_begins))] := hD
                        refine lv_iconst (v := 0) hx hb dX6_term_162 (by decide) ?_
                        exact wreti hx hb hr hlocks (by rw [hF]) (by rw [hF]; exact hP) hS dX6_term_163
                      · have hF := hF.trans (if_pos c_6)
                        refine lv_iconst (v := (-1)) hx hb dX6_term_130 (by decide) ?_
                        exact wreti hx hb hr hlocks (by rw [hF]) (by rw [hF]; exact hP) hS dX6_term_131
                    · have hF := hF.trans (if_neg c_5)
                      refine lv_aload_n hx hb dX6_term_89 rfl (lv_at hl 3 rfl) ?_
                      refine va_get (D := D) hx hb hts inX6 hown hK hP 0 rfl rfl 3 (by decide) (hts _ kw476) (fun _ h9 => h9) rfl dX6_term_90 ?_
                      refine lv_iload hx hb dX6_term_93 (lv_at hl 1 rfl) ?_
                      refine va_iald hx hb hK hP 2 0 rfl rfl (k_in ek (by have := okC_lt ek eT hk1 (by assumption); omega) (by decide)) dX6_term_95 ?_
                      refine lv_iload_n hx hb dX6_term_96 rfl (lv_at hl 5 rfl) ?_
                      refine lv_icmp_eq (tgt := 116) hx hb dX6_term_97 (by decide) (fun c_7 => ?_) (fun c_7 => ?_)
                      · have hF := hF.trans (if_pos c_7)
                        refine lv_iconst (v := 0) hx hb dX6_term_116 (by decide) ?_
                        refine lv_istore (lv' := [(4, .int 0), (5, .int l5), (3, .int x2), (0, .ref h0), (1, .int x1), (2, .int x2)]) hx hb dX6_term_117 hl (by decide) rfl (fun ls hl => ?_)
                        refine lv_iinc (v := l5 + 1) (lv' := [(5, .int (l5 + 1)), (4, .int 0), (3, .int x2), (0, .ref h0), (1, .int x1), (2, .int x2)]) hx hb dX6_term_119 hl (k := 1) rfl rfl (by decide) rfl (fun ls hl => ?_)
                        refine lv_goto (tgt := 75) hx hb dX6_term_122 (by decide) ?_
                        exact ih (k + 1) 0 (l5 + 1) ⟨k_s ek, by have := okC_lt ek eT hk1 (by assumption); omega, by omega⟩ (by first | exact Or.inl rfl | (rcases hg with h | h <;> first | exact absurd h (by assumption) | exact Or.inr h)) hF H locs hP hD hS ls (lv_sub hl [1, 0, 2, 3, 4, 5] rfl)
                      · have hF := hF.trans (if_neg c_7)
                        refine lv_aload_n hx hb dX6_term_100 rfl (lv_at hl 3 rfl) ?_
                        refine va_get (D := D) hx hb hts inX6 hown hK hP 0 rfl rfl 3 (by decide) (hts _ kw476) (fun _ h9 => h9) rfl dX6_term_101 ?_
                        refine lv_iload hx hb dX6_term_104 (lv_at hl 1 rfl) ?_
                        refine va_iald hx hb hK hP 2 0 rfl rfl (k_in ek (by have := okC_lt ek eT hk1 (by assumption); omega) (by decide)) dX6_term_106 ?_
                        refine lv_iload_n hx hb dX6_term_107 rfl (lv_at hl 5 rfl) ?_
                        refine lv_ineg hx hb dX6_term_108 ?_
                        refine lv_icmp_eq (tgt := 116) hx hb dX6_term_109 (by decide) (fun c_8 => ?_) (fun c_8 => ?_)
                        · have hF := hF.trans (if_pos c_8)
                          refine lv_iconst (v := 0) hx hb dX6_term_116 (by decide) ?_
                          refine lv_istore (lv' := [(4, .int 0), (5, .int l5), (3, .int x2), (0, .ref h0), (1, .int x1), (2, .int x2)]) hx hb dX6_term_117 hl (by decide) rfl (fun ls hl => ?_)
                          refine lv_iinc (v := l5 + 1) (lv' := [(5, .int (l5 + 1)), (4, .int 0), (3, .int x2), (0, .ref h0), (1, .int x1), (2, .int x2)]) hx hb dX6_term_119 hl (k := 1) rfl rfl (by decide) rfl (fun ls hl => ?_)
                          refine lv_goto (tgt := 75) hx hb dX6_term_122 (by decide) ?_
                          exact ih (k + 1) 0 (l5 + 1) ⟨k_s ek, by have := okC_lt ek eT hk1 (by assumption); omega, by omega⟩ (by first | exact Or.inl rfl | (rcases hg with h | h <;> first | exact absurd h (by assumption) | exact Or.inr h)) hF H locs hP hD hS ls (lv_sub hl [1, 0, 2, 3, 4, 5] rfl)
                        · have hF := hF.trans (if_neg c_8)
                          refine lv_iconst (v := 1) hx hb dX6_term_112 (by decide) ?_
                          refine lv_goto (tgt := 117) hx hb dX6_term_113 (by decide) ?_
                          refine lv_istore (lv' := [(4, .int 1), (5, .int l5), (3, .int x2), (0, .ref h0), (1, .int x1), (2, .int x2)]) hx hb dX6_term_117 hl (by decide) rfl (fun ls hl => ?_)
                          refine lv_iinc (v := l5 + 1) (lv' := [(5, .int (l5 + 1)), (4, .int 1), (3, .int x2), (0, .ref h0), (1, .int x1), (2, .int x2)]) hx hb dX6_term_119 hl (k := 1) rfl rfl (by decide) rfl (fun ls hl => ?_)
                          refine lv_goto (tgt := 75) hx hb dX6_term_122 (by decide) ?_
                          exact ih (k + 1) 1 (l5 + 1) ⟨k_s ek, by have := okC_lt ek eT hk1 (by assumption); omega, by omega⟩ (by first | exact Or.inl rfl | (rcases hg with h | h <;> first | exact absurd h (by assumption) | exact Or.inr h)) hF H locs hP hD hS ls (lv_sub hl [1, 0, 2, 3, 4, 5] rfl)
              exact loop75 121 B 0 (v_begins v_constraints.toNatClampNeg) ⟨eB, by omega, by omega⟩ (by first | exact Or.inl rfl | exact Or.inr (by assumption)) hF _ _ hP hD hS ls (lv_sub hl [1, 0, 2, 3, 4, 5] rfl)
            · have hF := hF.trans (if_neg c_9)
              refine lv_iconst (v := 1) hx hb dX6_term_57 (by decide) ?_
              refine lv_goto (tgt := 62) hx hb dX6_term_58 (by decide) ?_
              refine lv_istore (lv' := [(4, .int 1), (3, .int x2), (0, .ref h0), (1, .int x1), (2, .int x2)]) hx hb dX6_term_62 hl (by decide) rfl (fun ls hl => ?_)
              refine lv_aload_n hx hb dX6_term_64 rfl (lv_at hl 2 rfl) ?_
              refine va_get (D := D) hx hb hts inX6 hown hK hP 0 rfl rfl 4 (by decide) (hts _ kw477) (fun _ h9 => h9) rfl dX6_term_65 ?_
              refine lv_aload_n hx hb dX6_term_68 rfl (lv_at hl 2 rfl) ?_
              refine va_get (D := D) hx hb hts inX6 hown hK hP 0 rfl rfl 6 (by decide) (hts _ kw479) (fun _ h9 => h9) rfl dX6_term_69 ?_
              refine va_iald hx hb hK hP 3 0 rfl rfl (okN_inS hCn (by decide) (by decide)) dX6_term_72 ?_
              refine lv_istore (lv' := [(5, .int (v_begins v_constraints.toNatClampNeg)), (4, .int 1), (3, .int x2), (0, .ref h0), (1, .int x1), (2, .int x2)]) hx hb dX6_term_73 hl (by decide) rfl (fun ls hl => ?_)
              have loop75 : ∀ (n : Nat) (k : Nat) (l4 : Int32) (l5 : Int32) , (l5 = nI k ∧ k ≤ 120 ∧ 120 < k + n) → (l4 = 0 ∨ ¬ (120 : Int32) ≤ v_terms) → fX6_term x1 x2 v_constraints v_terms v_begun v_factors v_literals v_begins = fX6_term_L75 x1 x2 v_constraints v_terms v_begun v_factors v_literals v_begins n l4 l5 → ∀ (H : Heap) (locs : List Loc), va_P D vwCl [(h0, .inr (6, [.int v_thrown, .ref h0_costs, .ref h0_factors, .ref h0_literals, .ref h0_begins, .ref h0_bounds, .int v_constraints, .int v_terms, .int v_begun, .int v_done, .int v_over, .int v_set, .int v_ones, .ref h0_trail, .ref h0_choice, .int v_depth, .int v_searchSet, .int v_searchOnes, .int v_best, .int v_bestOnes, .int v_made, .ref h0_log, .int v_size, .int v_answer, .int v_looked, .int v_place, .int v_waiting, .ref h0_waitSet, .ref h0_waitOnes, .ref h0_waitDead])), (h0_factors, .inl (cI, 120, .inl v_factors)), (h0_literals, .inl (cI, 120, .inl v_literals)), (h0_begins, .inl (cI, 22, .inl v_begins))] H → va_D (aw [(h0, .inr (6, [.int v_thrown, .ref h0_costs, .ref h0_factors, .ref h0_literals, .ref h0_begins, .ref h0_bounds, .int v_constraints, .int v_terms, .int v_begun, .int v_done, .int v_over, .int v_set, .int v_ones, .ref h0_trail, .ref h0_choice, .int v_depth, .int v_searchSet, .int v_searchOnes, .int v_best, .int v_bestOnes, .int v_made, .ref h0_log, .int v_size, .int v_answer, .int v_looked, .int v_place, .int v_waiting, .ref h0_waitSet, .ref h0_waitOnes, .ref h0_waitDead])), (h0_factors, .inl (cI, 120, .inl v_factors)), (h0_literals, .inl (cI, 120, .inl v_literals)), (h0_begins, .inl (cI, 22, .inl v_begins))]) [(h0, .inr (6, [.int v_thrown, .ref h0_costs, .ref h0_factors, .ref h0_literals, .ref h0_begins, .ref h0_bounds, .int v_constraints, .int v_terms, .int v_begun, .int v_done, .int v_over, .int v_set, .int v_ones, .ref h0_trail, .ref h0_choice, .int v_depth, .int v_searchSet, .int v_searchOnes, .int v_best, .int v_bestOnes, .int v_made, .ref h0_log, .int v_size, .int v_answer, .int v_looked, .int v_place, .int v_waiting, .ref h0_waitSet, .ref h0_waitOnes, .ref h0_waitDead])), (h0_factors, .inl (cI, 120, .inl v_factors)), (h0_literals, .inl (cI, 120, .inl v_literals)), (h0_begins, .inl (cI, 22, .inl v_begins))] → va_S (aw [(h0, .inr (6, [.int v_thrown, .ref h0_costs, .ref h0_factors, .ref h0_literals, .ref h0_begins, .ref h0_bounds, .int v_constraints, .int v_terms, .int v_begun, .int v_done, .int v_over, .int v_set, .int v_ones, .ref h0_trail, .ref h0_choice, .int v_depth, .int v_searchSet, .int v_searchOnes, .int v_best, .int v_bestOnes, .int v_made, .ref h0_log, .int v_size, .int v_answer, .int v_looked, .int v_place, .int v_waiting, .ref h0_waitSet, .ref h0_waitOnes, .ref h0_waitDead])), (h0_factors, .inl (cI, 120, .inl v_factors)), (h0_literals, .inl (cI, 120, .inl v_literals)), (h0_begins, .inl (cI, 22, .inl v_begins))]) s.heap H locs → ∀ ls : Array Slot, lv_has ls 6 [(4, .int l4), (5, .int l5), (3, .int x2), (0, .ref h0), (1, .int x1), (2, .int x2)] → W p l e { frames := 1, cells := 0, slots := 0, locals := 22 } s m [.ref h0, .int x1, .int x2].toArray below meth c H locs 0 0 (MQ below (wQ D (some (.int ((fX6_term x1 x2 v_constraints v_terms v_begun v_factors v_literals v_begins).1))) [(h0, .inr (6, [.int v_thrown, .ref h0_costs, .ref h0_factors, .ref h0_literals, .ref h0_begins, .ref h0_bounds, .int v_constraints, .int v_terms, .int v_begun, .int v_done, .int v_over, .int v_set, .int v_ones, .ref h0_trail, .ref h0_choice, .int v_depth, .int v_searchSet, .int v_searchOnes, .int v_best, .int v_bestOnes, .int v_made, .ref h0_log, .int v_size, .int v_answer, .int v_looked, .int v_place, .int v_waiting, .ref h0_waitSet, .ref h0_waitOnes, .ref h0_waitDead])), (h0_factors, .inl (cI, 120, .inl v_factors)), (h0_literals, .inl (cI, 120, .inl v_literals)), (h0_begins, .inl (cI, 22, .inl v_begins))] [(h0, .inr (6, [.int v_thrown, .ref h0_costs, .ref h0_factors, .ref h0_literals, .ref h0_begins, .ref h0_bounds, .int v_constraints, .int ((fX6_term x1 x2 v_constraints v_terms v_begun v_factors v_literals v_begins).2.1), .int v_begun, .int v_done, .int v_over, .int v_set, .int v_ones, .ref h0_trail, .ref h0_choice, .int v_depth, .int v_searchSet, .int v_searchOnes, .int v_best, .int v_bestOnes, .int v_made, .ref h0_log, .int v_size, .int v_answer, .int v_looked, .int v_place, .int v_waiting, .ref h0_waitSet, .ref h0_waitOnes, .ref h0_waitDead])), (h0_factors, .inl (cI, 120, .inl ((fX6_term x1 x2 v_constraints v_terms v_begun v_factors v_literals v_begins).2.2.1))), (h0_literals, .inl (cI, 120, .inl ((fX6_term x1 x2 v_constraints v_terms v_begun v_factors v_literals v_begins).2.2.2))), (h0_begins, .inl (cI, 22, .inl v_begins))]) [.ref h0, .int x1, .int x2].toArray s 0 0 (aw [(h0, .inr (6, [.int v_thrown, .ref h0_costs, .ref h0_factors, .ref h0_literals, .ref h0_begins, .ref h0_bounds, .int v_constraints, .int v_terms, .int v_begun, .int v_done, .int v_over, .int v_set, .int v_ones, .ref h0_trail, .ref h0_choice, .int v_depth, .int v_searchSet, .int v_searchOnes, .int v_best, .int v_bestOnes, .int v_made, .ref h0_log, .int v_size, .int v_answer, .int v_looked, .int v_place, .int v_waiting, .ref h0_waitSet, .ref h0_waitOnes, .ref h0_waitDead])), (h0_factors, .inl (cI, 120, .inl v_factors)), (h0_literals, .inl (cI, 120, .inl v_literals)), (h0_begins, .inl (cI, 22, .inl v_begins))])) (F0 m 75 ls []) := by
                intro n
                induction n with
                | zero =>
                  intro k l4 l5 hk hg hF
                  exact (by obtain ⟨_, h2, h3⟩ := hk; exact absurd h3 (by omega))
                | succ n ih =>
                  intro k l4 l5 hk hg hF H locs hP hD hS ls hl
                  have hF := hF.trans (fX6_term_L75.eq_2 ..)
                  obtain ⟨ek, hk1, hk2⟩ := hk
                  refine lv_iload hx hb dX6_term_75 (lv_at hl 0 rfl) ?_
                  refine lv_if_eq (tgt := 125) hx hb dX6_term_77 (by decide) (fun c_3 => ?_) (fun c_3 => ?_)
                  · have hF := hF.trans (if_pos c_3)
                    refine lv_iload hx hb dX6_term_125 (lv_at hl 0 rfl) ?_
                    refine lv_if_ne (tgt := 132) hx hb dX6_term_127 (by decide) (fun c_4 => ?_) (fun c_4 => ?_)
                    · have hF := hF.trans (if_neg c_4)
                      refine lv_aload_n hx hb dX6_term_132 rfl (lv_at hl 3 rfl) ?_
                      refine va_get (D := D) hx hb hts inX6 hown hK hP 0 rfl rfl 2 (by decide) (hts _ kw475) (fun _ h9 => h9) rfl dX6_term_133 ?_
                      refine lv_aload_n hx hb dX6_term_136 rfl (lv_at hl 3 rfl) ?_
                      refine va_get (D := D) hx hb hts inX6 hown hK hP 0 rfl rfl 7 (by decide) (hts _ kw480) (fun _ h9 => h9) rfl dX6_term_137 ?_
                      refine lv_iload_n hx hb dX6_term_140 rfl (lv_at hl 4 rfl) ?_
                      refine va_iast hx hb hK hP hD hS 1 0 rfl rfl (by rcases hg with h | h <;> first | exact absurd h (by assumption) | exact okN_in hT (by decide) (k_lt_of h)) dX6_term_141 (fun H locs hP hD hS => ?_)
                      have hP : va_P D vwCl [(h0, .inr (6, [.int v_thrown, .ref h0_costs, .ref h0_factors, .ref h0_literals, .ref h0_begins, .ref h0_bounds, .int v_constraints, .int v_terms, .int v_begun, .int v_done, .int v_over, .int v_set, .int v_ones, .ref h0_trail, .ref h0_choice, .int v_depth, .int v_searchSet, .int v_searchOnes, .int v_best, .int v_bestOnes, .int v_made, .ref h0_log, .int v_size, .int v_answer, .int v_looked, .int v_place, .int v_waiting, .ref h0_waitSet, .ref h0_waitOnes, .ref h0_waitDead])), (h0_factors, .inl (cI, 120, .inl (upd v_factors v_terms.toNatClampNeg x1))), (h0_literals, .inl (cI, 120, .inl v_literals)), (h0_begins, .inl (cI, 22, .inl v_begins))] H := hP
                      have hD : va_D _ [(h0, .inr (6, [.int v_thrown, .ref h0_costs, .ref h0_factors, .ref h0_literals, .ref h0_begins, .ref h0_bounds, .int v_constraints, .int v_terms, .int v_begun, .int v_done, .int v_over, .int v_set, .int v_ones, .ref h0_trail, .ref h0_choice, .int v_depth, .int v_searchSet, .int v_searchOnes, .int v_best, .int v_bestOnes, .int v_made, .ref h0_log, .int v_size, .int v_answer, .int v_looked, .int v_place, .int v_waiting, .ref h0_waitSet, .ref h0_waitOnes, .ref h0_waitDead])), (h0_factors, .inl (cI, 120, .inl (upd v_factors v_terms.toNatClampNeg x1))), (h0_literals, .inl (cI, 120, .inl v_literals)), (h0_begins, .inl (cI, 22, .inl v_begins))] := hD
                      refine lv_aload_n hx hb dX6_term_142 rfl (lv_at hl 3 rfl) ?_
                      refine va_get (D := D) hx hb hts inX6 hown hK hP 0 rfl rfl 3 (by decide) (hts _ kw476) (fun _ h9 => h9) rfl dX6_term_143 ?_
                      refine lv_aload_n hx hb dX6_term_146 rfl (lv_at hl 3 rfl) ?_
                      refine va_get (D := D) hx hb hts inX6 hown hK hP 0 rfl rfl 7 (by decide) (hts _ kw480) (fun _ h9 => h9) rfl dX6_term_147 ?_
                      refine lv_iload_n hx hb dX6_term_150 rfl (lv_at hl 5 rfl) ?_
                      refine va_iast hx hb hK hP hD hS 2 0 rfl rfl (by rcases hg with h | h <;> first | exact absurd h (by assumption) | exact okN_in hT (by decide) (k_lt_of h)) dX6_term_151 (fun H locs hP hD hS => ?_)
                      have hP : va_P D vwCl [(h0, .inr (6, [.int v_thrown, .ref h0_costs, .ref h0_factors, .ref h0_literals, .ref h0_begins, .ref h0_bounds, .int v_constraints, .int v_terms, .int v_begun, .int v_done, .int v_over, .int v_set, .int v_ones, .ref h0_trail, .ref h0_choice, .int v_depth, .int v_searchSet, .int v_searchOnes, .int v_best, .int v_bestOnes, .int v_made, .ref h0_log, .int v_size, .int v_answer, .int v_looked, .int v_place, .int v_waiting, .ref h0_waitSet, .ref h0_waitOnes, .ref h0_waitDead])), (h0_factors, .inl (cI, 120, .inl (upd v_factors v_terms.toNatClampNeg x1))), (h0_literals, .inl (cI, 120, .inl (upd v_literals v_terms.toNatClampNeg x2))), (h0_begins, .inl (cI, 22, .inl v_begins))] H := hP
                      have hD : va_D _ [(h0, .inr (6, [.int v_thrown, .ref h0_costs, .ref h0_factors, .ref h0_literals, .ref h0_begins, .ref h0_bounds, .int v_constraints, .int v_terms, .int v_begun, .int v_done, .int v_over, .int v_set, .int v_ones, .ref h0_trail, .ref h0_choice, .int v_depth, .int v_searchSet, .int v_searchOnes, .int v_best, .int v_bestOnes, .int v_made, .ref h0_log, .int v_size, .int v_answer, .int v_looked, .int v_place, .int v_waiting, .ref h0_waitSet, .ref h0_waitOnes, .ref h0_waitDead])), (h0_factors, .inl (cI, 120, .inl (upd v_factors v_terms.toNatClampNeg x1))), (h0_literals, .inl (cI, 120, .inl (upd v_literals v_terms.toNatClampNeg x2))), (h0_begins, .inl (cI, 22, .inl v_begins))] := hD
                      refine lv_aload_n hx hb dX6_term_152 rfl (lv_at hl 3 rfl) ?_
                      refine lv_dup hx hb dX6_term_153 rfl ?_
                      refine va_get (D := D) hx hb hts inX6 hown hK hP 0 rfl rfl 7 (by decide) (hts _ kw480) (fun _ h9 => h9) rfl dX6_term_154 ?_
                      refine lv_iconst (v := 1) hx hb dX6_term_157 (by decide) ?_
                      refine lv_iadd hx hb dX6_term_158 ?_
                      refine va_put (D := D) (v := .int (v_terms + 1)) (ty := .int) hx hb hts inX6 tyX6 tyX6_ok nmX6 hown hK hP hD hS 0 rfl rfl 7 (by decide) (hts _ kw480) (fun _ h9 => h9) rfl (by decide +kernel) rfl rfl (Nat.le_of_ble_eq_true rfl) dX6_term_159 (fun H locs hP hD hS => ?_)
                      have hP : va_P D vwCl [(h0, .inr (6, [.int v_thrown, .ref h0_costs, .ref h0_factors, .ref h0_literals, .ref h0_begins, .ref h0_bounds, .int v_constraints, .int (v_terms + 1), .int v_begun, .int v_done, .int v_over, .int v_set, .int v_ones, .ref h0_trail, .ref h0_choice, .int v_depth, .int v_searchSet, .int v_searchOnes, .int v_best, .int v_bestOnes, .int v_made, .ref h0_log, .int v_size, .int v_answer, .int v_looked, .int v_place, .int v_waiting, .ref h0_waitSet, .ref h0_waitOnes, .ref h0_waitDead])), (h0_factors, .inl (cI, 120, .inl (upd v_factors v_terms.toNatClampNeg x1))), (h0_literals, .inl (cI, 120, .inl (upd v_literals v_terms.toNatClampNeg x2))), (h0_begins, .inl (cI, 22, .inl v_begins))] H := hP
                      have hD : va_D _ [(h0, .inr (6, [.int v_thrown, .ref h0_costs, .ref h0_factors, .ref h0_literals, .ref h0_begins, .ref h0_bounds, .int v_constraints, .int (v_terms + 1), .int v_begun, .int v_done, .int v_over, .int v_set, .int v_ones, .ref h0_trail, .ref h0_choice, .int v_depth, .int v_searchSet, .int v_searchOnes, .int v_best, .int v_bestOnes, .int v_made, .ref h0_log, .int v_size, .int v_answer, .int v_looked, .int v_place, .int v_waiting, .ref h0_waitSet, .ref h0_waitOnes, .ref h0_waitDead])), (h0_factors, .inl (cI, 120, .inl (upd v_factors v_terms.toNatClampNeg x1))), (h0_literals, .inl (cI, 120, .inl (upd v_literals v_terms.toNatClampNeg x2))), (h0_begins, .inl (cI, 22, .inl v_begins))] := hD
                      refine lv_iconst (v := 0) hx hb dX6_term_162 (by decide) ?_
                      exact wreti hx hb hr hlocks (by rw [hF]) (by rw [hF]; exact hP) hS dX6_term_163
                    · have hF := hF.trans (if_pos c_4)
                      refine lv_iconst (v := (-1)) hx hb dX6_term_130 (by decide) ?_
                      exact wreti hx hb hr hlocks (by rw [hF]) (by rw [hF]; exact hP) hS dX6_term_131
                  · have hF := hF.trans (if_neg c_3)
                    refine lv_iload hx hb dX6_term_80 (lv_at hl 1 rfl) ?_
                    refine lv_aload_n hx hb dX6_term_82 rfl (lv_at hl 3 rfl) ?_
                    refine va_get (D := D) hx hb hts inX6 hown hK hP 0 rfl rfl 7 (by decide) (hts _ kw480) (fun _ h9 => h9) rfl dX6_term_83 ?_
                    refine lv_icmp_ge (tgt := 125) hx hb dX6_term_86 (by decide) (fun c_5 => ?_) (fun c_5 => ?_)
                    · have hF := hF.trans (if_pos c_5)
                      refine lv_iload hx hb dX6_term_125 (lv_at hl 0 rfl) ?_
                      refine lv_if_ne (tgt := 132) hx hb dX6_term_127 (by decide) (fun c_6 => ?_) (fun c_6 => ?_)
                      · have hF := hF.trans (if_neg c_6)
                        refine lv_aload_n hx hb dX6_term_132 rfl (lv_at hl 3 rfl) ?_
                        refine va_get (D := D) hx hb hts inX6 hown hK hP 0 rfl rfl 2 (by decide) (hts _ kw475) (fun _ h9 => h9) rfl dX6_term_133 ?_
                        refine lv_aload_n hx hb dX6_term_136 rfl (lv_at hl 3 rfl) ?_
                        refine va_get (D := D) hx hb hts inX6 hown hK hP 0 rfl rfl 7 (by decide) (hts _ kw480) (fun _ h9 => h9) rfl dX6_term_137 ?_
                        refine lv_iload_n hx hb dX6_term_140 rfl (lv_at hl 4 rfl) ?_
                        refine va_iast hx hb hK hP hD hS 1 0 rfl rfl (by rcases hg with h | h <;> first | exact absurd h (by assumption) | exact okN_in hT (by decide) (k_lt_of h)) dX6_term_141 (fun H locs hP hD hS => ?_)
                        have hP : va_P D vwCl [(h0, .inr (6, [.int v_thrown, .ref h0_costs, .ref h0_factors, .ref h0_literals, .ref h0_begins, .ref h0_bounds, .int v_constraints, .int v_terms, .int v_begun, .int v_done, .int v_over, .int v_set, .int v_ones, .ref h0_trail, .ref h0_choice, .int v_depth, .int v_searchSet, .int v_searchOnes, .int v_best, .int v_bestOnes, .int v_made, .ref h0_log, .int v_size, .int v_answer, .int v_looked, .int v_place, .int v_waiting, .ref h0_waitSet, .ref h0_waitOnes, .ref h0_waitDead])), (h0_factors, .inl (cI, 120, .inl (upd v_factors v_terms.toNatClampNeg x1))), (h0_literals, .inl (cI, 120, .inl v_literals)), (h0_begins, .inl (cI, 22, .inl v_begins))] H := hP
                        have hD : va_D _ [(h0, .inr (6, [.int v_thrown, .ref h0_costs, .ref h0_factors, .ref h0_literals, .ref h0_begins, .ref h0_bounds, .int v_constraints, .int v_terms, .int v_begun, .int v_done, .int v_over, .int v_set, .int v_ones, .ref h0_trail, .ref h0_choice, .int v_depth, .int v_searchSet, .int v_searchOnes, .int v_best, .int v_bestOnes, .int v_made, .ref h0_log, .int v_size, .int v_answer, .int v_looked, .int v_place, .int v_waiting, .ref h0_waitSet, .ref h0_waitOnes, .ref h0_waitDead])), (h0_factors, .inl (cI, 120, .inl (upd v_factors v_terms.toNatClampNeg x1))), (h0_literals, .inl (cI, 120, .inl v_literals)), (h0_begins, .inl (cI, 22, .inl v_begins))] := hD
                        refine lv_aload_n hx hb dX6_term_142 rfl (lv_at hl 3 rfl) ?_
                        refine va_get (D := D) hx hb hts inX6 hown hK hP 0 rfl rfl 3 (by decide) (hts _ kw476) (fun _ h9 => h9) rfl dX6_term_143 ?_
                        refine lv_aload_n hx hb dX6_term_146 rfl (lv_at hl 3 rfl) ?_
                        refine va_get (D := D) hx hb hts inX6 hown hK hP 0 rfl rfl 7 (by decide) (hts _ kw480) (fun _ h9 => h9) rfl dX6_term_147 ?_
                        refine lv_iload_n hx hb dX6_term_150 rfl (lv_at hl 5 rfl) ?_
                        refine va_iast hx hb hK hP hD hS 2 0 rfl rfl (by rcases hg with h | h <;> first | exact absurd h (by assumption) | exact okN_in hT (by decide) (k_lt_of h)) dX6_term_151 (fun H locs hP hD hS => ?_)
                        have hP : va_P D vwCl [(h0, .inr (6, [.int v_thrown, .ref h0_costs, .ref h0_factors, .ref h0_literals, .ref h0_begins, .ref h0_bounds, .int v_constraints, .int v_terms, .int v_begun, .int v_done, .int v_over, .int v_set, .int v_ones, .ref h0_trail, .ref h0_choice, .int v_depth, .int v_searchSet, .int v_searchOnes, .int v_best, .int v_bestOnes, .int v_made, .ref h0_log, .int v_size, .int v_answer, .int v_looked, .int v_place, .int v_waiting, .ref h0_waitSet, .ref h0_waitOnes, .ref h0_waitDead])), (h0_factors, .inl (cI, 120, .inl (upd v_factors v_terms.toNatClampNeg x1))), (h0_literals, .inl (cI, 120, .inl (upd v_literals v_terms.toNatClampNeg x2))), (h0_begins, .inl (cI, 22, .inl v_begins))] H := hP
                        have hD : va_D _ [(h0, .inr (6, [.int v_thrown, .ref h0_costs, .ref h0_factors, .ref h0_literals, .ref h0_begins, .ref h0_bounds, .int v_constraints, .int v_terms, .int v_begun, .int v_done, .int v_over, .int v_set, .int v_ones, .ref h0_trail, .ref h0_choice, .int v_depth, .int v_searchSet, .int v_searchOnes, .int v_best, .int v_bestOnes, .int v_made, .ref h0_log, .int v_size, .int v_answer, .int v_looked, .int v_place, .int v_waiting, .ref h0_waitSet, .ref h0_waitOnes, .ref h0_waitDead])), (h0_factors, .inl (cI, 120, .inl (upd v_factors v_terms.toNatClampNeg x1))), (h0_literals, .inl (cI, 120, .inl (upd v_literals v_terms.toNatClampNeg x2))), (h0_begins, .inl (cI, 22, .inl v_begins))] := hD
                        refine lv_aload_n hx hb dX6_term_152 rfl (lv_at hl 3 rfl) ?_
                        refine lv_dup hx hb dX6_term_153 rfl ?_
                        refine va_get (D := D) hx hb hts inX6 hown hK hP 0 rfl rfl 7 (by decide) (hts _ kw480) (fun _ h9 => h9) rfl dX6_term_154 ?_
                        refine lv_iconst (v := 1) hx hb dX6_term_157 (by decide) ?_
                        refine lv_iadd hx hb dX6_term_158 ?_
                        refine va_put (D := D) (v := .int (v_terms + 1)) (ty := .int) hx hb hts inX6 tyX6 tyX6_ok nmX6 hown hK hP hD hS 0 rfl rfl 7 (by decide) (hts _ kw480) (fun _ h9 => h9) rfl (by decide +kernel) rfl rfl (Nat.le_of_ble_eq_true rfl) dX6_term_159 (fun H locs hP hD hS => ?_)
                        have hP : va_P D vwCl [(h0, .inr (6, [.int v_thrown, .ref h0_costs, .ref h0_factors, .ref h0_literals, .ref h0_begins, .ref h0_bounds, .int v_constraints, .int (v_terms + 1), .int v_begun, .int v_done, .int v_over, .int v_set, .int v_ones, .ref h0_trail, .ref h0_choice, .int v_depth, .int v_searchSet, .int v_searchOnes, .int v_best, .int v_bestOnes, .int v_made, .ref h0_log, .int v_size, .int v_answer, .int v_looked, .int v_place, .int v_waiting, .ref h0_waitSet, .ref h0_waitOnes, .ref h0_waitDead])), (h0_factors, .inl (cI, 120, .inl (upd v_factors v_terms.toNatClampNeg x1))), (h0_literals, .inl (cI, 120, .inl (upd v_literals v_terms.toNatClampNeg x2))), (h0_begins, .inl (cI, 22, .inl v_begins))] H := hP
                        have hD : va_D _ [(h0, .inr (6, [.int v_thrown, .ref h0_costs, .ref h0_factors, .ref h0_literals, .ref h0_begins, .ref h0_bounds, .int v_constraints, .int (v_terms + 1), .int v_begun, .int v_done, .int v_over, .int v_set, .int v_ones, .ref h0_trail, .ref h0_choice, .int v_depth, .int v_searchSet, .int v_searchOnes, .int v_best, .int v_bestOnes, .int v_made, .ref h0_log, .int v_size, .int v_answer, .int v_looked, .int v_place, .int v_waiting, .ref h0_waitSet, .ref h0_waitOnes, .ref h0_waitDead])), (h0_factors, .inl (cI, 120, .inl (upd v_factors v_terms.toNatClampNeg x1))), (h0_literals, .inl (cI, 120, .inl (upd v_literals v_terms.toNatClampNeg x2))), (h0_begins, .inl (cI, 22, .inl v_begins))] := hD
                        refine lv_iconst (v := 0) hx hb dX6_term_162 (by decide) ?_
                        exact wreti hx hb hr hlocks (by rw [hF]) (by rw [hF]; exact hP) hS dX6_term_163
                      · have hF := hF.trans (if_pos c_6)
                        refine lv_iconst (v := (-1)) hx hb dX6_term_130 (by decide) ?_
                        exact wreti hx hb hr hlocks (by rw [hF]) (by rw [hF]; exact hP) hS dX6_term_131
                    · have hF := hF.trans (if_neg c_5)
                      refine lv_aload_n hx hb dX6_term_89 rfl (lv_at hl 3 rfl) ?_
                      refine va_get (D := D) hx hb hts inX6 hown hK hP 0 rfl rfl 3 (by decide) (hts _ kw476) (fun _ h9 => h9) rfl dX6_term_90 ?_
                      refine lv_iload hx hb dX6_term_93 (lv_at hl 1 rfl) ?_
                      refine va_iald hx hb hK hP 2 0 rfl rfl (k_in ek (by have := okC_lt ek eT hk1 (by assumption); omega) (by decide)) dX6_term_95 ?_
                      refine lv_iload_n hx hb dX6_term_96 rfl (lv_at hl 5 rfl) ?_
                      refine lv_icmp_eq (tgt := 116) hx hb dX6_term_97 (by decide) (fun c_7 => ?_) (fun c_7 => ?_)
                      · have hF := hF.trans (if_pos c_7)
                        refine lv_iconst (v := 0) hx hb dX6_term_116 (by decide) ?_
                        refine lv_istore (lv' := [(4, .int 0), (5, .int l5), (3, .int x2), (0, .ref h0), (1, .int x1), (2, .int x2)]) hx hb dX6_term_117 hl (by decide) rfl (fun ls hl => ?_)
                        refine lv_iinc (v := l5 + 1) (lv' := [(5, .int (l5 + 1)), (4, .int 0), (3, .int x2), (0, .ref h0), (1, .int x1), (2, .int x2)]) hx hb dX6_term_119 hl (k := 1) rfl rfl (by decide) rfl (fun ls hl => ?_)
                        refine lv_goto (tgt := 75) hx hb dX6_term_122 (by decide) ?_
                        exact ih (k + 1) 0 (l5 + 1) ⟨k_s ek, by have := okC_lt ek eT hk1 (by assumption); omega, by omega⟩ (by first | exact Or.inl rfl | (rcases hg with h | h <;> first | exact absurd h (by assumption) | exact Or.inr h)) hF H locs hP hD hS ls (lv_sub hl [1, 0, 2, 3, 4, 5] rfl)
                      · have hF := hF.trans (if_neg c_7)
                        refine lv_aload_n hx hb dX6_term_100 rfl (lv_at hl 3 rfl) ?_
                        refine va_get (D := D) hx hb hts inX6 hown hK hP 0 rfl rfl 3 (by decide) (hts _ kw476) (fun _ h9 => h9) rfl dX6_term_101 ?_
                        refine lv_iload hx hb dX6_term_104 (lv_at hl 1 rfl) ?_
                        refine va_iald hx hb hK hP 2 0 rfl rfl (k_in ek (by have := okC_lt ek eT hk1 (by assumption); omega) (by decide)) dX6_term_106 ?_
                        refine lv_iload_n hx hb dX6_term_107 rfl (lv_at hl 5 rfl) ?_
                        refine lv_ineg hx hb dX6_term_108 ?_
                        refine lv_icmp_eq (tgt := 116) hx hb dX6_term_109 (by decide) (fun c_8 => ?_) (fun c_8 => ?_)
                        · have hF := hF.trans (if_pos c_8)
                          refine lv_iconst (v := 0) hx hb dX6_term_116 (by decide) ?_
                          refine lv_istore (lv' := [(4, .int 0), (5, .int l5), (3, .int x2), (0, .ref h0), (1, .int x1), (2, .int x2)]) hx hb dX6_term_117 hl (by decide) rfl (fun ls hl => ?_)
                          refine lv_iinc (v := l5 + 1) (lv' := [(5, .int (l5 + 1)), (4, .int 0), (3, .int x2), (0, .ref h0), (1, .int x1), (2, .int x2)]) hx hb dX6_term_119 hl (k := 1) rfl rfl (by decide) rfl (fun ls hl => ?_)
                          refine lv_goto (tgt := 75) hx hb dX6_term_122 (by decide) ?_
                          exact ih (k + 1) 0 (l5 + 1) ⟨k_s ek, by have := okC_lt ek eT hk1 (by assumption); omega, by omega⟩ (by first | exact Or.inl rfl | (rcases hg with h | h <;> first | exact absurd h (by assumption) | exact Or.inr h)) hF H locs hP hD hS ls (lv_sub hl [1, 0, 2, 3, 4, 5] rfl)
                        · have hF := hF.trans (if_neg c_8)
                          refine lv_iconst (v := 1) hx hb dX6_term_112 (by decide) ?_
                          refine lv_goto (tgt := 117) hx hb dX6_term_113 (by decide) ?_
                          refine lv_istore (lv' := [(4, .int 1), (5, .int l5), (3, .int x2), (0, .ref h0), (1, .int x1), (2, .int x2)]) hx hb dX6_term_117 hl (by decide) rfl (fun ls hl => ?_)
                          refine lv_iinc (v := l5 + 1) (lv' := [(5, .int (l5 + 1)), (4, .int 1), (3, .int x2), (0, .ref h0), (1, .int x1), (2, .int x2)]) hx hb dX6_term_119 hl (k := 1) rfl rfl (by decide) rfl (fun ls hl => ?_)
                          refine lv_goto (tgt := 75) hx hb dX6_term_122 (by decide) ?_
                          exact ih (k + 1) 1 (l5 + 1) ⟨k_s ek, by have := okC_lt ek eT hk1 (by assumption); omega, by omega⟩ (by first | exact Or.inl rfl | (rcases hg with h | h <;> first | exact absurd h (by assumption) | exact Or.inr h)) hF H locs hP hD hS ls (lv_sub hl [1, 0, 2, 3, 4, 5] rfl)
              exact loop75 121 B 1 (v_begins v_constraints.toNatClampNeg) ⟨eB, by omega, by omega⟩ (by first | exact Or.inl rfl | exact Or.inr (by assumption)) hF _ _ hP hD hS ls (lv_sub hl [1, 0, 2, 3, 4, 5] rfl)
  · have hF := hF.trans (if_neg c_1)
    refine lv_iload_n hx hb dX6_term_4 rfl (lv_at hl 2 rfl) ?_
    refine lv_ineg hx hb dX6_term_5 ?_
    refine lv_goto (tgt := 10) hx hb dX6_term_6 (by decide) ?_
    refine lv_istore_n (lv' := [(3, .int (-x2)), (0, .ref h0), (1, .int x1), (2, .int x2)]) hx hb dX6_term_10 rfl hl (by decide) rfl (fun ls hl => ?_)
    refine lv_aload_n hx hb dX6_term_11 rfl (lv_at hl 1 rfl) ?_
    refine va_get (D := D) hx hb hts inX6 hown hK hP 0 rfl rfl 8 (by decide) (hts _ kw481) (fun _ h9 => h9) rfl dX6_term_12 ?_
    refine lv_if_ne (tgt := 61) hx hb dX6_term_15 (by decide) (fun c_9 => ?_) (fun c_9 => ?_)
    · have hF := hF.trans (if_neg c_9)
      refine lv_iconst (v := 0) hx hb dX6_term_61 (by decide) ?_
      refine lv_istore (lv' := [(4, .int 0), (3, .int (-x2)), (0, .ref h0), (1, .int x1), (2, .int x2)]) hx hb dX6_term_62 hl (by decide) rfl (fun ls hl => ?_)
      refine lv_aload_n hx hb dX6_term_64 rfl (lv_at hl 2 rfl) ?_
      refine va_get (D := D) hx hb hts inX6 hown hK hP 0 rfl rfl 4 (by decide) (hts _ kw477) (fun _ h9 => h9) rfl dX6_term_65 ?_
      refine lv_aload_n hx hb dX6_term_68 rfl (lv_at hl 2 rfl) ?_
      refine va_get (D := D) hx hb hts inX6 hown hK hP 0 rfl rfl 6 (by decide) (hts _ kw479) (fun _ h9 => h9) rfl dX6_term_69 ?_
      refine va_iald hx hb hK hP 3 0 rfl rfl (okN_inS hCn (by decide) (by decide)) dX6_term_72 ?_
      refine lv_istore (lv' := [(5, .int (v_begins v_constraints.toNatClampNeg)), (4, .int 0), (3, .int (-x2)), (0, .ref h0), (1, .int x1), (2, .int x2)]) hx hb dX6_term_73 hl (by decide) rfl (fun ls hl => ?_)
      have loop75 : ∀ (n : Nat) (k : Nat) (l4 : Int32) (l5 : Int32) , (l5 = nI k ∧ k ≤ 120 ∧ 120 < k + n) → (l4 = 0 ∨ ¬ (120 : Int32) ≤ v_terms) → fX6_term x1 x2 v_constraints v_terms v_begun v_factors v_literals v_begins = fX6_term_L75 x1 x2 v_constraints v_terms v_begun v_factors v_literals v_begins n l4 l5 → ∀ (H : Heap) (locs : List Loc), va_P D vwCl [(h0, .inr (6, [.int v_thrown, .ref h0_costs, .ref h0_factors, .ref h0_literals, .ref h0_begins, .ref h0_bounds, .int v_constraints, .int v_terms, .int v_begun, .int v_done, .int v_over, .int v_set, .int v_ones, .ref h0_trail, .ref h0_choice, .int v_depth, .int v_searchSet, .int v_searchOnes, .int v_best, .int v_bestOnes, .int v_made, .ref h0_log, .int v_size, .int v_answer, .int v_looked, .int v_place, .int v_waiting, .ref h0_waitSet, .ref h0_waitOnes, .ref h0_waitDead])), (h0_factors, .inl (cI, 120, .inl v_factors)), (h0_literals, .inl (cI, 120, .inl v_literals)), (h0_begins, .inl (cI, 22, .inl v_begins))] H → va_D (aw [(h0, .inr (6, [.int v_thrown, .ref h0_costs, .ref h0_factors, .ref h0_literals, .ref h0_begins, .ref h0_bounds, .int v_constraints, .int v_terms, .int v_begun, .int v_done, .int v_over, .int v_set, .int v_ones, .ref h0_trail, .ref h0_choice, .int v_depth, .int v_searchSet, .int v_searchOnes, .int v_best, .int v_bestOnes, .int v_made, .ref h0_log, .int v_size, .int v_answer, .int v_looked, .int v_place, .int v_waiting, .ref h0_waitSet, .ref h0_waitOnes, .ref h0_waitDead])), (h0_factors, .inl (cI, 120, .inl v_factors)), (h0_literals, .inl (cI, 120, .inl v_literals)), (h0_begins, .inl (cI, 22, .inl v_begins))]) [(h0, .inr (6, [.int v_thrown, .ref h0_costs, .ref h0_factors, .ref h0_literals, .ref h0_begins, .ref h0_bounds, .int v_constraints, .int v_terms, .int v_begun, .int v_done, .int v_over, .int v_set, .int v_ones, .ref h0_trail, .ref h0_choice, .int v_depth, .int v_searchSet, .int v_searchOnes, .int v_best, .int v_bestOnes, .int v_made, .ref h0_log, .int v_size, .int v_answer, .int v_looked, .int v_place, .int v_waiting, .ref h0_waitSet, .ref h0_waitOnes, .ref h0_waitDead])), (h0_factors, .inl (cI, 120, .inl v_factors)), (h0_literals, .inl (cI, 120, .inl v_literals)), (h0_begins, .inl (cI, 22, .inl v_begins))] → va_S (aw [(h0, .inr (6, [.int v_thrown, .ref h0_costs, .ref h0_factors, .ref h0_literals, .ref h0_begins, .ref h0_bounds, .int v_constraints, .int v_terms, .int v_begun, .int v_done, .int v_over, .int v_set, .int v_ones, .ref h0_trail, .ref h0_choice, .int v_depth, .int v_searchSet, .int v_searchOnes, .int v_best, .int v_bestOnes, .int v_made, .ref h0_log, .int v_size, .int v_answer, .int v_looked, .int v_place, .int v_waiting, .ref h0_waitSet, .ref h0_waitOnes, .ref h0_waitDead])), (h0_factors, .inl (cI, 120, .inl v_factors)), (h0_literals, .inl (cI, 120, .inl v_literals)), (h0_begins, .inl (cI, 22, .inl v_begins))]) s.heap H locs → ∀ ls : Array Slot, lv_has ls 6 [(4, .int l4), (5, .int l5), (3, .int (-x2)), (0, .ref h0), (1, .int x1), (2, .int x2)] → W p l e { frames := 1, cells := 0, slots := 0, locals := 22 } s m [.ref h0, .int x1, .int x2].toArray below meth c H locs 0 0 (MQ below (wQ D (some (.int ((fX6_term x1 x2 v_constraints v_terms v_begun v_factors v_literals v_begins).1))) [(h0, .inr (6, [.int v_thrown, .ref h0_costs, .ref h0_factors, .ref h0_literals, .ref h0_begins, .ref h0_bounds, .int v_constraints, .int v_terms, .int v_begun, .int v_done, .int v_over, .int v_set, .int v_ones, .ref h0_trail, .ref h0_choice, .int v_depth, .int v_searchSet, .int v_searchOnes, .int v_best, .int v_bestOnes, .int v_made, .ref h0_log, .int v_size, .int v_answer, .int v_looked, .int v_place, .int v_waiting, .ref h0_waitSet, .ref h0_waitOnes, .ref h0_waitDead])), (h0_factors, .inl (cI, 120, .inl v_factors)), (h0_literals, .inl (cI, 120, .inl v_literals)), (h0_begins, .inl (cI, 22, .inl v_begins))] [(h0, .inr (6, [.int v_thrown, .ref h0_costs, .ref h0_factors, .ref h0_literals, .ref h0_begins, .ref h0_bounds, .int v_constraints, .int ((fX6_term x1 x2 v_constraints v_terms v_begun v_factors v_literals v_begins).2.1), .int v_begun, .int v_done, .int v_over, .int v_set, .int v_ones, .ref h0_trail, .ref h0_choice, .int v_depth, .int v_searchSet, .int v_searchOnes, .int v_best, .int v_bestOnes, .int v_made, .ref h0_log, .int v_size, .int v_answer, .int v_looked, .int v_place, .int v_waiting, .ref h0_waitSet, .ref h0_waitOnes, .ref h0_waitDead])), (h0_factors, .inl (cI, 120, .inl ((fX6_term x1 x2 v_constraints v_terms v_begun v_factors v_literals v_begins).2.2.1))), (h0_literals, .inl (cI, 120, .inl ((fX6_term x1 x2 v_constraints v_terms v_begun v_factors v_literals v_begins).2.2.2))), (h0_begins, .inl (cI, 22, .inl v_begins))]) [.ref h0, .int x1, .int x2].toArray s 0 0 (aw [(h0, .inr (6, [.int v_thrown, .ref h0_costs, .ref h0_factors, .ref h0_literals, .ref h0_begins, .ref h0_bounds, .int v_constraints, .int v_terms, .int v_begun, .int v_done, .int v_over, .int v_set, .int v_ones, .ref h0_trail, .ref h0_choice, .int v_depth, .int v_searchSet, .int v_searchOnes, .int v_best, .int v_bestOnes, .int v_made, .ref h0_log, .int v_size, .int v_answer, .int v_looked, .int v_place, .int v_waiting, .ref h0_waitSet, .ref h0_waitOnes, .ref h0_waitDead])), (h0_factors, .inl (cI, 120, .inl v_factors)), (h0_literals, .inl (cI, 120, .inl v_literals)), (h0_begins, .inl (cI, 22, .inl v_begins))])) (F0 m 75 ls []) := by
        intro n
        induction n with
        | zero =>
          intro k l4 l5 hk hg hF
          exact (by obtain ⟨_, h2, h3⟩ := hk; exact absurd h3 (by omega))
        | succ n ih =>
          intro k l4 l5 hk hg hF H locs hP hD hS ls hl
          have hF := hF.trans (fX6_term_L75.eq_2 ..)
          obtain ⟨ek, hk1, hk2⟩ := hk
          refine lv_iload hx hb dX6_term_75 (lv_at hl 0 rfl) ?_
          refine lv_if_eq (tgt := 125) hx hb dX6_term_77 (by decide) (fun c_3 => ?_) (fun c_3 => ?_)
          · have hF := hF.trans (if_pos c_3)
            refine lv_iload hx hb dX6_term_125 (lv_at hl 0 rfl) ?_
            refine lv_if_ne (tgt := 132) hx hb dX6_term_127 (by decide) (fun c_4 => ?_) (fun c_4 => ?_)
            · have hF := hF.trans (if_neg c_4)
              refine lv_aload_n hx hb dX6_term_132 rfl (lv_at hl 3 rfl) ?_
              refine va_get (D := D) hx hb hts inX6 hown hK hP 0 rfl rfl 2 (by decide) (hts _ kw475) (fun _ h9 => h9) rfl dX6_term_133 ?_
              refine lv_aload_n hx hb dX6_term_136 rfl (lv_at hl 3 rfl) ?_
              refine va_get (D := D) hx hb hts inX6 hown hK hP 0 rfl rfl 7 (by decide) (hts _ kw480) (fun _ h9 => h9) rfl dX6_term_137 ?_
              refine lv_iload_n hx hb dX6_term_140 rfl (lv_at hl 4 rfl) ?_
              refine va_iast hx hb hK hP hD hS 1 0 rfl rfl (by rcases hg with h | h <;> first | exact absurd h (by assumption) | exact okN_in hT (by decide) (k_lt_of h)) dX6_term_141 (fun H locs hP hD hS => ?_)
              have hP : va_P D vwCl [(h0, .inr (6, [.int v_thrown, .ref h0_costs, .ref h0_factors, .ref h0_literals, .ref h0_begins, .ref h0_bounds, .int v_constraints, .int v_terms, .int v_begun, .int v_done, .int v_over, .int v_set, .int v_ones, .ref h0_trail, .ref h0_choice, .int v_depth, .int v_searchSet, .int v_searchOnes, .int v_best, .int v_bestOnes, .int v_made, .ref h0_log, .int v_size, .int v_answer, .int v_looked, .int v_place, .int v_waiting, .ref h0_waitSet, .ref h0_waitOnes, .ref h0_waitDead])), (h0_factors, .inl (cI, 120, .inl (upd v_factors v_terms.toNatClampNeg x1))), (h0_literals, .inl (cI, 120, .inl v_literals)), (h0_begins, .inl (cI, 22, .inl v_begins))] H := hP
              have hD : va_D _ [(h0, .inr (6, [.int v_thrown, .ref h0_costs, .ref h0_factors, .ref h0_literals, .ref h0_begins, .ref h0_bounds, .int v_constraints, .int v_terms, .int v_begun, .int v_done, .int v_over, .int v_set, .int v_ones, .ref h0_trail, .ref h0_choice, .int v_depth, .int v_searchSet, .int v_searchOnes, .int v_best, .int v_bestOnes, .int v_made, .ref h0_log, .int v_size, .int v_answer, .int v_looked, .int v_place, .int v_waiting, .ref h0_waitSet, .ref h0_waitOnes, .ref h0_waitDead])), (h0_factors, .inl (cI, 120, .inl (upd v_factors v_terms.toNatClampNeg x1))), (h0_literals, .inl (cI, 120, .inl v_literals)), (h0_begins, .inl (cI, 22, .inl v_begins))] := hD
              refine lv_aload_n hx hb dX6_term_142 rfl (lv_at hl 3 rfl) ?_
              refine va_get (D := D) hx hb hts inX6 hown hK hP 0 rfl rfl 3 (by decide) (hts _ kw476) (fun _ h9 => h9) rfl dX6_term_143 ?_
              refine lv_aload_n hx hb dX6_term_146 rfl (lv_at hl 3 rfl) ?_
              refine va_get (D := D) hx hb hts inX6 hown hK hP 0 rfl rfl 7 (by decide) (hts _ kw480) (fun _ h9 => h9) rfl dX6_term_147 ?_
              refine lv_iload_n hx hb dX6_term_150 rfl (lv_at hl 5 rfl) ?_
              refine va_iast hx hb hK hP hD hS 2 0 rfl rfl (by rcases hg with h | h <;> first | exact absurd h (by assumption) | exact okN_in hT (by decide) (k_lt_of h)) dX6_term_151 (fun H locs hP hD hS => ?_)
              have hP : va_P D vwCl [(h0, .inr (6, [.int v_thrown, .ref h0_costs, .ref h0_factors, .ref h0_literals, .ref h0_begins, .ref h0_bounds, .int v_constraints, .int v_terms, .int v_begun, .int v_done, .int v_over, .int v_set, .int v_ones, .ref h0_trail, .ref h0_choice, .int v_depth, .int v_searchSet, .int v_searchOnes, .int v_best, .int v_bestOnes, .int v_made, .ref h0_log, .int v_size, .int v_answer, .int v_looked, .int v_place, .int v_waiting, .ref h0_waitSet, .ref h0_waitOnes, .ref h0_waitDead])), (h0_factors, .inl (cI, 120, .inl (upd v_factors v_terms.toNatClampNeg x1))), (h0_literals, .inl (cI, 120, .inl (upd v_literals v_terms.toNatClampNeg x2))), (h0_begins, .inl (cI, 22, .inl v_begins))] H := hP
              have hD : va_D _ [(h0, .inr (6, [.int v_thrown, .ref h0_costs, .ref h0_factors, .ref h0_literals, .ref h0_begins, .ref h0_bounds, .int v_constraints, .int v_terms, .int v_begun, .int v_done, .int v_over, .int v_set, .int v_ones, .ref h0_trail, .ref h0_choice, .int v_depth, .int v_searchSet, .int v_searchOnes, .int v_best, .int v_bestOnes, .int v_made, .ref h0_log, .int v_size, .int v_answer, .int v_looked, .int v_place, .int v_waiting, .ref h0_waitSet, .ref h0_waitOnes, .ref h0_waitDead])), (h0_factors, .inl (cI, 120, .inl (upd v_factors v_terms.toNatClampNeg x1))), (h0_literals, .inl (cI, 120, .inl (upd v_literals v_terms.toNatClampNeg x2))), (h0_begins, .inl (cI, 22, .inl v_begins))] := hD
              refine lv_aload_n hx hb dX6_term_152 rfl (lv_at hl 3 rfl) ?_
              refine lv_dup hx hb dX6_term_153 rfl ?_
              refine va_get (D := D) hx hb hts inX6 hown hK hP 0 rfl rfl 7 (by decide) (hts _ kw480) (fun _ h9 => h9) rfl dX6_term_154 ?_
              refine lv_iconst (v := 1) hx hb dX6_term_157 (by decide) ?_
              refine lv_iadd hx hb dX6_term_158 ?_
              refine va_put (D := D) (v := .int (v_terms + 1)) (ty := .int) hx hb hts inX6 tyX6 tyX6_ok nmX6 hown hK hP hD hS 0 rfl rfl 7 (by decide) (hts _ kw480) (fun _ h9 => h9) rfl (by decide +kernel) rfl rfl (Nat.le_of_ble_eq_true rfl) dX6_term_159 (fun H locs hP hD hS => ?_)
              have hP : va_P D vwCl [(h0, .inr (6, [.int v_thrown, .ref h0_costs, .ref h0_factors, .ref h0_literals, .ref h0_begins, .ref h0_bounds, .int v_constraints, .int (v_terms + 1), .int v_begun, .int v_done, .int v_over, .int v_set, .int v_ones, .ref h0_trail, .ref h0_choice, .int v_depth, .int v_searchSet, .int v_searchOnes, .int v_best, .int v_bestOnes, .int v_made, .ref h0_log, .int v_size, .int v_answer, .int v_looked, .int v_place, .int v_waiting, .ref h0_waitSet, .ref h0_waitOnes, .ref h0_waitDead])), (h0_factors, .inl (cI, 120, .inl (upd v_factors v_terms.toNatClampNeg x1))), (h0_literals, .inl (cI, 120, .inl (upd v_literals v_terms.toNatClampNeg x2))), (h0_begins, .inl (cI, 22, .inl v_begins))] H := hP
              have hD : va_D _ [(h0, .inr (6, [.int v_thrown, .ref h0_costs, .ref h0_factors, .ref h0_literals, .ref h0_begins, .ref h0_bounds, .int v_constraints, .int (v_terms + 1), .int v_begun, .int v_done, .int v_over, .int v_set, .int v_ones, .ref h0_trail, .ref h0_choice, .int v_depth, .int v_searchSet, .int v_searchOnes, .int v_best, .int v_bestOnes, .int v_made, .ref h0_log, .int v_size, .int v_answer, .int v_looked, .int v_place, .int v_waiting, .ref h0_waitSet, .ref h0_waitOnes, .ref h0_waitDead])), (h0_factors, .inl (cI, 120, .inl (upd v_factors v_terms.toNatClampNeg x1))), (h0_literals, .inl (cI, 120, .inl (upd v_literals v_terms.toNatClampNeg x2))), (h0_begins, .inl (cI, 22, .inl v_begins))] := hD
              refine lv_iconst (v := 0) hx hb dX6_term_162 (by decide) ?_
              exact wreti hx hb hr hlocks (by rw [hF]) (by rw [hF]; exact hP) hS dX6_term_163
            · have hF := hF.trans (if_pos c_4)
              refine lv_iconst (v := (-1)) hx hb dX6_term_130 (by decide) ?_
              exact wreti hx hb hr hlocks (by rw [hF]) (by rw [hF]; exact hP) hS dX6_term_131
          · have hF := hF.trans (if_neg c_3)
            refine lv_iload hx hb dX6_term_80 (lv_at hl 1 rfl) ?_
            refine lv_aload_n hx hb dX6_term_82 rfl (lv_at hl 3 rfl) ?_
            refine va_get (D := D) hx hb hts inX6 hown hK hP 0 rfl rfl 7 (by decide) (hts _ kw480) (fun _ h9 => h9) rfl dX6_term_83 ?_
            refine lv_icmp_ge (tgt := 125) hx hb dX6_term_86 (by decide) (fun c_5 => ?_) (fun c_5 => ?_)
            · have hF := hF.trans (if_pos c_5)
              refine lv_iload hx hb dX6_term_125 (lv_at hl 0 rfl) ?_
              refine lv_if_ne (tgt := 132) hx hb dX6_term_127 (by decide) (fun c_6 => ?_) (fun c_6 => ?_)
              · have hF := hF.trans (if_neg c_6)
                refine lv_aload_n hx hb dX6_term_132 rfl (lv_at hl 3 rfl) ?_
                refine va_get (D := D) hx hb hts inX6 hown hK hP 0 rfl rfl 2 (by decide) (hts _ kw475) (fun _ h9 => h9) rfl dX6_term_133 ?_
                refine lv_aload_n hx hb dX6_term_136 rfl (lv_at hl 3 rfl) ?_
                refine va_get (D := D) hx hb hts inX6 hown hK hP 0 rfl rfl 7 (by decide) (hts _ kw480) (fun _ h9 => h9) rfl dX6_term_137 ?_
                refine lv_iload_n hx hb dX6_term_140 rfl (lv_at hl 4 rfl) ?_
                refine va_iast hx hb hK hP hD hS 1 0 rfl rfl (by rcases hg with h | h <;> first | exact absurd h (by assumption) | exact okN_in hT (by decide) (k_lt_of h)) dX6_term_141 (fun H locs hP hD hS => ?_)
                have hP : va_P D vwCl [(h0, .inr (6, [.int v_thrown, .ref h0_costs, .ref h0_factors, .ref h0_literals, .ref h0_begins, .ref h0_bounds, .int v_constraints, .int v_terms, .int v_begun, .int v_done, .int v_over, .int v_set, .int v_ones, .ref h0_trail, .ref h0_choice, .int v_depth, .int v_searchSet, .int v_searchOnes, .int v_best, .int v_bestOnes, .int v_made, .ref h0_log, .int v_size, .int v_answer, .int v_looked, .int v_place, .int v_waiting, .ref h0_waitSet, .ref h0_waitOnes, .ref h0_waitDead])), (h0_factors, .inl (cI, 120, .inl (upd v_factors v_terms.toNatClampNeg x1))), (h0_literals, .inl (cI, 120, .inl v_literals)), (h0_begins, .inl (cI, 22, .inl v_begins))] H := hP
                have hD : va_D _ [(h0, .inr (6, [.int v_thrown, .ref h0_costs, .ref h0_factors, .ref h0_literals, .ref h0_begins, .ref h0_bounds, .int v_constraints, .int v_terms, .int v_begun, .int v_done, .int v_over, .int v_set, .int v_ones, .ref h0_trail, .ref h0_choice, .int v_depth, .int v_searchSet, .int v_searchOnes, .int v_best, .int v_bestOnes, .int v_made, .ref h0_log, .int v_size, .int v_answer, .int v_looked, .int v_place, .int v_waiting, .ref h0_waitSet, .ref h0_waitOnes, .ref h0_waitDead])), (h0_factors, .inl (cI, 120, .inl (upd v_factors v_terms.toNatClampNeg x1))), (h0_literals, .inl (cI, 120, .inl v_literals)), (h0_begins, .inl (cI, 22, .inl v_begins))] := hD
                refine lv_aload_n hx hb dX6_term_142 rfl (lv_at hl 3 rfl) ?_
                refine va_get (D := D) hx hb hts inX6 hown hK hP 0 rfl rfl 3 (by decide) (hts _ kw476) (fun _ h9 => h9) rfl dX6_term_143 ?_
                refine lv_aload_n hx hb dX6_term_146 rfl (lv_at hl 3 rfl) ?_
                refine va_get (D := D) hx hb hts inX6 hown hK hP 0 rfl rfl 7 (by decide) (hts _ kw480) (fun _ h9 => h9) rfl dX6_term_147 ?_
                refine lv_iload_n hx hb dX6_term_150 rfl (lv_at hl 5 rfl) ?_
                refine va_iast hx hb hK hP hD hS 2 0 rfl rfl (by rcases hg with h | h <;> first | exact absurd h (by assumption) | exact okN_in hT (by decide) (k_lt_of h)) dX6_term_151 (fun H locs hP hD hS => ?_)
                have hP : va_P D vwCl [(h0, .inr (6, [.int v_thrown, .ref h0_costs, .ref h0_factors, .ref h0_literals, .ref h0_begins, .ref h0_bounds, .int v_constraints, .int v_terms, .int v_begun, .int v_done, .int v_over, .int v_set, .int v_ones, .ref h0_trail, .ref h0_choice, .int v_depth, .int v_searchSet, .int v_searchOnes, .int v_best, .int v_bestOnes, .int v_made, .ref h0_log, .int v_size, .int v_answer, .int v_looked, .int v_place, .int v_waiting, .ref h0_waitSet, .ref h0_waitOnes, .ref h0_waitDead])), (h0_factors, .inl (cI, 120, .inl (upd v_factors v_terms.toNatClampNeg x1))), (h0_literals, .inl (cI, 120, .inl (upd v_literals v_terms.toNatClampNeg x2))), (h0_begins, .inl (cI, 22, .inl v_begins))] H := hP
                have hD : va_D _ [(h0, .inr (6, [.int v_thrown, .ref h0_costs, .ref h0_factors, .ref h0_literals, .ref h0_begins, .ref h0_bounds, .int v_constraints, .int v_terms, .int v_begun, .int v_done, .int v_over, .int v_set, .int v_ones, .ref h0_trail, .ref h0_choice, .int v_depth, .int v_searchSet, .int v_searchOnes, .int v_best, .int v_bestOnes, .int v_made, .ref h0_log, .int v_size, .int v_answer, .int v_looked, .int v_place, .int v_waiting, .ref h0_waitSet, .ref h0_waitOnes, .ref h0_waitDead])), (h0_factors, .inl (cI, 120, .inl (upd v_factors v_terms.toNatClampNeg x1))), (h0_literals, .inl (cI, 120, .inl (upd v_literals v_terms.toNatClampNeg x2))), (h0_begins, .inl (cI, 22, .inl v_begins))] := hD
                refine lv_aload_n hx hb dX6_term_152 rfl (lv_at hl 3 rfl) ?_
                refine lv_dup hx hb dX6_term_153 rfl ?_
                refine va_get (D := D) hx hb hts inX6 hown hK hP 0 rfl rfl 7 (by decide) (hts _ kw480) (fun _ h9 => h9) rfl dX6_term_154 ?_
                refine lv_iconst (v := 1) hx hb dX6_term_157 (by decide) ?_
                refine lv_iadd hx hb dX6_term_158 ?_
                refine va_put (D := D) (v := .int (v_terms + 1)) (ty := .int) hx hb hts inX6 tyX6 tyX6_ok nmX6 hown hK hP hD hS 0 rfl rfl 7 (by decide) (hts _ kw480) (fun _ h9 => h9) rfl (by decide +kernel) rfl rfl (Nat.le_of_ble_eq_true rfl) dX6_term_159 (fun H locs hP hD hS => ?_)
                have hP : va_P D vwCl [(h0, .inr (6, [.int v_thrown, .ref h0_costs, .ref h0_factors, .ref h0_literals, .ref h0_begins, .ref h0_bounds, .int v_constraints, .int (v_terms + 1), .int v_begun, .int v_done, .int v_over, .int v_set, .int v_ones, .ref h0_trail, .ref h0_choice, .int v_depth, .int v_searchSet, .int v_searchOnes, .int v_best, .int v_bestOnes, .int v_made, .ref h0_log, .int v_size, .int v_answer, .int v_looked, .int v_place, .int v_waiting, .ref h0_waitSet, .ref h0_waitOnes, .ref h0_waitDead])), (h0_factors, .inl (cI, 120, .inl (upd v_factors v_terms.toNatClampNeg x1))), (h0_literals, .inl (cI, 120, .inl (upd v_literals v_terms.toNatClampNeg x2))), (h0_begins, .inl (cI, 22, .inl v_begins))] H := hP
                have hD : va_D _ [(h0, .inr (6, [.int v_thrown, .ref h0_costs, .ref h0_factors, .ref h0_literals, .ref h0_begins, .ref h0_bounds, .int v_constraints, .int (v_terms + 1), .int v_begun, .int v_done, .int v_over, .int v_set, .int v_ones, .ref h0_trail, .ref h0_choice, .int v_depth, .int v_searchSet, .int v_searchOnes, .int v_best, .int v_bestOnes, .int v_made, .ref h0_log, .int v_size, .int v_answer, .int v_looked, .int v_place, .int v_waiting, .ref h0_waitSet, .ref h0_waitOnes, .ref h0_waitDead])), (h0_factors, .inl (cI, 120, .inl (upd v_factors v_terms.toNatClampNeg x1))), (h0_literals, .inl (cI, 120, .inl (upd v_literals v_terms.toNatClampNeg x2))), (h0_begins, .inl (cI, 22, .inl v_begins))] := hD
                refine lv_iconst (v := 0) hx hb dX6_term_162 (by decide) ?_
                exact wreti hx hb hr hlocks (by rw [hF]) (by rw [hF]; exact hP) hS dX6_term_163
              · have hF := hF.trans (if_pos c_6)
                refine lv_iconst (v := (-1)) hx hb dX6_term_130 (by decide) ?_
                exact wreti hx hb hr hlocks (by rw [hF]) (by rw [hF]; exact hP) hS dX6_term_131
            · have hF := hF.trans (if_neg c_5)
              refine lv_aload_n hx hb dX6_term_89 rfl (lv_at hl 3 rfl) ?_
              refine va_get (D := D) hx hb hts inX6 hown hK hP 0 rfl rfl 3 (by decide) (hts _ kw476) (fun _ h9 => h9) rfl dX6_term_90 ?_
              refine lv_iload hx hb dX6_term_93 (lv_at hl 1 rfl) ?_
              refine va_iald hx hb hK hP 2 0 rfl rfl (k_in ek (by have := okC_lt ek eT hk1 (by assumption); omega) (by decide)) dX6_term_95 ?_
              refine lv_iload_n hx hb dX6_term_96 rfl (lv_at hl 5 rfl) ?_
              refine lv_icmp_eq (tgt := 116) hx hb dX6_term_97 (by decide) (fun c_7 => ?_) (fun c_7 => ?_)
              · have hF := hF.trans (if_pos c_7)
                refine lv_iconst (v := 0) hx hb dX6_term_116 (by decide) ?_
                refine lv_istore (lv' := [(4, .int 0), (5, .int l5), (3, .int (-x2)), (0, .ref h0), (1, .int x1), (2, .int x2)]) hx hb dX6_term_117 hl (by decide) rfl (fun ls hl => ?_)
                refine lv_iinc (v := l5 + 1) (lv' := [(5, .int (l5 + 1)), (4, .int 0), (3, .int (-x2)), (0, .ref h0), (1, .int x1), (2, .int x2)]) hx hb dX6_term_119 hl (k := 1) rfl rfl (by decide) rfl (fun ls hl => ?_)
                refine lv_goto (tgt := 75) hx hb dX6_term_122 (by decide) ?_
                exact ih (k + 1) 0 (l5 + 1) ⟨k_s ek, by have := okC_lt ek eT hk1 (by assumption); omega, by omega⟩ (by first | exact Or.inl rfl | (rcases hg with h | h <;> first | exact absurd h (by assumption) | exact Or.inr h)) hF H locs hP hD hS ls (lv_sub hl [1, 0, 2, 3, 4, 5] rfl)
              · have hF := hF.trans (if_neg c_7)
                refine lv_aload_n hx hb dX6_term_100 rfl (lv_at hl 3 rfl) ?_
                refine va_get (D := D) hx hb hts inX6 hown hK hP 0 rfl rfl 3 (by decide) (hts _ kw476) (fun _ h9 => h9) rfl dX6_term_101 ?_
                refine lv_iload hx hb dX6_term_104 (lv_at hl 1 rfl) ?_
                refine va_iald hx hb hK hP 2 0 rfl rfl (k_in ek (by have := okC_lt ek eT hk1 (by assumption); omega) (by decide)) dX6_term_106 ?_
                refine lv_iload_n hx hb dX6_term_107 rfl (lv_at hl 5 rfl) ?_
                refine lv_ineg hx hb dX6_term_108 ?_
                refine lv_icmp_eq (tgt := 116) hx hb dX6_term_109 (by decide) (fun c_8 => ?_) (fun c_8 => ?_)
                · have hF := hF.trans (if_pos c_8)
                  refine lv_iconst (v := 0) hx hb dX6_term_116 (by decide) ?_
                  refine lv_istore (lv' := [(4, .int 0), (5, .int l5), (3, .int (-x2)), (0, .ref h0), (1, .int x1), (2, .int x2)]) hx hb dX6_term_117 hl (by decide) rfl (fun ls hl => ?_)
                  refine lv_iinc (v := l5 + 1) (lv' := [(5, .int (l5 + 1)), (4, .int 0), (3, .int (-x2)), (0, .ref h0), (1, .int x1), (2, .int x2)]) hx hb dX6_term_119 hl (k := 1) rfl rfl (by decide) rfl (fun ls hl => ?_)
                  refine lv_goto (tgt := 75) hx hb dX6_term_122 (by decide) ?_
                  exact ih (k + 1) 0 (l5 + 1) ⟨k_s ek, by have := okC_lt ek eT hk1 (by assumption); omega, by omega⟩ (by first | exact Or.inl rfl | (rcases hg with h | h <;> first | exact absurd h (by assumption) | exact Or.inr h)) hF H locs hP hD hS ls (lv_sub hl [1, 0, 2, 3, 4, 5] rfl)
                · have hF := hF.trans (if_neg c_8)
                  refine lv_iconst (v := 1) hx hb dX6_term_112 (by decide) ?_
                  refine lv_goto (tgt := 117) hx hb dX6_term_113 (by decide) ?_
                  refine lv_istore (lv' := [(4, .int 1), (5, .int l5), (3, .int (-x2)), (0, .ref h0), (1, .int x1), (2, .int x2)]) hx hb dX6_term_117 hl (by decide) rfl (fun ls hl => ?_)
                  refine lv_iinc (v := l5 + 1) (lv' := [(5, .int (l5 + 1)), (4, .int 1), (3, .int (-x2)), (0, .ref h0), (1, .int x1), (2, .int x2)]) hx hb dX6_term_119 hl (k := 1) rfl rfl (by decide) rfl (fun ls hl => ?_)
                  refine lv_goto (tgt := 75) hx hb dX6_term_122 (by decide) ?_
                  exact ih (k + 1) 1 (l5 + 1) ⟨k_s ek, by have := okC_lt ek eT hk1 (by assumption); omega, by omega⟩ (by first | exact Or.inl rfl | (rcases hg with h | h <;> first | exact absurd h (by assumption) | exact Or.inr h)) hF H locs hP hD hS ls (lv_sub hl [1, 0, 2, 3, 4, 5] rfl)
      exact loop75 121 B 0 (v_begins v_constraints.toNatClampNeg) ⟨eB, by omega, by omega⟩ (by first | exact Or.inl rfl | exact Or.inr (by assumption)) hF _ _ hP hD hS ls (lv_sub hl [1, 0, 2, 3, 4, 5] rfl)
    · have hF := hF.trans (if_pos c_9)
      refine lv_iload_n hx hb dX6_term_18 rfl (lv_at hl 2 rfl) ?_
      refine lv_iconst (v := 1) hx hb dX6_term_19 (by decide) ?_
      refine lv_sipush (v := 32767) hx hb dX6_term_20 (by decide) ?_
      have hPc : va_P D vwCl [] _ := hP.sub [] rfl
      refine rback (va_runS (As := [.int x1, .int 1, .int 32767]) (rest := []) ⟨hx, hb, hml, hown, hts⟩ (ctX6_isIn l D cI cZ x1 1 32767) ⟨(cB hts kw570 kw568 kw58 pmX6_isIn ⟨Nat.le_of_ble_eq_true rfl, Nat.le_of_ble_eq_true rfl⟩), hts _ kw569⟩ ⟨rPc_blind, rpre hPc hK hN⟩ rfl rfl hl.1 rfl (lv_room (Nat.le_of_ble_eq_true rfl)) dX6_term_23 ⟨Nat.zero_le _, Nat.zero_le _⟩) ?_
      refine lv_if_eq (tgt := 61) hx hb dX6_term_26 (by decide) (fun c_9 => ?_) (fun c_9 => ?_)
      · have hF := hF.trans (if_pos c_9)
        refine lv_iconst (v := 0) hx hb dX6_term_61 (by decide) ?_
        refine lv_istore (lv' := [(4, .int 0), (3, .int (-x2)), (0, .ref h0), (1, .int x1), (2, .int x2)]) hx hb dX6_term_62 hl (by decide) rfl (fun ls hl => ?_)
        refine lv_aload_n hx hb dX6_term_64 rfl (lv_at hl 2 rfl) ?_
        refine va_get (D := D) hx hb hts inX6 hown hK hP 0 rfl rfl 4 (by decide) (hts _ kw477) (fun _ h9 => h9) rfl dX6_term_65 ?_
        refine lv_aload_n hx hb dX6_term_68 rfl (lv_at hl 2 rfl) ?_
        refine va_get (D := D) hx hb hts inX6 hown hK hP 0 rfl rfl 6 (by decide) (hts _ kw479) (fun _ h9 => h9) rfl dX6_term_69 ?_
        refine va_iald hx hb hK hP 3 0 rfl rfl (okN_inS hCn (by decide) (by decide)) dX6_term_72 ?_
        refine lv_istore (lv' := [(5, .int (v_begins v_constraints.toNatClampNeg)), (4, .int 0), (3, .int (-x2)), (0, .ref h0), (1, .int x1), (2, .int x2)]) hx hb dX6_term_73 hl (by decide) rfl (fun ls hl => ?_)
        have loop75 : ∀ (n : Nat) (k : Nat) (l4 : Int32) (l5 : Int32) , (l5 = nI k ∧ k ≤ 120 ∧ 120 < k + n) → (l4 = 0 ∨ ¬ (120 : Int32) ≤ v_terms) → fX6_term x1 x2 v_constraints v_terms v_begun v_factors v_literals v_begins = fX6_term_L75 x1 x2 v_constraints v_terms v_begun v_factors v_literals v_begins n l4 l5 → ∀ (H : Heap) (locs : List Loc), va_P D vwCl [(h0, .inr (6, [.int v_thrown, .ref h0_costs, .ref h0_factors, .ref h0_literals, .ref h0_begins, .ref h0_bounds, .int v_constraints, .int v_terms, .int v_begun, .int v_done, .int v_over, .int v_set, .int v_ones, .ref h0_trail, .ref h0_choice, .int v_depth, .int v_searchSet, .int v_searchOnes, .int v_best, .int v_bestOnes, .int v_made, .ref h0_log, .int v_size, .int v_answer, .int v_looked, .int v_place, .int v_waiting, .ref h0_waitSet, .ref h0_waitOnes, .ref h0_waitDead])), (h0_factors, .inl (cI, 120, .inl v_factors)), (h0_literals, .inl (cI, 120, .inl v_literals)), (h0_begins, .inl (cI, 22, .inl v_begins))] H → va_D (aw [(h0, .inr (6, [.int v_thrown, .ref h0_costs, .ref h0_factors, .ref h0_literals, .ref h0_begins, .ref h0_bounds, .int v_constraints, .int v_terms, .int v_begun, .int v_done, .int v_over, .int v_set, .int v_ones, .ref h0_trail, .ref h0_choice, .int v_depth, .int v_searchSet, .int v_searchOnes, .int v_best, .int v_bestOnes, .int v_made, .ref h0_log, .int v_size, .int v_answer, .int v_looked, .int v_place, .int v_waiting, .ref h0_waitSet, .ref h0_waitOnes, .ref h0_waitDead])), (h0_factors, .inl (cI, 120, .inl v_factors)), (h0_literals, .inl (cI, 120, .inl v_literals)), (h0_begins, .inl (cI, 22, .inl v_begins))]) [(h0, .inr (6, [.int v_thrown, .ref h0_costs, .ref h0_factors, .ref h0_literals, .ref h0_begins, .ref h0_bounds, .int v_constraints, .int v_terms, .int v_begun, .int v_done, .int v_over, .int v_set, .int v_ones, .ref h0_trail, .ref h0_choice, .int v_depth, .int v_searchSet, .int v_searchOnes, .int v_best, .int v_bestOnes, .int v_made, .ref h0_log, .int v_size, .int v_answer, .int v_looked, .int v_place, .int v_waiting, .ref h0_waitSet, .ref h0_waitOnes, .ref h0_waitDead])), (h0_factors, .inl (cI, 120, .inl v_factors)), (h0_literals, .inl (cI, 120, .inl v_literals)), (h0_begins, .inl (cI, 22, .inl v_begins))] → va_S (aw [(h0, .inr (6, [.int v_thrown, .ref h0_costs, .ref h0_factors, .ref h0_literals, .ref h0_begins, .ref h0_bounds, .int v_constraints, .int v_terms, .int v_begun, .int v_done, .int v_over, .int v_set, .int v_ones, .ref h0_trail, .ref h0_choice, .int v_depth, .int v_searchSet, .int v_searchOnes, .int v_best, .int v_bestOnes, .int v_made, .ref h0_log, .int v_size, .int v_answer, .int v_looked, .int v_place, .int v_waiting, .ref h0_waitSet, .ref h0_waitOnes, .ref h0_waitDead])), (h0_factors, .inl (cI, 120, .inl v_factors)), (h0_literals, .inl (cI, 120, .inl v_literals)), (h0_begins, .inl (cI, 22, .inl v_begins))]) s.heap H locs → ∀ ls : Array Slot, lv_has ls 6 [(4, .int l4), (5, .int l5), (3, .int (-x2)), (0, .ref h0), (1, .int x1), (2, .int x2)] → W p l e { frames := 1, cells := 0, slots := 0, locals := 22 } s m [.ref h0, .int x1, .int x2].toArray below meth c H locs 0 0 (MQ below (wQ D (some (.int ((fX6_term x1 x2 v_constraints v_terms v_begun v_factors v_literals v_begins).1))) [(h0, .inr (6, [.int v_thrown, .ref h0_costs, .ref h0_factors, .ref h0_literals, .ref h0_begins, .ref h0_bounds, .int v_constraints, .int v_terms, .int v_begun, .int v_done, .int v_over, .int v_set, .int v_ones, .ref h0_trail, .ref h0_choice, .int v_depth, .int v_searchSet, .int v_searchOnes, .int v_best, .int v_bestOnes, .int v_made, .ref h0_log, .int v_size, .int v_answer, .int v_looked, .int v_place, .int v_waiting, .ref h0_waitSet, .ref h0_waitOnes, .ref h0_waitDead])), (h0_factors, .inl (cI, 120, .inl v_factors)), (h0_literals, .inl (cI, 120, .inl v_literals)), (h0_begins, .inl (cI, 22, .inl v_begins))] [(h0, .inr (6, [.int v_thrown, .ref h0_costs, .ref h0_factors, .ref h0_literals, .ref h0_begins, .ref h0_bounds, .int v_constraints, .int ((fX6_term x1 x2 v_constraints v_terms v_begun v_factors v_literals v_begins).2.1), .int v_begun, .int v_done, .int v_over, .int v_set, .int v_ones, .ref h0_trail, .ref h0_choice, .int v_depth, .int v_searchSet, .int v_searchOnes, .int v_best, .int v_bestOnes, .int v_made, .ref h0_log, .int v_size, .int v_answer, .int v_looked, .int v_place, .int v_waiting, .ref h0_waitSet, .ref h0_waitOnes, .ref h0_waitDead])), (h0_factors, .inl (cI, 120, .inl ((fX6_term x1 x2 v_constraints v_terms v_begun v_factors v_literals v_begins).2.2.1))), (h0_literals, .inl (cI, 120, .inl ((fX6_term x1 x2 v_constraints v_terms v_begun v_factors v_literals v_begins).2.2.2))), (h0_begins, .inl (cI, 22, .inl v_begins))]) [.ref h0, .int x1, .int x2].toArray s 0 0 (aw [(h0, .inr (6, [.int v_thrown, .ref h0_costs, .ref h0_factors, .ref h0_literals, .ref h0_begins, .ref h0_bounds, .int v_constraints, .int v_terms, .int v_begun, .int v_done, .int v_over, .int v_set, .int v_ones, .ref h0_trail, .ref h0_choice, .int v_depth, .int v_searchSet, .int v_searchOnes, .int v_best, .int v_bestOnes, .int v_made, .ref h0_log, .int v_size, .int v_answer, .int v_looked, .int v_place, .int v_waiting, .ref h0_waitSet, .ref h0_waitOnes, .ref h0_waitDead])), (h0_factors, .inl (cI, 120, .inl v_factors)), (h0_literals, .inl (cI, 120, .inl v_literals)), (h0_begins, .inl (cI, 22, .inl v_begins))])) (F0 m 75 ls []) := by
          intro n
          induction n with
          | zero =>
            intro k l4 l5 hk hg hF
            exact (by obtain ⟨_, h2, h3⟩ := hk; exact absurd h3 (by omega))
          | succ n ih =>
            intro k l4 l5 hk hg hF H locs hP hD hS ls hl
            have hF := hF.trans (fX6_term_L75.eq_2 ..)
            obtain ⟨ek, hk1, hk2⟩ := hk
            refine lv_iload hx hb dX6_term_75 (lv_at hl 0 rfl) ?_
            refine lv_if_eq (tgt := 125) hx hb dX6_term_77 (by decide) (fun c_3 => ?_) (fun c_3 => ?_)
            · have hF := hF.trans (if_pos c_3)
              refine lv_iload hx hb dX6_term_125 (lv_at hl 0 rfl) ?_
              refine lv_if_ne (tgt := 132) hx hb dX6_term_127 (by decide) (fun c_4 => ?_) (fun c_4 => ?_)
              · have hF := hF.trans (if_neg c_4)
                refine lv_aload_n hx hb dX6_term_132 rfl (lv_at hl 3 rfl) ?_
                refine va_get (D := D) hx hb hts inX6 hown hK hP 0 rfl rfl 2 (by decide) (hts _ kw475) (fun _ h9 => h9) rfl dX6_term_133 ?_
                refine lv_aload_n hx hb dX6_term_136 rfl (lv_at hl 3 rfl) ?_
                refine va_get (D := D) hx hb hts inX6 hown hK hP 0 rfl rfl 7 (by decide) (hts _ kw480) (fun _ h9 => h9) rfl dX6_term_137 ?_
                refine lv_iload_n hx hb dX6_term_140 rfl (lv_at hl 4 rfl) ?_
                refine va_iast hx hb hK hP hD hS 1 0 rfl rfl (by rcases hg with h | h <;> first | exact absurd h (by assumption) | exact okN_in hT (by decide) (k_lt_of h)) dX6_term_141 (fun H locs hP hD hS => ?_)
                have hP : va_P D vwCl [(h0, .inr (6, [.int v_thrown, .ref h0_costs, .ref h0_factors, .ref h0_literals, .ref h0_begins, .ref h0_bounds, .int v_constraints, .int v_terms, .int v_begun, .int v_done, .int v_over, .int v_set, .int v_ones, .ref h0_trail, .ref h0_choice, .int v_depth, .int v_searchSet, .int v_searchOnes, .int v_best, .int v_bestOnes, .int v_made, .ref h0_log, .int v_size, .int v_answer, .int v_looked, .int v_place, .int v_waiting, .ref h0_waitSet, .ref h0_waitOnes, .ref h0_waitDead])), (h0_factors, .inl (cI, 120, .inl (upd v_factors v_terms.toNatClampNeg x1))), (h0_literals, .inl (cI, 120, .inl v_literals)), (h0_begins, .inl (cI, 22, .inl v_begins))] H := hP
                have hD : va_D _ [(h0, .inr (6, [.int v_thrown, .ref h0_costs, .ref h0_factors, .ref h0_literals, .ref h0_begins, .ref h0_bounds, .int v_constraints, .int v_terms, .int v_begun, .int v_done, .int v_over, .int v_set, .int v_ones, .ref h0_trail, .ref h0_choice, .int v_depth, .int v_searchSet, .int v_searchOnes, .int v_best, .int v_bestOnes, .int v_made, .ref h0_log, .int v_size, .int v_answer, .int v_looked, .int v_place, .int v_waiting, .ref h0_waitSet, .ref h0_waitOnes, .ref h0_waitDead])), (h0_factors, .inl (cI, 120, .inl (upd v_factors v_terms.toNatClampNeg x1))), (h0_literals, .inl (cI, 120, .inl v_literals)), (h0_begins, .inl (cI, 22, .inl v_begins))] := hD
                refine lv_aload_n hx hb dX6_term_142 rfl (lv_at hl 3 rfl) ?_
                refine va_get (D := D) hx hb hts inX6 hown hK hP 0 rfl rfl 3 (by decide) (hts _ kw476) (fun _ h9 => h9) rfl dX6_term_143 ?_
                refine lv_aload_n hx hb dX6_term_146 rfl (lv_at hl 3 rfl) ?_
                refine va_get (D := D) hx hb hts inX6 hown hK hP 0 rfl rfl 7 (by decide) (hts _ kw480) (fun _ h9 => h9) rfl dX6_term_147 ?_
                refine lv_iload_n hx hb dX6_term_150 rfl (lv_at hl 5 rfl) ?_
                refine va_iast hx hb hK hP hD hS 2 0 rfl rfl (by rcases hg with h | h <;> first | exact absurd h (by assumption) | exact okN_in hT (by decide) (k_lt_of h)) dX6_term_151 (fun H locs hP hD hS => ?_)
                have hP : va_P D vwCl [(h0, .inr (6, [.int v_thrown, .ref h0_costs, .ref h0_factors, .ref h0_literals, .ref h0_begins, .ref h0_bounds, .int v_constraints, .int v_terms, .int v_begun, .int v_done, .int v_over, .int v_set, .int v_ones, .ref h0_trail, .ref h0_choice, .int v_depth, .int v_searchSet, .int v_searchOnes, .int v_best, .int v_bestOnes, .int v_made, .ref h0_log, .int v_size, .int v_answer, .int v_looked, .int v_place, .int v_waiting, .ref h0_waitSet, .ref h0_waitOnes, .ref h0_waitDead])), (h0_factors, .inl (cI, 120, .inl (upd v_factors v_terms.toNatClampNeg x1))), (h0_literals, .inl (cI, 120, .inl (upd v_literals v_terms.toNatClampNeg x2))), (h0_begins, .inl (cI, 22, .inl v_begins))] H := hP
                have hD : va_D _ [(h0, .inr (6, [.int v_thrown, .ref h0_costs, .ref h0_factors, .ref h0_literals, .ref h0_begins, .ref h0_bounds, .int v_constraints, .int v_terms, .int v_begun, .int v_done, .int v_over, .int v_set, .int v_ones, .ref h0_trail, .ref h0_choice, .int v_depth, .int v_searchSet, .int v_searchOnes, .int v_best, .int v_bestOnes, .int v_made, .ref h0_log, .int v_size, .int v_answer, .int v_looked, .int v_place, .int v_waiting, .ref h0_waitSet, .ref h0_waitOnes, .ref h0_waitDead])), (h0_factors, .inl (cI, 120, .inl (upd v_factors v_terms.toNatClampNeg x1))), (h0_literals, .inl (cI, 120, .inl (upd v_literals v_terms.toNatClampNeg x2))), (h0_begins, .inl (cI, 22, .inl v_begins))] := hD
                refine lv_aload_n hx hb dX6_term_152 rfl (lv_at hl 3 rfl) ?_
                refine lv_dup hx hb dX6_term_153 rfl ?_
                refine va_get (D := D) hx hb hts inX6 hown hK hP 0 rfl rfl 7 (by decide) (hts _ kw480) (fun _ h9 => h9) rfl dX6_term_154 ?_
                refine lv_iconst (v := 1) hx hb dX6_term_157 (by decide) ?_
                refine lv_iadd hx hb dX6_term_158 ?_
                refine va_put (D := D) (v := .int (v_terms + 1)) (ty := .int) hx hb hts inX6 tyX6 tyX6_ok nmX6 hown hK hP hD hS 0 rfl rfl 7 (by decide) (hts _ kw480) (fun _ h9 => h9) rfl (by decide +kernel) rfl rfl (Nat.le_of_ble_eq_true rfl) dX6_term_159 (fun H locs hP hD hS => ?_)
                have hP : va_P D vwCl [(h0, .inr (6, [.int v_thrown, .ref h0_costs, .ref h0_factors, .ref h0_literals, .ref h0_begins, .ref h0_bounds, .int v_constraints, .int (v_terms + 1), .int v_begun, .int v_done, .int v_over, .int v_set, .int v_ones, .ref h0_trail, .ref h0_choice, .int v_depth, .int v_searchSet, .int v_searchOnes, .int v_best, .int v_bestOnes, .int v_made, .ref h0_log, .int v_size, .int v_answer, .int v_looked, .int v_place, .int v_waiting, .ref h0_waitSet, .ref h0_waitOnes, .ref h0_waitDead])), (h0_factors, .inl (cI, 120, .inl (upd v_factors v_terms.toNatClampNeg x1))), (h0_literals, .inl (cI, 120, .inl (upd v_literals v_terms.toNatClampNeg x2))), (h0_begins, .inl (cI, 22, .inl v_begins))] H := hP
                have hD : va_D _ [(h0, .inr (6, [.int v_thrown, .ref h0_costs, .ref h0_factors, .ref h0_literals, .ref h0_begins, .ref h0_bounds, .int v_constraints, .int (v_terms + 1), .int v_begun, .int v_done, .int v_over, .int v_set, .int v_ones, .ref h0_trail, .ref h0_choice, .int v_depth, .int v_searchSet, .int v_searchOnes, .int v_best, .int v_bestOnes, .int v_made, .ref h0_log, .int v_size, .int v_answer, .int v_looked, .int v_place, .int v_waiting, .ref h0_waitSet, .ref h0_waitOnes, .ref h0_waitDead])), (h0_factors, .inl (cI, 120, .inl (upd v_factors v_terms.toNatClampNeg x1))), (h0_literals, .inl (cI, 120, .inl (upd v_literals v_terms.toNatClampNeg x2))), (h0_begins, .inl (cI, 22, .inl v_begins))] := hD
                refine lv_iconst (v := 0) hx hb dX6_term_162 (by decide) ?_
                exact wreti hx hb hr hlocks (by rw [hF]) (by rw [hF]; exact hP) hS dX6_term_163
              · have hF := hF.trans (if_pos c_4)
                refine lv_iconst (v := (-1)) hx hb dX6_term_130 (by decide) ?_
                exact wreti hx hb hr hlocks (by rw [hF]) (by rw [hF]; exact hP) hS dX6_term_131
            · have hF := hF.trans (if_neg c_3)
              refine lv_iload hx hb dX6_term_80 (lv_at hl 1 rfl) ?_
              refine lv_aload_n hx hb dX6_term_82 rfl (lv_at hl 3 rfl) ?_
              refine va_get (D := D) hx hb hts inX6 hown hK hP 0 rfl rfl 7 (by decide) (hts _ kw480) (fun _ h9 => h9) rfl dX6_term_83 ?_
              refine lv_icmp_ge (tgt := 125) hx hb dX6_term_86 (by decide) (fun c_5 => ?_) (fun c_5 => ?_)
              · have hF := hF.trans (if_pos c_5)
                refine lv_iload hx hb dX6_term_125 (lv_at hl 0 rfl) ?_
                refine lv_if_ne (tgt := 132) hx hb dX6_term_127 (by decide) (fun c_6 => ?_) (fun c_6 => ?_)
                · have hF := hF.trans (if_neg c_6)
                  refine lv_aload_n hx hb dX6_term_132 rfl (lv_at hl 3 rfl) ?_
                  refine va_get (D := D) hx hb hts inX6 hown hK hP 0 rfl rfl 2 (by decide) (hts _ kw475) (fun _ h9 => h9) rfl dX6_term_133 ?_
                  refine lv_aload_n hx hb dX6_term_136 rfl (lv_at hl 3 rfl) ?_
                  refine va_get (D := D) hx hb hts inX6 hown hK hP 0 rfl rfl 7 (by decide) (hts _ kw480) (fun _ h9 => h9) rfl dX6_term_137 ?_
                  refine lv_iload_n hx hb dX6_term_140 rfl (lv_at hl 4 rfl) ?_
                  refine va_iast hx hb hK hP hD hS 1 0 rfl rfl (by rcases hg with h | h <;> first | exact absurd h (by assumption) | exact okN_in hT (by decide) (k_lt_of h)) dX6_term_141 (fun H locs hP hD hS => ?_)
                  have hP : va_P D vwCl [(h0, .inr (6, [.int v_thrown, .ref h0_costs, .ref h0_factors, .ref h0_literals, .ref h0_begins, .ref h0_bounds, .int v_constraints, .int v_terms, .int v_begun, .int v_done, .int v_over, .int v_set, .int v_ones, .ref h0_trail, .ref h0_choice, .int v_depth, .int v_searchSet, .int v_searchOnes, .int v_best, .int v_bestOnes, .int v_made, .ref h0_log, .int v_size, .int v_answer, .int v_looked, .int v_place, .int v_waiting, .ref h0_waitSet, .ref h0_waitOnes, .ref h0_waitDead])), (h0_factors, .inl (cI, 120, .inl (upd v_factors v_terms.toNatClampNeg x1))), (h0_literals, .inl (cI, 120, .inl v_literals)), (h0_begins, .inl (cI, 22, .inl v_begins))] H := hP
                  have hD : va_D _ [(h0, .inr (6, [.int v_thrown, .ref h0_costs, .ref h0_factors, .ref h0_literals, .ref h0_begins, .ref h0_bounds, .int v_constraints, .int v_terms, .int v_begun, .int v_done, .int v_over, .int v_set, .int v_ones, .ref h0_trail, .ref h0_choice, .int v_depth, .int v_searchSet, .int v_searchOnes, .int v_best, .int v_bestOnes, .int v_made, .ref h0_log, .int v_size, .int v_answer, .int v_looked, .int v_place, .int v_waiting, .ref h0_waitSet, .ref h0_waitOnes, .ref h0_waitDead])), (h0_factors, .inl (cI, 120, .inl (upd v_factors v_terms.toNatClampNeg x1))), (h0_literals, .inl (cI, 120, .inl v_literals)), (h0_begins, .inl (cI, 22, .inl v_begins))] := hD
                  refine lv_aload_n hx hb dX6_term_142 rfl (lv_at hl 3 rfl) ?_
                  refine va_get (D := D) hx hb hts inX6 hown hK hP 0 rfl rfl 3 (by decide) (hts _ kw476) (fun _ h9 => h9) rfl dX6_term_143 ?_
                  refine lv_aload_n hx hb dX6_term_146 rfl (lv_at hl 3 rfl) ?_
                  refine va_get (D := D) hx hb hts inX6 hown hK hP 0 rfl rfl 7 (by decide) (hts _ kw480) (fun _ h9 => h9) rfl dX6_term_147 ?_
                  refine lv_iload_n hx hb dX6_term_150 rfl (lv_at hl 5 rfl) ?_
                  refine va_iast hx hb hK hP hD hS 2 0 rfl rfl (by rcases hg with h | h <;> first | exact absurd h (by assumption) | exact okN_in hT (by decide) (k_lt_of h)) dX6_term_151 (fun H locs hP hD hS => ?_)
                  have hP : va_P D vwCl [(h0, .inr (6, [.int v_thrown, .ref h0_costs, .ref h0_factors, .ref h0_literals, .ref h0_begins, .ref h0_bounds, .int v_constraints, .int v_terms, .int v_begun, .int v_done, .int v_over, .int v_set, .int v_ones, .ref h0_trail, .ref h0_choice, .int v_depth, .int v_searchSet, .int v_searchOnes, .int v_best, .int v_bestOnes, .int v_made, .ref h0_log, .int v_size, .int v_answer, .int v_looked, .int v_place, .int v_waiting, .ref h0_waitSet, .ref h0_waitOnes, .ref h0_waitDead])), (h0_factors, .inl (cI, 120, .inl (upd v_factors v_terms.toNatClampNeg x1))), (h0_literals, .inl (cI, 120, .inl (upd v_literals v_terms.toNatClampNeg x2))), (h0_begins, .inl (cI, 22, .inl v_begins))] H := hP
                  have hD : va_D _ [(h0, .inr (6, [.int v_thrown, .ref h0_costs, .ref h0_factors, .ref h0_literals, .ref h0_begins, .ref h0_bounds, .int v_constraints, .int v_terms, .int v_begun, .int v_done, .int v_over, .int v_set, .int v_ones, .ref h0_trail, .ref h0_choice, .int v_depth, .int v_searchSet, .int v_searchOnes, .int v_best, .int v_bestOnes, .int v_made, .ref h0_log, .int v_size, .int v_answer, .int v_looked, .int v_place, .int v_waiting, .ref h0_waitSet, .ref h0_waitOnes, .ref h0_waitDead])), (h0_factors, .inl (cI, 120, .inl (upd v_factors v_terms.toNatClampNeg x1))), (h0_literals, .inl (cI, 120, .inl (upd v_literals v_terms.toNatClampNeg x2))), (h0_begins, .inl (cI, 22, .inl v_begins))] := hD
                  refine lv_aload_n hx hb dX6_term_152 rfl (lv_at hl 3 rfl) ?_
                  refine lv_dup hx hb dX6_term_153 rfl ?_
                  refine va_get (D := D) hx hb hts inX6 hown hK hP 0 rfl rfl 7 (by decide) (hts _ kw480) (fun _ h9 => h9) rfl dX6_term_154 ?_
                  refine lv_iconst (v := 1) hx hb dX6_term_157 (by decide) ?_
                  refine lv_iadd hx hb dX6_term_158 ?_
                  refine va_put (D := D) (v := .int (v_terms + 1)) (ty := .int) hx hb hts inX6 tyX6 tyX6_ok nmX6 hown hK hP hD hS 0 rfl rfl 7 (by decide) (hts _ kw480) (fun _ h9 => h9) rfl (by decide +kernel) rfl rfl (Nat.le_of_ble_eq_true rfl) dX6_term_159 (fun H locs hP hD hS => ?_)
                  have hP : va_P D vwCl [(h0, .inr (6, [.int v_thrown, .ref h0_costs, .ref h0_factors, .ref h0_literals, .ref h0_begins, .ref h0_bounds, .int v_constraints, .int (v_terms + 1), .int v_begun, .int v_done, .int v_over, .int v_set, .int v_ones, .ref h0_trail, .ref h0_choice, .int v_depth, .int v_searchSet, .int v_searchOnes, .int v_best, .int v_bestOnes, .int v_made, .ref h0_log, .int v_size, .int v_answer, .int v_looked, .int v_place, .int v_waiting, .ref h0_waitSet, .ref h0_waitOnes, .ref h0_waitDead])), (h0_factors, .inl (cI, 120, .inl (upd v_factors v_terms.toNatClampNeg x1))), (h0_literals, .inl (cI, 120, .inl (upd v_literals v_terms.toNatClampNeg x2))), (h0_begins, .inl (cI, 22, .inl v_begins))] H := hP
                  have hD : va_D _ [(h0, .inr (6, [.int v_thrown, .ref h0_costs, .ref h0_factors, .ref h0_literals, .ref h0_begins, .ref h0_bounds, .int v_constraints, .int (v_terms + 1), .int v_begun, .int v_done, .int v_over, .int v_set, .int v_ones, .ref h0_trail, .ref h0_choice, .int v_depth, .int v_searchSet, .int v_searchOnes, .int v_best, .int v_bestOnes, .int v_made, .ref h0_log, .int v_size, .int v_answer, .int v_looked, .int v_place, .int v_waiting, .ref h0_waitSet, .ref h0_waitOnes, .ref h0_waitDead])), (h0_factors, .inl (cI, 120, .inl (upd v_factors v_terms.toNatClampNeg x1))), (h0_literals, .inl (cI, 120, .inl (upd v_literals v_terms.toNatClampNeg x2))), (h0_begins, .inl (cI, 22, .inl v_begins))] := hD
                  refine lv_iconst (v := 0) hx hb dX6_term_162 (by decide) ?_
                  exact wreti hx hb hr hlocks (by rw [hF]) (by rw [hF]; exact hP) hS dX6_term_163
                · have hF := hF.trans (if_pos c_6)
                  refine lv_iconst (v := (-1)) hx hb dX6_term_130 (by decide) ?_
                  exact wreti hx hb hr hlocks (by rw [hF]) (by rw [hF]; exact hP) hS dX6_term_131
              · have hF := hF.trans (if_neg c_5)
                refine lv_aload_n hx hb dX6_term_89 rfl (lv_at hl 3 rfl) ?_
                refine va_get (D := D) hx hb hts inX6 hown hK hP 0 rfl rfl 3 (by decide) (hts _ kw476) (fun _ h9 => h9) rfl dX6_term_90 ?_
                refine lv_iload hx hb dX6_term_93 (lv_at hl 1 rfl) ?_
                refine va_iald hx hb hK hP 2 0 rfl rfl (k_in ek (by have := okC_lt ek eT hk1 (by assumption); omega) (by decide)) dX6_term_95 ?_
                refine lv_iload_n hx hb dX6_term_96 rfl (lv_at hl 5 rfl) ?_
                refine lv_icmp_eq (tgt := 116) hx hb dX6_term_97 (by decide) (fun c_7 => ?_) (fun c_7 => ?_)
                · have hF := hF.trans (if_pos c_7)
                  refine lv_iconst (v := 0) hx hb dX6_term_116 (by decide) ?_
                  refine lv_istore (lv' := [(4, .int 0), (5, .int l5), (3, .int (-x2)), (0, .ref h0), (1, .int x1), (2, .int x2)]) hx hb dX6_term_117 hl (by decide) rfl (fun ls hl => ?_)
                  refine lv_iinc (v := l5 + 1) (lv' := [(5, .int (l5 + 1)), (4, .int 0), (3, .int (-x2)), (0, .ref h0), (1, .int x1), (2, .int x2)]) hx hb dX6_term_119 hl (k := 1) rfl rfl (by decide) rfl (fun ls hl => ?_)
                  refine lv_goto (tgt := 75) hx hb dX6_term_122 (by decide) ?_
                  exact ih (k + 1) 0 (l5 + 1) ⟨k_s ek, by have := okC_lt ek eT hk1 (by assumption); omega, by omega⟩ (by first | exact Or.inl rfl | (rcases hg with h | h <;> first | exact absurd h (by assumption) | exact Or.inr h)) hF H locs hP hD hS ls (lv_sub hl [1, 0, 2, 3, 4, 5] rfl)
                · have hF := hF.trans (if_neg c_7)
                  refine lv_aload_n hx hb dX6_term_100 rfl (lv_at hl 3 rfl) ?_
                  refine va_get (D := D) hx hb hts inX6 hown hK hP 0 rfl rfl 3 (by decide) (hts _ kw476) (fun _ h9 => h9) rfl dX6_term_101 ?_
                  refine lv_iload hx hb dX6_term_104 (lv_at hl 1 rfl) ?_
                  refine va_iald hx hb hK hP 2 0 rfl rfl (k_in ek (by have := okC_lt ek eT hk1 (by assumption); omega) (by decide)) dX6_term_106 ?_
                  refine lv_iload_n hx hb dX6_term_107 rfl (lv_at hl 5 rfl) ?_
                  refine lv_ineg hx hb dX6_term_108 ?_
                  refine lv_icmp_eq (tgt := 116) hx hb dX6_term_109 (by decide) (fun c_8 => ?_) (fun c_8 => ?_)
                  · have hF := hF.trans (if_pos c_8)
                    refine lv_iconst (v := 0) hx hb dX6_term_116 (by decide) ?_
                    refine lv_istore (lv' := [(4, .int 0), (5, .int l5), (3, .int (-x2)), (0, .ref h0), (1, .int x1), (2, .int x2)]) hx hb dX6_term_117 hl (by decide) rfl (fun ls hl => ?_)
                    refine lv_iinc (v := l5 + 1) (lv' := [(5, .int (l5 + 1)), (4, .int 0), (3, .int (-x2)), (0, .ref h0), (1, .int x1), (2, .int x2)]) hx hb dX6_term_119 hl (k := 1) rfl rfl (by decide) rfl (fun ls hl => ?_)
                    refine lv_goto (tgt := 75) hx hb dX6_term_122 (by decide) ?_
                    exact ih (k + 1) 0 (l5 + 1) ⟨k_s ek, by have := okC_lt ek eT hk1 (by assumption); omega, by omega⟩ (by first | exact Or.inl rfl | (rcases hg with h | h <;> first | exact absurd h (by assumption) | exact Or.inr h)) hF H locs hP hD hS ls (lv_sub hl [1, 0, 2, 3, 4, 5] rfl)
                  · have hF := hF.trans (if_neg c_8)
                    refine lv_iconst (v := 1) hx hb dX6_term_112 (by decide) ?_
                    refine lv_goto (tgt := 117) hx hb dX6_term_113 (by decide) ?_
                    refine lv_istore (lv' := [(4, .int 1), (5, .int l5), (3, .int (-x2)), (0, .ref h0), (1, .int x1), (2, .int x2)]) hx hb dX6_term_117 hl (by decide) rfl (fun ls hl => ?_)
                    refine lv_iinc (v := l5 + 1) (lv' := [(5, .int (l5 + 1)), (4, .int 1), (3, .int (-x2)), (0, .ref h0), (1, .int x1), (2, .int x2)]) hx hb dX6_term_119 hl (k := 1) rfl rfl (by decide) rfl (fun ls hl => ?_)
                    refine lv_goto (tgt := 75) hx hb dX6_term_122 (by decide) ?_
                    exact ih (k + 1) 1 (l5 + 1) ⟨k_s ek, by have := okC_lt ek eT hk1 (by assumption); omega, by omega⟩ (by first | exact Or.inl rfl | (rcases hg with h | h <;> first | exact absurd h (by assumption) | exact Or.inr h)) hF H locs hP hD hS ls (lv_sub hl [1, 0, 2, 3, 4, 5] rfl)
        exact loop75 121 B 0 (v_begins v_constraints.toNatClampNeg) ⟨eB, by omega, by omega⟩ (by first | exact Or.inl rfl | exact Or.inr (by assumption)) hF _ _ hP hD hS ls (lv_sub hl [1, 0, 2, 3, 4, 5] rfl)
      · have hF := hF.trans (if_neg c_9)
        refine lv_iload_n hx hb dX6_term_29 rfl (lv_at hl 0 rfl) ?_
        refine lv_iconst (v := 1) hx hb dX6_term_30 (by decide) ?_
        refine lv_bipush (v := 16) hx hb dX6_term_31 (by decide) ?_
        have hPc : va_P D vwCl [] _ := hP.sub [] rfl
        refine rback (va_runS (As := [.int (-x2), .int 1, .int 16]) (rest := []) ⟨hx, hb, hml, hown, hts⟩ (ctX6_isIn l D cI cZ (-x2) 1 16) ⟨(cB hts kw570 kw568 kw58 pmX6_isIn ⟨Nat.le_of_ble_eq_true rfl, Nat.le_of_ble_eq_true rfl⟩), hts _ kw569⟩ ⟨rPc_blind, rpre hPc hK hN⟩ rfl rfl hl.1 rfl (lv_room (Nat.le_of_ble_eq_true rfl)) dX6_term_33 ⟨Nat.zero_le _, Nat.zero_le _⟩) ?_
        refine lv_if_eq (tgt := 61) hx hb dX6_term_36 (by decide) (fun c_9 => ?_) (fun c_9 => ?_)
        · have hF := hF.trans (if_pos c_9)
          refine lv_iconst (v := 0) hx hb dX6_term_61 (by decide) ?_
          refine lv_istore (lv' := [(4, .int 0), (3, .int (-x2)), (0, .ref h0), (1, .int x1), (2, .int x2)]) hx hb dX6_term_62 hl (by decide) rfl (fun ls hl => ?_)
          refine lv_aload_n hx hb dX6_term_64 rfl (lv_at hl 2 rfl) ?_
          refine va_get (D := D) hx hb hts inX6 hown hK hP 0 rfl rfl 4 (by decide) (hts _ kw477) (fun _ h9 => h9) rfl dX6_term_65 ?_
          refine lv_aload_n hx hb dX6_term_68 rfl (lv_at hl 2 rfl) ?_
          refine va_get (D := D) hx hb hts inX6 hown hK hP 0 rfl rfl 6 (by decide) (hts _ kw479) (fun _ h9 => h9) rfl dX6_term_69 ?_
          refine va_iald hx hb hK hP 3 0 rfl rfl (okN_inS hCn (by decide) (by decide)) dX6_term_72 ?_
          refine lv_istore (lv' := [(5, .int (v_begins v_constraints.toNatClampNeg)), (4, .int 0), (3, .int (-x2)), (0, .ref h0), (1, .int x1), (2, .int x2)]) hx hb dX6_term_73 hl (by decide) rfl (fun ls hl => ?_)
          have loop75 : ∀ (n : Nat) (k : Nat) (l4 : Int32) (l5 : Int32) , (l5 = nI k ∧ k ≤ 120 ∧ 120 < k + n) → (l4 = 0 ∨ ¬ (120 : Int32) ≤ v_terms) → fX6_term x1 x2 v_constraints v_terms v_begun v_factors v_literals v_begins = fX6_term_L75 x1 x2 v_constraints v_terms v_begun v_factors v_literals v_begins n l4 l5 → ∀ (H : Heap) (locs : List Loc), va_P D vwCl [(h0, .inr (6, [.int v_thrown, .ref h0_costs, .ref h0_factors, .ref h0_literals, .ref h0_begins, .ref h0_bounds, .int v_constraints, .int v_terms, .int v_begun, .int v_done, .int v_over, .int v_set, .int v_ones, .ref h0_trail, .ref h0_choice, .int v_depth, .int v_searchSet, .int v_searchOnes, .int v_best, .int v_bestOnes, .int v_made, .ref h0_log, .int v_size, .int v_answer, .int v_looked, .int v_place, .int v_waiting, .ref h0_waitSet, .ref h0_waitOnes, .ref h0_waitDead])), (h0_factors, .inl (cI, 120, .inl v_factors)), (h0_literals, .inl (cI, 120, .inl v_literals)), (h0_begins, .inl (cI, 22, .inl v_begins))] H → va_D (aw [(h0, .inr (6, [.int v_thrown, .ref h0_costs, .ref h0_factors, .ref h0_literals, .ref h0_begins, .ref h0_bounds, .int v_constraints, .int v_terms, .int v_begun, .int v_done, .int v_over, .int v_set, .int v_ones, .ref h0_trail, .ref h0_choice, .int v_depth, .int v_searchSet, .int v_searchOnes, .int v_best, .int v_bestOnes, .int v_made, .ref h0_log, .int v_size, .int v_answer, .int v_looked, .int v_place, .int v_waiting, .ref h0_waitSet, .ref h0_waitOnes, .ref h0_waitDead])), (h0_factors, .inl (cI, 120, .inl v_factors)), (h0_literals, .inl (cI, 120, .inl v_literals)), (h0_begins, .inl (cI, 22, .inl v_begins))]) [(h0, .inr (6, [.int v_thrown, .ref h0_costs, .ref h0_factors, .ref h0_literals, .ref h0_begins, .ref h0_bounds, .int v_constraints, .int v_terms, .int v_begun, .int v_done, .int v_over, .int v_set, .int v_ones, .ref h0_trail, .ref h0_choice, .int v_depth, .int v_searchSet, .int v_searchOnes, .int v_best, .int v_bestOnes, .int v_made, .ref h0_log, .int v_size, .int v_answer, .int v_looked, .int v_place, .int v_waiting, .ref h0_waitSet, .ref h0_waitOnes, .ref h0_waitDead])), (h0_factors, .inl (cI, 120, .inl v_factors)), (h0_literals, .inl (cI, 120, .inl v_literals)), (h0_begins, .inl (cI, 22, .inl v_begins))] → va_S (aw [(h0, .inr (6, [.int v_thrown, .ref h0_costs, .ref h0_factors, .ref h0_literals, .ref h0_begins, .ref h0_bounds, .int v_constraints, .int v_terms, .int v_begun, .int v_done, .int v_over, .int v_set, .int v_ones, .ref h0_trail, .ref h0_choice, .int v_depth, .int v_searchSet, .int v_searchOnes, .int v_best, .int v_bestOnes, .int v_made, .ref h0_log, .int v_size, .int v_answer, .int v_looked, .int v_place, .int v_waiting, .ref h0_waitSet, .ref h0_waitOnes, .ref h0_waitDead])), (h0_factors, .inl (cI, 120, .inl v_factors)), (h0_literals, .inl (cI, 120, .inl v_literals)), (h0_begins, .inl (cI, 22, .inl v_begins))]) s.heap H locs → ∀ ls : Array Slot, lv_has ls 6 [(4, .int l4), (5, .int l5), (3, .int (-x2)), (0, .ref h0), (1, .int x1), (2, .int x2)] → W p l e { frames := 1, cells := 0, slots := 0, locals := 22 } s m [.ref h0, .int x1, .int x2].toArray below meth c H locs 0 0 (MQ below (wQ D (some (.int ((fX6_term x1 x2 v_constraints v_terms v_begun v_factors v_literals v_begins).1))) [(h0, .inr (6, [.int v_thrown, .ref h0_costs, .ref h0_factors, .ref h0_literals, .ref h0_begins, .ref h0_bounds, .int v_constraints, .int v_terms, .int v_begun, .int v_done, .int v_over, .int v_set, .int v_ones, .ref h0_trail, .ref h0_choice, .int v_depth, .int v_searchSet, .int v_searchOnes, .int v_best, .int v_bestOnes, .int v_made, .ref h0_log, .int v_size, .int v_answer, .int v_looked, .int v_place, .int v_waiting, .ref h0_waitSet, .ref h0_waitOnes, .ref h0_waitDead])), (h0_factors, .inl (cI, 120, .inl v_factors)), (h0_literals, .inl (cI, 120, .inl v_literals)), (h0_begins, .inl (cI, 22, .inl v_begins))] [(h0, .inr (6, [.int v_thrown, .ref h0_costs, .ref h0_factors, .ref h0_literals, .ref h0_begins, .ref h0_bounds, .int v_constraints, .int ((fX6_term x1 x2 v_constraints v_terms v_begun v_factors v_literals v_begins).2.1), .int v_begun, .int v_done, .int v_over, .int v_set, .int v_ones, .ref h0_trail, .ref h0_choice, .int v_depth, .int v_searchSet, .int v_searchOnes, .int v_best, .int v_bestOnes, .int v_made, .ref h0_log, .int v_size, .int v_answer, .int v_looked, .int v_place, .int v_waiting, .ref h0_waitSet, .ref h0_waitOnes, .ref h0_waitDead])), (h0_factors, .inl (cI, 120, .inl ((fX6_term x1 x2 v_constraints v_terms v_begun v_factors v_literals v_begins).2.2.1))), (h0_literals, .inl (cI, 120, .inl ((fX6_term x1 x2 v_constraints v_terms v_begun v_factors v_literals v_begins).2.2.2))), (h0_begins, .inl (cI, 22, .inl v_begins))]) [.ref h0, .int x1, .int x2].toArray s 0 0 (aw [(h0, .inr (6, [.int v_thrown, .ref h0_costs, .ref h0_factors, .ref h0_literals, .ref h0_begins, .ref h0_bounds, .int v_constraints, .int v_terms, .int v_begun, .int v_done, .int v_over, .int v_set, .int v_ones, .ref h0_trail, .ref h0_choice, .int v_depth, .int v_searchSet, .int v_searchOnes, .int v_best, .int v_bestOnes, .int v_made, .ref h0_log, .int v_size, .int v_answer, .int v_looked, .int v_place, .int v_waiting, .ref h0_waitSet, .ref h0_waitOnes, .ref h0_waitDead])), (h0_factors, .inl (cI, 120, .inl v_factors)), (h0_literals, .inl (cI, 120, .inl v_literals)), (h0_begins, .inl (cI, 22, .inl v_begins))])) (F0 m 75 ls []) := by
            intro n
            induction n with
            | zero =>
              intro k l4 l5 hk hg hF
              exact (by obtain ⟨_, h2, h3⟩ := hk; exact absurd h3 (by omega))
            | succ n ih =>
              intro k l4 l5 hk hg hF H locs hP hD hS ls hl
              have hF := hF.trans (fX6_term_L75.eq_2 ..)
              obtain ⟨ek, hk1, hk2⟩ := hk
              refine lv_iload hx hb dX6_term_75 (lv_at hl 0 rfl) ?_
              refine lv_if_eq (tgt := 125) hx hb dX6_term_77 (by decide) (fun c_3 => ?_) (fun c_3 => ?_)
              · have hF := hF.trans (if_pos c_3)
                refine lv_iload hx hb dX6_term_125 (lv_at hl 0 rfl) ?_
                refine lv_if_ne (tgt := 132) hx hb dX6_term_127 (by decide) (fun c_4 => ?_) (fun c_4 => ?_)
                · have hF := hF.trans (if_neg c_4)
                  refine lv_aload_n hx hb dX6_term_132 rfl (lv_at hl 3 rfl) ?_
                  refine va_get (D := D) hx hb hts inX6 hown hK hP 0 rfl rfl 2 (by decide) (hts _ kw475) (fun _ h9 => h9) rfl dX6_term_133 ?_
                  refine lv_aload_n hx hb dX6_term_136 rfl (lv_at hl 3 rfl) ?_
                  refine va_get (D := D) hx hb hts inX6 hown hK hP 0 rfl rfl 7 (by decide) (hts _ kw480) (fun _ h9 => h9) rfl dX6_term_137 ?_
                  refine lv_iload_n hx hb dX6_term_140 rfl (lv_at hl 4 rfl) ?_
                  refine va_iast hx hb hK hP hD hS 1 0 rfl rfl (by rcases hg with h | h <;> first | exact absurd h (by assumption) | exact okN_in hT (by decide) (k_lt_of h)) dX6_term_141 (fun H locs hP hD hS => ?_)
                  have hP : va_P D vwCl [(h0, .inr (6, [.int v_thrown, .ref h0_costs, .ref h0_factors, .ref h0_literals, .ref h0_begins, .ref h0_bounds, .int v_constraints, .int v_terms, .int v_begun, .int v_done, .int v_over, .int v_set, .int v_ones, .ref h0_trail, .ref h0_choice, .int v_depth, .int v_searchSet, .int v_searchOnes, .int v_best, .int v_bestOnes, .int v_made, .ref h0_log, .int v_size, .int v_answer, .int v_looked, .int v_place, .int v_waiting, .ref h0_waitSet, .ref h0_waitOnes, .ref h0_waitDead])), (h0_factors, .inl (cI, 120, .inl (upd v_factors v_terms.toNatClampNeg x1))), (h0_literals, .inl (cI, 120, .inl v_literals)), (h0_begins, .inl (cI, 22, .inl v_begins))] H := hP
                  have hD : va_D _ [(h0, .inr (6, [.int v_thrown, .ref h0_costs, .ref h0_factors, .ref h0_literals, .ref h0_begins, .ref h0_bounds, .int v_constraints, .int v_terms, .int v_begun, .int v_done, .int v_over, .int v_set, .int v_ones, .ref h0_trail, .ref h0_choice, .int v_depth, .int v_searchSet, .int v_searchOnes, .int v_best, .int v_bestOnes, .int v_made, .ref h0_log, .int v_size, .int v_answer, .int v_looked, .int v_place, .int v_waiting, .ref h0_waitSet, .ref h0_waitOnes, .ref h0_waitDead])), (h0_factors, .inl (cI, 120, .inl (upd v_factors v_terms.toNatClampNeg x1))), (h0_literals, .inl (cI, 120, .inl v_literals)), (h0_begins, .inl (cI, 22, .inl v_begins))] := hD
                  refine lv_aload_n hx hb dX6_term_142 rfl (lv_at hl 3 rfl) ?_
                  refine va_get (D := D) hx hb hts inX6 hown hK hP 0 rfl rfl 3 (by decide) (hts _ kw476) (fun _ h9 => h9) rfl dX6_term_143 ?_
                  refine lv_aload_n hx hb dX6_term_146 rfl (lv_at hl 3 rfl) ?_
                  refine va_get (D := D) hx hb hts inX6 hown hK hP 0 rfl rfl 7 (by decide) (hts _ kw480) (fun _ h9 => h9) rfl dX6_term_147 ?_
                  refine lv_iload_n hx hb dX6_term_150 rfl (lv_at hl 5 rfl) ?_
                  refine va_iast hx hb hK hP hD hS 2 0 rfl rfl (by rcases hg with h | h <;> first | exact absurd h (by assumption) | exact okN_in hT (by decide) (k_lt_of h)) dX6_term_151 (fun H locs hP hD hS => ?_)
                  have hP : va_P D vwCl [(h0, .inr (6, [.int v_thrown, .ref h0_costs, .ref h0_factors, .ref h0_literals, .ref h0_begins, .ref h0_bounds, .int v_constraints, .int v_terms, .int v_begun, .int v_done, .int v_over, .int v_set, .int v_ones, .ref h0_trail, .ref h0_choice, .int v_depth, .int v_searchSet, .int v_searchOnes, .int v_best, .int v_bestOnes, .int v_made, .ref h0_log, .int v_size, .int v_answer, .int v_looked, .int v_place, .int v_waiting, .ref h0_waitSet, .ref h0_waitOnes, .ref h0_waitDead])), (h0_factors, .inl (cI, 120, .inl (upd v_factors v_terms.toNatClampNeg x1))), (h0_literals, .inl (cI, 120, .inl (upd v_literals v_terms.toNatClampNeg x2))), (h0_begins, .inl (cI, 22, .inl v_begins))] H := hP
                  have hD : va_D _ [(h0, .inr (6, [.int v_thrown, .ref h0_costs, .ref h0_factors, .ref h0_literals, .ref h0_begins, .ref h0_bounds, .int v_constraints, .int v_terms, .int v_begun, .int v_done, .int v_over, .int v_set, .int v_ones, .ref h0_trail, .ref h0_choice, .int v_depth, .int v_searchSet, .int v_searchOnes, .int v_best, .int v_bestOnes, .int v_made, .ref h0_log, .int v_size, .int v_answer, .int v_looked, .int v_place, .int v_waiting, .ref h0_waitSet, .ref h0_waitOnes, .ref h0_waitDead])), (h0_factors, .inl (cI, 120, .inl (upd v_factors v_terms.toNatClampNeg x1))), (h0_literals, .inl (cI, 120, .inl (upd v_literals v_terms.toNatClampNeg x2))), (h0_begins, .inl (cI, 22, .inl v_begins))] := hD
                  refine lv_aload_n hx hb dX6_term_152 rfl (lv_at hl 3 rfl) ?_
                  refine lv_dup hx hb dX6_term_153 rfl ?_
                  refine va_get (D := D) hx hb hts inX6 hown hK hP 0 rfl rfl 7 (by decide) (hts _ kw480) (fun _ h9 => h9) rfl dX6_term_154 ?_
                  refine lv_iconst (v := 1) hx hb dX6_term_157 (by decide) ?_
                  refine lv_iadd hx hb dX6_term_158 ?_
                  refine va_put (D := D) (v := .int (v_terms + 1)) (ty := .int) hx hb hts inX6 tyX6 tyX6_ok nmX6 hown hK hP hD hS 0 rfl rfl 7 (by decide) (hts _ kw480) (fun _ h9 => h9) rfl (by decide +kernel) rfl rfl (Nat.le_of_ble_eq_true rfl) dX6_term_159 (fun H locs hP hD hS => ?_)
                  have hP : va_P D vwCl [(h0, .inr (6, [.int v_thrown, .ref h0_costs, .ref h0_factors, .ref h0_literals, .ref h0_begins, .ref h0_bounds, .int v_constraints, .int (v_terms + 1), .int v_begun, .int v_done, .int v_over, .int v_set, .int v_ones, .ref h0_trail, .ref h0_choice, .int v_depth, .int v_searchSet, .int v_searchOnes, .int v_best, .int v_bestOnes, .int v_made, .ref h0_log, .int v_size, .int v_answer, .int v_looked, .int v_place, .int v_waiting, .ref h0_waitSet, .ref h0_waitOnes, .ref h0_waitDead])), (h0_factors, .inl (cI, 120, .inl (upd v_factors v_terms.toNatClampNeg x1))), (h0_literals, .inl (cI, 120, .inl (upd v_literals v_terms.toNatClampNeg x2))), (h0_begins, .inl (cI, 22, .inl v_begins))] H := hP
                  have hD : va_D _ [(h0, .inr (6, [.int v_thrown, .ref h0_costs, .ref h0_factors, .ref h0_literals, .ref h0_begins, .ref h0_bounds, .int v_constraints, .int (v_terms + 1), .int v_begun, .int v_done, .int v_over, .int v_set, .int v_ones, .ref h0_trail, .ref h0_choice, .int v_depth, .int v_searchSet, .int v_searchOnes, .int v_best, .int v_bestOnes, .int v_made, .ref h0_log, .int v_size, .int v_answer, .int v_looked, .int v_place, .int v_waiting, .ref h0_waitSet, .ref h0_waitOnes, .ref h0_waitDead])), (h0_factors, .inl (cI, 120, .inl (upd v_factors v_terms.toNatClampNeg x1))), (h0_literals, .inl (cI, 120, .inl (upd v_literals v_terms.toNatClampNeg x2))), (h0_begins, .inl (cI, 22, .inl v_begins))] := hD
                  refine lv_iconst (v := 0) hx hb dX6_term_162 (by decide) ?_
                  exact wreti hx hb hr hlocks (by rw [hF]) (by rw [hF]; exact hP) hS dX6_term_163
                · have hF := hF.trans (if_pos c_4)
                  refine lv_iconst (v := (-1)) hx hb dX6_term_130 (by decide) ?_
                  exact wreti hx hb hr hlocks (by rw [hF]) (by rw [hF]; exact hP) hS dX6_term_131
              · have hF := hF.trans (if_neg c_3)
                refine lv_iload hx hb dX6_term_80 (lv_at hl 1 rfl) ?_
                refine lv_aload_n hx hb dX6_term_82 rfl (lv_at hl 3 rfl) ?_
                refine va_get (D := D) hx hb hts inX6 hown hK hP 0 rfl rfl 7 (by decide) (hts _ kw480) (fun _ h9 => h9) rfl dX6_term_83 ?_
                refine lv_icmp_ge (tgt := 125) hx hb dX6_term_86 (by decide) (fun c_5 => ?_) (fun c_5 => ?_)
                · have hF := hF.trans (if_pos c_5)
                  refine lv_iload hx hb dX6_term_125 (lv_at hl 0 rfl) ?_
                  refine lv_if_ne (tgt := 132) hx hb dX6_term_127 (by decide) (fun c_6 => ?_) (fun c_6 => ?_)
                  · have hF := hF.trans (if_neg c_6)
                    refine lv_aload_n hx hb dX6_term_132 rfl (lv_at hl 3 rfl) ?_
                    refine va_get (D := D) hx hb hts inX6 hown hK hP 0 rfl rfl 2 (by decide) (hts _ kw475) (fun _ h9 => h9) rfl dX6_term_133 ?_
                    refine lv_aload_n hx hb dX6_term_136 rfl (lv_at hl 3 rfl) ?_
                    refine va_get (D := D) hx hb hts inX6 hown hK hP 0 rfl rfl 7 (by decide) (hts _ kw480) (fun _ h9 => h9) rfl dX6_term_137 ?_
                    refine lv_iload_n hx hb dX6_term_140 rfl (lv_at hl 4 rfl) ?_
                    refine va_iast hx hb hK hP hD hS 1 0 rfl rfl (by rcases hg with h | h <;> first | exact absurd h (by assumption) | exact okN_in hT (by decide) (k_lt_of h)) dX6_term_141 (fun H locs hP hD hS => ?_)
                    have hP : va_P D vwCl [(h0, .inr (6, [.int v_thrown, .ref h0_costs, .ref h0_factors, .ref h0_literals, .ref h0_begins, .ref h0_bounds, .int v_constraints, .int v_terms, .int v_begun, .int v_done, .int v_over, .int v_set, .int v_ones, .ref h0_trail, .ref h0_choice, .int v_depth, .int v_searchSet, .int v_searchOnes, .int v_best, .int v_bestOnes, .int v_made, .ref h0_log, .int v_size, .int v_answer, .int v_looked, .int v_place, .int v_waiting, .ref h0_waitSet, .ref h0_waitOnes, .ref h0_waitDead])), (h0_factors, .inl (cI, 120, .inl (upd v_factors v_terms.toNatClampNeg x1))), (h0_literals, .inl (cI, 120, .inl v_literals)), (h0_begins, .inl (cI, 22, .inl v_begins))] H := hP
                    have hD : va_D _ [(h0, .inr (6, [.int v_thrown, .ref h0_costs, .ref h0_factors, .ref h0_literals, .ref h0_begins, .ref h0_bounds, .int v_constraints, .int v_terms, .int v_begun, .int v_done, .int v_over, .int v_set, .int v_ones, .ref h0_trail, .ref h0_choice, .int v_depth, .int v_searchSet, .int v_searchOnes, .int v_best, .int v_bestOnes, .int v_made, .ref h0_log, .int v_size, .int v_answer, .int v_looked, .int v_place, .int v_waiting, .ref h0_waitSet, .ref h0_waitOnes, .ref h0_waitDead])), (h0_factors, .inl (cI, 120, .inl (upd v_factors v_terms.toNatClampNeg x1))), (h0_literals, .inl (cI, 120, .inl v_literals)), (h0_begins, .inl (cI, 22, .inl v_begins))] := hD
                    refine lv_aload_n hx hb dX6_term_142 rfl (lv_at hl 3 rfl) ?_
                    refine va_get (D := D) hx hb hts inX6 hown hK hP 0 rfl rfl 3 (by decide) (hts _ kw476) (fun _ h9 => h9) rfl dX6_term_143 ?_
                    refine lv_aload_n hx hb dX6_term_146 rfl (lv_at hl 3 rfl) ?_
                    refine va_get (D := D) hx hb hts inX6 hown hK hP 0 rfl rfl 7 (by decide) (hts _ kw480) (fun _ h9 => h9) rfl dX6_term_147 ?_
                    refine lv_iload_n hx hb dX6_term_150 rfl (lv_at hl 5 rfl) ?_
                    refine va_iast hx hb hK hP hD hS 2 0 rfl rfl (by rcases hg with h | h <;> first | exact absurd h (by assumption) | exact okN_in hT (by decide) (k_lt_of h)) dX6_term_151 (fun H locs hP hD hS => ?_)
                    have hP : va_P D vwCl [(h0, .inr (6, [.int v_thrown, .ref h0_costs, .ref h0_factors, .ref h0_literals, .ref h0_begins, .ref h0_bounds, .int v_constraints, .int v_terms, .int v_begun, .int v_done, .int v_over, .int v_set, .int v_ones, .ref h0_trail, .ref h0_choice, .int v_depth, .int v_searchSet, .int v_searchOnes, .int v_best, .int v_bestOnes, .int v_made, .ref h0_log, .int v_size, .int v_answer, .int v_looked, .int v_place, .int v_waiting, .ref h0_waitSet, .ref h0_waitOnes, .ref h0_waitDead])), (h0_factors, .inl (cI, 120, .inl (upd v_factors v_terms.toNatClampNeg x1))), (h0_literals, .inl (cI, 120, .inl (upd v_literals v_terms.toNatClampNeg x2))), (h0_begins, .inl (cI, 22, .inl v_begins))] H := hP
                    have hD : va_D _ [(h0, .inr (6, [.int v_thrown, .ref h0_costs, .ref h0_factors, .ref h0_literals, .ref h0_begins, .ref h0_bounds, .int v_constraints, .int v_terms, .int v_begun, .int v_done, .int v_over, .int v_set, .int v_ones, .ref h0_trail, .ref h0_choice, .int v_depth, .int v_searchSet, .int v_searchOnes, .int v_best, .int v_bestOnes, .int v_made, .ref h0_log, .int v_size, .int v_answer, .int v_looked, .int v_place, .int v_waiting, .ref h0_waitSet, .ref h0_waitOnes, .ref h0_waitDead])), (h0_factors, .inl (cI, 120, .inl (upd v_factors v_terms.toNatClampNeg x1))), (h0_literals, .inl (cI, 120, .inl (upd v_literals v_terms.toNatClampNeg x2))), (h0_begins, .inl (cI, 22, .inl v_begins))] := hD
                    refine lv_aload_n hx hb dX6_term_152 rfl (lv_at hl 3 rfl) ?_
                    refine lv_dup hx hb dX6_term_153 rfl ?_
                    refine va_get (D := D) hx hb hts inX6 hown hK hP 0 rfl rfl 7 (by decide) (hts _ kw480) (fun _ h9 => h9) rfl dX6_term_154 ?_
                    refine lv_iconst (v := 1) hx hb dX6_term_157 (by decide) ?_
                    refine lv_iadd hx hb dX6_term_158 ?_
                    refine va_put (D := D) (v := .int (v_terms + 1)) (ty := .int) hx hb hts inX6 tyX6 tyX6_ok nmX6 hown hK hP hD hS 0 rfl rfl 7 (by decide) (hts _ kw480) (fun _ h9 => h9) rfl (by decide +kernel) rfl rfl (Nat.le_of_ble_eq_true rfl) dX6_term_159 (fun H locs hP hD hS => ?_)
                    have hP : va_P D vwCl [(h0, .inr (6, [.int v_thrown, .ref h0_costs, .ref h0_factors, .ref h0_literals, .ref h0_begins, .ref h0_bounds, .int v_constraints, .int (v_terms + 1), .int v_begun, .int v_done, .int v_over, .int v_set, .int v_ones, .ref h0_trail, .ref h0_choice, .int v_depth, .int v_searchSet, .int v_searchOnes, .int v_best, .int v_bestOnes, .int v_made, .ref h0_log, .int v_size, .int v_answer, .int v_looked, .int v_place, .int v_waiting, .ref h0_waitSet, .ref h0_waitOnes, .ref h0_waitDead])), (h0_factors, .inl (cI, 120, .inl (upd v_factors v_terms.toNatClampNeg x1))), (h0_literals, .inl (cI, 120, .inl (upd v_literals v_terms.toNatClampNeg x2))), (h0_begins, .inl (cI, 22, .inl v_begins))] H := hP
                    have hD : va_D _ [(h0, .inr (6, [.int v_thrown, .ref h0_costs, .ref h0_factors, .ref h0_literals, .ref h0_begins, .ref h0_bounds, .int v_constraints, .int (v_terms + 1), .int v_begun, .int v_done, .int v_over, .int v_set, .int v_ones, .ref h0_trail, .ref h0_choice, .int v_depth, .int v_searchSet, .int v_searchOnes, .int v_best, .int v_bestOnes, .int v_made, .ref h0_log, .int v_size, .int v_answer, .int v_looked, .int v_place, .int v_waiting, .ref h0_waitSet, .ref h0_waitOnes, .ref h0_waitDead])), (h0_factors, .inl (cI, 120, .inl (upd v_factors v_terms.toNatClampNeg x1))), (h0_literals, .inl (cI, 120, .inl (upd v_literals v_terms.toNatClampNeg x2))), (h0_begins, .inl (cI, 22, .inl v_begins))] := hD
                    refine lv_iconst (v := 0) hx hb dX6_term_162 (by decide) ?_
                    exact wreti hx hb hr hlocks (by rw [hF]) (by rw [hF]; exact hP) hS dX6_term_163
                  · have hF := hF.trans (if_pos c_6)
                    refine lv_iconst (v := (-1)) hx hb dX6_term_130 (by decide) ?_
                    exact wreti hx hb hr hlocks (by rw [hF]) (by rw [hF]; exact hP) hS dX6_term_131
                · have hF := hF.trans (if_neg c_5)
                  refine lv_aload_n hx hb dX6_term_89 rfl (lv_at hl 3 rfl) ?_
                  refine va_get (D := D) hx hb hts inX6 hown hK hP 0 rfl rfl 3 (by decide) (hts _ kw476) (fun _ h9 => h9) rfl dX6_term_90 ?_
                  refine lv_iload hx hb dX6_term_93 (lv_at hl 1 rfl) ?_
                  refine va_iald hx hb hK hP 2 0 rfl rfl (k_in ek (by have := okC_lt ek eT hk1 (by assumption); omega) (by decide)) dX6_term_95 ?_
                  refine lv_iload_n hx hb dX6_term_96 rfl (lv_at hl 5 rfl) ?_
                  refine lv_icmp_eq (tgt := 116) hx hb dX6_term_97 (by decide) (fun c_7 => ?_) (fun c_7 => ?_)
                  · have hF := hF.trans (if_pos c_7)
                    refine lv_iconst (v := 0) hx hb dX6_term_116 (by decide) ?_
                    refine lv_istore (lv' := [(4, .int 0), (5, .int l5), (3, .int (-x2)), (0, .ref h0), (1, .int x1), (2, .int x2)]) hx hb dX6_term_117 hl (by decide) rfl (fun ls hl => ?_)
                    refine lv_iinc (v := l5 + 1) (lv' := [(5, .int (l5 + 1)), (4, .int 0), (3, .int (-x2)), (0, .ref h0), (1, .int x1), (2, .int x2)]) hx hb dX6_term_119 hl (k := 1) rfl rfl (by decide) rfl (fun ls hl => ?_)
                    refine lv_goto (tgt := 75) hx hb dX6_term_122 (by decide) ?_
                    exact ih (k + 1) 0 (l5 + 1) ⟨k_s ek, by have := okC_lt ek eT hk1 (by assumption); omega, by omega⟩ (by first | exact Or.inl rfl | (rcases hg with h | h <;> first | exact absurd h (by assumption) | exact Or.inr h)) hF H locs hP hD hS ls (lv_sub hl [1, 0, 2, 3, 4, 5] rfl)
                  · have hF := hF.trans (if_neg c_7)
                    refine lv_aload_n hx hb dX6_term_100 rfl (lv_at hl 3 rfl) ?_
                    refine va_get (D := D) hx hb hts inX6 hown hK hP 0 rfl rfl 3 (by decide) (hts _ kw476) (fun _ h9 => h9) rfl dX6_term_101 ?_
                    refine lv_iload hx hb dX6_term_104 (lv_at hl 1 rfl) ?_
                    refine va_iald hx hb hK hP 2 0 rfl rfl (k_in ek (by have := okC_lt ek eT hk1 (by assumption); omega) (by decide)) dX6_term_106 ?_
                    refine lv_iload_n hx hb dX6_term_107 rfl (lv_at hl 5 rfl) ?_
                    refine lv_ineg hx hb dX6_term_108 ?_
                    refine lv_icmp_eq (tgt := 116) hx hb dX6_term_109 (by decide) (fun c_8 => ?_) (fun c_8 => ?_)
                    · have hF := hF.trans (if_pos c_8)
                      refine lv_iconst (v := 0) hx hb dX6_term_116 (by decide) ?_
                      refine lv_istore (lv' := [(4, .int 0), (5, .int l5), (3, .int (-x2)), (0, .ref h0), (1, .int x1), (2, .int x2)]) hx hb dX6_term_117 hl (by decide) rfl (fun ls hl => ?_)
                      refine lv_iinc (v := l5 + 1) (lv' := [(5, .int (l5 + 1)), (4, .int 0), (3, .int (-x2)), (0, .ref h0), (1, .int x1), (2, .int x2)]) hx hb dX6_term_119 hl (k := 1) rfl rfl (by decide) rfl (fun ls hl => ?_)
                      refine lv_goto (tgt := 75) hx hb dX6_term_122 (by decide) ?_
                      exact ih (k + 1) 0 (l5 + 1) ⟨k_s ek, by have := okC_lt ek eT hk1 (by assumption); omega, by omega⟩ (by first | exact Or.inl rfl | (rcases hg with h | h <;> first | exact absurd h (by assumption) | exact Or.inr h)) hF H locs hP hD hS ls (lv_sub hl [1, 0, 2, 3, 4, 5] rfl)
                    · have hF := hF.trans (if_neg c_8)
                      refine lv_iconst (v := 1) hx hb dX6_term_112 (by decide) ?_
                      refine lv_goto (tgt := 117) hx hb dX6_term_113 (by decide) ?_
                      refine lv_istore (lv' := [(4, .int 1), (5, .int l5), (3, .int (-x2)), (0, .ref h0), (1, .int x1), (2, .int x2)]) hx hb dX6_term_117 hl (by decide) rfl (fun ls hl => ?_)
                      refine lv_iinc (v := l5 + 1) (lv' := [(5, .int (l5 + 1)), (4, .int 1), (3, .int (-x2)), (0, .ref h0), (1, .int x1), (2, .int x2)]) hx hb dX6_term_119 hl (k := 1) rfl rfl (by decide) rfl (fun ls hl => ?_)
                      refine lv_goto (tgt := 75) hx hb dX6_term_122 (by decide) ?_
                      exact ih (k + 1) 1 (l5 + 1) ⟨k_s ek, by have := okC_lt ek eT hk1 (by assumption); omega, by omega⟩ (by first | exact Or.inl rfl | (rcases hg with h | h <;> first | exact absurd h (by assumption) | exact Or.inr h)) hF H locs hP hD hS ls (lv_sub hl [1, 0, 2, 3, 4, 5] rfl)
          exact loop75 121 B 0 (v_begins v_constraints.toNatClampNeg) ⟨eB, by omega, by omega⟩ (by first | exact Or.inl rfl | exact Or.inr (by assumption)) hF _ _ hP hD hS ls (lv_sub hl [1, 0, 2, 3, 4, 5] rfl)
        · have hF := hF.trans (if_neg c_9)
          refine lv_aload_n hx hb dX6_term_39 rfl (lv_at hl 1 rfl) ?_
          refine va_get (D := D) hx hb hts inX6 hown hK hP 0 rfl rfl 7 (by decide) (hts _ kw480) (fun _ h9 => h9) rfl dX6_term_40 ?_
          refine lv_bipush (v := 120) hx hb dX6_term_43 (by decide) ?_
          refine lv_icmp_ge (tgt := 61) hx hb dX6_term_45 (by decide) (fun c_9 => ?_) (fun c_9 => ?_)
          · have hF := hF.trans (if_pos c_9)
            refine lv_iconst (v := 0) hx hb dX6_term_61 (by decide) ?_
            refine lv_istore (lv' := [(4, .int 0), (3, .int (-x2)), (0, .ref h0), (1, .int x1), (2, .int x2)]) hx hb dX6_term_62 hl (by decide) rfl (fun ls hl => ?_)
            refine lv_aload_n hx hb dX6_term_64 rfl (lv_at hl 2 rfl) ?_
            refine va_get (D := D) hx hb hts inX6 hown hK hP 0 rfl rfl 4 (by decide) (hts _ kw477) (fun _ h9 => h9) rfl dX6_term_65 ?_
            refine lv_aload_n hx hb dX6_term_68 rfl (lv_at hl 2 rfl) ?_
            refine va_get (D := D) hx hb hts inX6 hown hK hP 0 rfl rfl 6 (by decide) (hts _ kw479) (fun _ h9 => h9) rfl dX6_term_69 ?_
            refine va_iald hx hb hK hP 3 0 rfl rfl (okN_inS hCn (by decide) (by decide)) dX6_term_72 ?_
            refine lv_istore (lv' := [(5, .int (v_begins v_constraints.toNatClampNeg)), (4, .int 0), (3, .int (-x2)), (0, .ref h0), (1, .int x1), (2, .int x2)]) hx hb dX6_term_73 hl (by decide) rfl (fun ls hl => ?_)
            have loop75 : ∀ (n : Nat) (k : Nat) (l4 : Int32) (l5 : Int32) , (l5 = nI k ∧ k ≤ 120 ∧ 120 < k + n) → (l4 = 0 ∨ ¬ (120 : Int32) ≤ v_terms) → fX6_term x1 x2 v_constraints v_terms v_begun v_factors v_literals v_begins = fX6_term_L75 x1 x2 v_constraints v_terms v_begun v_factors v_literals v_begins n l4 l5 → ∀ (H : Heap) (locs : List Loc), va_P D vwCl [(h0, .inr (6, [.int v_thrown, .ref h0_costs, .ref h0_factors, .ref h0_literals, .ref h0_begins, .ref h0_bounds, .int v_constraints, .int v_terms, .int v_begun, .int v_done, .int v_over, .int v_set, .int v_ones, .ref h0_trail, .ref h0_choice, .int v_depth, .int v_searchSet, .int v_searchOnes, .int v_best, .int v_bestOnes, .int v_made, .ref h0_log, .int v_size, .int v_answer, .int v_looked, .int v_place, .int v_waiting, .ref h0_waitSet, .ref h0_waitOnes, .ref h0_waitDead])), (h0_factors, .inl (cI, 120, .inl v_factors)), (h0_literals, .inl (cI, 120, .inl v_literals)), (h0_begins, .inl (cI, 22, .inl v_begins))] H → va_D (aw [(h0, .inr (6, [.int v_thrown, .ref h0_costs, .ref h0_factors, .ref h0_literals, .ref h0_begins, .ref h0_bounds, .int v_constraints, .int v_terms, .int v_begun, .int v_done, .int v_over, .int v_set, .int v_ones, .ref h0_trail, .ref h0_choice, .int v_depth, .int v_searchSet, .int v_searchOnes, .int v_best, .int v_bestOnes, .int v_made, .ref h0_log, .int v_size, .int v_answer, .int v_looked, .int v_place, .int v_waiting, .ref h0_waitSet, .ref h0_waitOnes, .ref h0_waitDead])), (h0_factors, .inl (cI, 120, .inl v_factors)), (h0_literals, .inl (cI, 120, .inl v_literals)), (h0_begins, .inl (cI, 22, .inl v_begins))]) [(h0, .inr (6, [.int v_thrown, .ref h0_costs, .ref h0_factors, .ref h0_literals, .ref h0_begins, .ref h0_bounds, .int v_constraints, .int v_terms, .int v_begun, .int v_done, .int v_over, .int v_set, .int v_ones, .ref h0_trail, .ref h0_choice, .int v_depth, .int v_searchSet, .int v_searchOnes, .int v_best, .int v_bestOnes, .int v_made, .ref h0_log, .int v_size, .int v_answer, .int v_looked, .int v_place, .int v_waiting, .ref h0_waitSet, .ref h0_waitOnes, .ref h0_waitDead])), (h0_factors, .inl (cI, 120, .inl v_factors)), (h0_literals, .inl (cI, 120, .inl v_literals)), (h0_begins, .inl (cI, 22, .inl v_begins))] → va_S (aw [(h0, .inr (6, [.int v_thrown, .ref h0_costs, .ref h0_factors, .ref h0_literals, .ref h0_begins, .ref h0_bounds, .int v_constraints, .int v_terms, .int v_begun, .int v_done, .int v_over, .int v_set, .int v_ones, .ref h0_trail, .ref h0_choice, .int v_depth, .int v_searchSet, .int v_searchOnes, .int v_best, .int v_bestOnes, .int v_made, .ref h0_log, .int v_size, .int v_answer, .int v_looked, .int v_place, .int v_waiting, .ref h0_waitSet, .ref h0_waitOnes, .ref h0_waitDead])), (h0_factors, .inl (cI, 120, .inl v_factors)), (h0_literals, .inl (cI, 120, .inl v_literals)), (h0_begins, .inl (cI, 22, .inl v_begins))]) s.heap H locs → ∀ ls : Array Slot, lv_has ls 6 [(4, .int l4), (5, .int l5), (3, .int (-x2)), (0, .ref h0), (1, .int x1), (2, .int x2)] → W p l e { frames := 1, cells := 0, slots := 0, locals := 22 } s m [.ref h0, .int x1, .int x2].toArray below meth c H locs 0 0 (MQ below (wQ D (some (.int ((fX6_term x1 x2 v_constraints v_terms v_begun v_factors v_literals v_begins).1))) [(h0, .inr (6, [.int v_thrown, .ref h0_costs, .ref h0_factors, .ref h0_literals, .ref h0_begins, .ref h0_bounds, .int v_constraints, .int v_terms, .int v_begun, .int v_done, .int v_over, .int v_set, .int v_ones, .ref h0_trail, .ref h0_choice, .int v_depth, .int v_searchSet, .int v_searchOnes, .int v_best, .int v_bestOnes, .int v_made, .ref h0_log, .int v_size, .int v_answer, .int v_looked, .int v_place, .int v_waiting, .ref h0_waitSet, .ref h0_waitOnes, .ref h0_waitDead])), (h0_factors, .inl (cI, 120, .inl v_factors)), (h0_literals, .inl (cI, 120, .inl v_literals)), (h0_begins, .inl (cI, 22, .inl v_begins))] [(h0, .inr (6, [.int v_thrown, .ref h0_costs, .ref h0_factors, .ref h0_literals, .ref h0_begins, .ref h0_bounds, .int v_constraints, .int ((fX6_term x1 x2 v_constraints v_terms v_begun v_factors v_literals v_begins).2.1), .int v_begun, .int v_done, .int v_over, .int v_set, .int v_ones, .ref h0_trail, .ref h0_choice, .int v_depth, .int v_searchSet, .int v_searchOnes, .int v_best, .int v_bestOnes, .int v_made, .ref h0_log, .int v_size, .int v_answer, .int v_looked, .int v_place, .int v_waiting, .ref h0_waitSet, .ref h0_waitOnes, .ref h0_waitDead])), (h0_factors, .inl (cI, 120, .inl ((fX6_term x1 x2 v_constraints v_terms v_begun v_factors v_literals v_begins).2.2.1))), (h0_literals, .inl (cI, 120, .inl ((fX6_term x1 x2 v_constraints v_terms v_begun v_factors v_literals v_begins).2.2.2))), (h0_begins, .inl (cI, 22, .inl v_begins))]) [.ref h0, .int x1, .int x2].toArray s 0 0 (aw [(h0, .inr (6, [.int v_thrown, .ref h0_costs, .ref h0_factors, .ref h0_literals, .ref h0_begins, .ref h0_bounds, .int v_constraints, .int v_terms, .int v_begun, .int v_done, .int v_over, .int v_set, .int v_ones, .ref h0_trail, .ref h0_choice, .int v_depth, .int v_searchSet, .int v_searchOnes, .int v_best, .int v_bestOnes, .int v_made, .ref h0_log, .int v_size, .int v_answer, .int v_looked, .int v_place, .int v_waiting, .ref h0_waitSet, .ref h0_waitOnes, .ref h0_waitDead])), (h0_factors, .inl (cI, 120, .inl v_factors)), (h0_literals, .inl (cI, 120, .inl v_literals)), (h0_begins, .inl (cI, 22, .inl v_begins))])) (F0 m 75 ls []) := by
              intro n
              induction n with
              | zero =>
                intro k l4 l5 hk hg hF
                exact (by obtain ⟨_, h2, h3⟩ := hk; exact absurd h3 (by omega))
              | succ n ih =>
                intro k l4 l5 hk hg hF H locs hP hD hS ls hl
                have hF := hF.trans (fX6_term_L75.eq_2 ..)
                obtain ⟨ek, hk1, hk2⟩ := hk
                refine lv_iload hx hb dX6_term_75 (lv_at hl 0 rfl) ?_
                refine lv_if_eq (tgt := 125) hx hb dX6_term_77 (by decide) (fun c_3 => ?_) (fun c_3 => ?_)
                · have hF := hF.trans (if_pos c_3)
                  refine lv_iload hx hb dX6_term_125 (lv_at hl 0 rfl) ?_
                  refine lv_if_ne (tgt := 132) hx hb dX6_term_127 (by decide) (fun c_4 => ?_) (fun c_4 => ?_)
                  · have hF := hF.trans (if_neg c_4)
                    refine lv_aload_n hx hb dX6_term_132 rfl (lv_at hl 3 rfl) ?_
                    refine va_get (D := D) hx hb hts inX6 hown hK hP 0 rfl rfl 2 (by decide) (hts _ kw475) (fun _ h9 => h9) rfl dX6_term_133 ?_
                    refine lv_aload_n hx hb dX6_term_136 rfl (lv_at hl 3 rfl) ?_
                    refine va_get (D := D) hx hb hts inX6 hown hK hP 0 rfl rfl 7 (by decide) (hts _ kw480) (fun _ h9 => h9) rfl dX6_term_137 ?_
                    refine lv_iload_n hx hb dX6_term_140 rfl (lv_at hl 4 rfl) ?_
                    refine va_iast hx hb hK hP hD hS 1 0 rfl rfl (by rcases hg with h | h <;> first | exact absurd h (by assumption) | exact okN_in hT (by decide) (k_lt_of h)) dX6_term_141 (fun H locs hP hD hS => ?_)
                    have hP : va_P D vwCl [(h0, .inr (6, [.int v_thrown, .ref h0_costs, .ref h0_factors, .ref h0_literals, .ref h0_begins, .ref h0_bounds, .int v_constraints, .int v_terms, .int v_begun, .int v_done, .int v_over, .int v_set, .int v_ones, .ref h0_trail, .ref h0_choice, .int v_depth, .int v_searchSet, .int v_searchOnes, .int v_best, .int v_bestOnes, .int v_made, .ref h0_log, .int v_size, .int v_answer, .int v_looked, .int v_place, .int v_waiting, .ref h0_waitSet, .ref h0_waitOnes, .ref h0_waitDead])), (h0_factors, .inl (cI, 120, .inl (upd v_factors v_terms.toNatClampNeg x1))), (h0_literals, .inl (cI, 120, .inl v_literals)), (h0_begins, .inl (cI, 22, .inl v_begins))] H := hP
                    have hD : va_D _ [(h0, .inr (6, [.int v_thrown, .ref h0_costs, .ref h0_factors, .ref h0_literals, .ref h0_begins, .ref h0_bounds, .int v_constraints, .int v_terms, .int v_begun, .int v_done, .int v_over, .int v_set, .int v_ones, .ref h0_trail, .ref h0_choice, .int v_depth, .int v_searchSet, .int v_searchOnes, .int v_best, .int v_bestOnes, .int v_made, .ref h0_log, .int v_size, .int v_answer, .int v_looked, .int v_place, .int v_waiting, .ref h0_waitSet, .ref h0_waitOnes, .ref h0_waitDead])), (h0_factors, .inl (cI, 120, .inl (upd v_factors v_terms.toNatClampNeg x1))), (h0_literals, .inl (cI, 120, .inl v_literals)), (h0_begins, .inl (cI, 22, .inl v_begins))] := hD
                    refine lv_aload_n hx hb dX6_term_142 rfl (lv_at hl 3 rfl) ?_
                    refine va_get (D := D) hx hb hts inX6 hown hK hP 0 rfl rfl 3 (by decide) (hts _ kw476) (fun _ h9 => h9) rfl dX6_term_143 ?_
                    refine lv_aload_n hx hb dX6_term_146 rfl (lv_at hl 3 rfl) ?_
                    refine va_get (D := D) hx hb hts inX6 hown hK hP 0 rfl rfl 7 (by decide) (hts _ kw480) (fun _ h9 => h9) rfl dX6_term_147 ?_
                    refine lv_iload_n hx hb dX6_term_150 rfl (lv_at hl 5 rfl) ?_
                    refine va_iast hx hb hK hP hD hS 2 0 rfl rfl (by rcases hg with h | h <;> first | exact absurd h (by assumption) | exact okN_in hT (by decide) (k_lt_of h)) dX6_term_151 (fun H locs hP hD hS => ?_)
                    have hP : va_P D vwCl [(h0, .inr (6, [.int v_thrown, .ref h0_costs, .ref h0_factors, .ref h0_literals, .ref h0_begins, .ref h0_bounds, .int v_constraints, .int v_terms, .int v_begun, .int v_done, .int v_over, .int v_set, .int v_ones, .ref h0_trail, .ref h0_choice, .int v_depth, .int v_searchSet, .int v_searchOnes, .int v_best, .int v_bestOnes, .int v_made, .ref h0_log, .int v_size, .int v_answer, .int v_looked, .int v_place, .int v_waiting, .ref h0_waitSet, .ref h0_waitOnes, .ref h0_waitDead])), (h0_factors, .inl (cI, 120, .inl (upd v_factors v_terms.toNatClampNeg x1))), (h0_literals, .inl (cI, 120, .inl (upd v_literals v_terms.toNatClampNeg x2))), (h0_begins, .inl (cI, 22, .inl v_begins))] H := hP
                    have hD : va_D _ [(h0, .inr (6, [.int v_thrown, .ref h0_costs, .ref h0_factors, .ref h0_literals, .ref h0_begins, .ref h0_bounds, .int v_constraints, .int v_terms, .int v_begun, .int v_done, .int v_over, .int v_set, .int v_ones, .ref h0_trail, .ref h0_choice, .int v_depth, .int v_searchSet, .int v_searchOnes, .int v_best, .int v_bestOnes, .int v_made, .ref h0_log, .int v_size, .int v_answer, .int v_looked, .int v_place, .int v_waiting, .ref h0_waitSet, .ref h0_waitOnes, .ref h0_waitDead])), (h0_factors, .inl (cI, 120, .inl (upd v_factors v_terms.toNatClampNeg x1))), (h0_literals, .inl (cI, 120, .inl (upd v_literals v_terms.toNatClampNeg x2))), (h0_begins, .inl (cI, 22, .inl v_begins))] := hD
                    refine lv_aload_n hx hb dX6_term_152 rfl (lv_at hl 3 rfl) ?_
                    refine lv_dup hx hb dX6_term_153 rfl ?_
                    refine va_get (D := D) hx hb hts inX6 hown hK hP 0 rfl rfl 7 (by decide) (hts _ kw480) (fun _ h9 => h9) rfl dX6_term_154 ?_
                    refine lv_iconst (v := 1) hx hb dX6_term_157 (by decide) ?_
                    refine lv_iadd hx hb dX6_term_158 ?_
                    refine va_put (D := D) (v := .int (v_terms + 1)) (ty := .int) hx hb hts inX6 tyX6 tyX6_ok nmX6 hown hK hP hD hS 0 rfl rfl 7 (by decide) (hts _ kw480) (fun _ h9 => h9) rfl (by decide +kernel) rfl rfl (Nat.le_of_ble_eq_true rfl) dX6_term_159 (fun H locs hP hD hS => ?_)
                    have hP : va_P D vwCl [(h0, .inr (6, [.int v_thrown, .ref h0_costs, .ref h0_factors, .ref h0_literals, .ref h0_begins, .ref h0_bounds, .int v_constraints, .int (v_terms + 1), .int v_begun, .int v_done, .int v_over, .int v_set, .int v_ones, .ref h0_trail, .ref h0_choice, .int v_depth, .int v_searchSet, .int v_searchOnes, .int v_best, .int v_bestOnes, .int v_made, .ref h0_log, .int v_size, .int v_answer, .int v_looked, .int v_place, .int v_waiting, .ref h0_waitSet, .ref h0_waitOnes, .ref h0_waitDead])), (h0_factors, .inl (cI, 120, .inl (upd v_factors v_terms.toNatClampNeg x1))), (h0_literals, .inl (cI, 120, .inl (upd v_literals v_terms.toNatClampNeg x2))), (h0_begins, .inl (cI, 22, .inl v_begins))] H := hP
                    have hD : va_D _ [(h0, .inr (6, [.int v_thrown, .ref h0_costs, .ref h0_factors, .ref h0_literals, .ref h0_begins, .ref h0_bounds, .int v_constraints, .int (v_terms + 1), .int v_begun, .int v_done, .int v_over, .int v_set, .int v_ones, .ref h0_trail, .ref h0_choice, .int v_depth, .int v_searchSet, .int v_searchOnes, .int v_best, .int v_bestOnes, .int v_made, .ref h0_log, .int v_size, .int v_answer, .int v_looked, .int v_place, .int v_waiting, .ref h0_waitSet, .ref h0_waitOnes, .ref h0_waitDead])), (h0_factors, .inl (cI, 120, .inl (upd v_factors v_terms.toNatClampNeg x1))), (h0_literals, .inl (cI, 120, .inl (upd v_literals v_terms.toNatClampNeg x2))), (h0_begins, .inl (cI, 22, .inl v_begins))] := hD
                    refine lv_iconst (v := 0) hx hb dX6_term_162 (by decide) ?_
                    exact wreti hx hb hr hlocks (by rw [hF]) (by rw [hF]; exact hP) hS dX6_term_163
                  · have hF := hF.trans (if_pos c_4)
                    refine lv_iconst (v := (-1)) hx hb dX6_term_130 (by decide) ?_
                    exact wreti hx hb hr hlocks (by rw [hF]) (by rw [hF]; exact hP) hS dX6_term_131
                · have hF := hF.trans (if_neg c_3)
                  refine lv_iload hx hb dX6_term_80 (lv_at hl 1 rfl) ?_
                  refine lv_aload_n hx hb dX6_term_82 rfl (lv_at hl 3 rfl) ?_
                  refine va_get (D := D) hx hb hts inX6 hown hK hP 0 rfl rfl 7 (by decide) (hts _ kw480) (fun _ h9 => h9) rfl dX6_term_83 ?_
                  refine lv_icmp_ge (tgt := 125) hx hb dX6_term_86 (by decide) (fun c_5 => ?_) (fun c_5 => ?_)
                  · have hF := hF.trans (if_pos c_5)
                    refine lv_iload hx hb dX6_term_125 (lv_at hl 0 rfl) ?_
                    refine lv_if_ne (tgt := 132) hx hb dX6_term_127 (by decide) (fun c_6 => ?_) (fun c_6 => ?_)
                    · have hF := hF.trans (if_neg c_6)
                      refine lv_aload_n hx hb dX6_term_132 rfl (lv_at hl 3 rfl) ?_
                      refine va_get (D := D) hx hb hts inX6 hown hK hP 0 rfl rfl 2 (by decide) (hts _ kw475) (fun _ h9 => h9) rfl dX6_term_133 ?_
                      refine lv_aload_n hx hb dX6_term_136 rfl (lv_at hl 3 rfl) ?_
                      refine va_get (D := D) hx hb hts inX6 hown hK hP 0 rfl rfl 7 (by decide) (hts _ kw480) (fun _ h9 => h9) rfl dX6_term_137 ?_
                      refine lv_iload_n hx hb dX6_term_140 rfl (lv_at hl 4 rfl) ?_
                      refine va_iast hx hb hK hP hD hS 1 0 rfl rfl (by rcases hg with h | h <;> first | exact absurd h (by assumption) | exact okN_in hT (by decide) (k_lt_of h)) dX6_term_141 (fun H locs hP hD hS => ?_)
                      have hP : va_P D vwCl [(h0, .inr (6, [.int v_thrown, .ref h0_costs, .ref h0_factors, .ref h0_literals, .ref h0_begins, .ref h0_bounds, .int v_constraints, .int v_terms, .int v_begun, .int v_done, .int v_over, .int v_set, .int v_ones, .ref h0_trail, .ref h0_choice, .int v_depth, .int v_searchSet, .int v_searchOnes, .int v_best, .int v_bestOnes, .int v_made, .ref h0_log, .int v_size, .int v_answer, .int v_looked, .int v_place, .int v_waiting, .ref h0_waitSet, .ref h0_waitOnes, .ref h0_waitDead])), (h0_factors, .inl (cI, 120, .inl (upd v_factors v_terms.toNatClampNeg x1))), (h0_literals, .inl (cI, 120, .inl v_literals)), (h0_begins, .inl (cI, 22, .inl v_begins))] H := hP
                      have hD : va_D _ [(h0, .inr (6, [.int v_thrown, .ref h0_costs, .ref h0_factors, .ref h0_literals, .ref h0_begins, .ref h0_bounds, .int v_constraints, .int v_terms, .int v_begun, .int v_done, .int v_over, .int v_set, .int v_ones, .ref h0_trail, .ref h0_choice, .int v_depth, .int v_searchSet, .int v_searchOnes, .int v_best, .int v_bestOnes, .int v_made, .ref h0_log, .int v_size, .int v_answer, .int v_looked, .int v_place, .int v_waiting, .ref h0_waitSet, .ref h0_waitOnes, .ref h0_waitDead])), (h0_factors, .inl (cI, 120, .inl (upd v_factors v_terms.toNatClampNeg x1))), (h0_literals, .inl (cI, 120, .inl v_literals)), (h0_begins, .inl (cI, 22, .inl v_begins))] := hD
                      refine lv_aload_n hx hb dX6_term_142 rfl (lv_at hl 3 rfl) ?_
                      refine va_get (D := D) hx hb hts inX6 hown hK hP 0 rfl rfl 3 (by decide) (hts _ kw476) (fun _ h9 => h9) rfl dX6_term_143 ?_
                      refine lv_aload_n hx hb dX6_term_146 rfl (lv_at hl 3 rfl) ?_
                      refine va_get (D := D) hx hb hts inX6 hown hK hP 0 rfl rfl 7 (by decide) (hts _ kw480) (fun _ h9 => h9) rfl dX6_term_147 ?_
                      refine lv_iload_n hx hb dX6_term_150 rfl (lv_at hl 5 rfl) ?_
                      refine va_iast hx hb hK hP hD hS 2 0 rfl rfl (by rcases hg with h | h <;> first | exact absurd h (by assumption) | exact okN_in hT (by decide) (k_lt_of h)) dX6_term_151 (fun H locs hP hD hS => ?_)
                      have hP : va_P D vwCl [(h0, .inr (6, [.int v_thrown, .ref h0_costs, .ref h0_factors, .ref h0_literals, .ref h0_begins, .ref h0_bounds, .int v_constraints, .int v_terms, .int v_begun, .int v_done, .int v_over, .int v_set, .int v_ones, .ref h0_trail, .ref h0_choice, .int v_depth, .int v_searchSet, .int v_searchOnes, .int v_best, .int v_bestOnes, .int v_made, .ref h0_log, .int v_size, .int v_answer, .int v_looked, .int v_place, .int v_waiting, .ref h0_waitSet, .ref h0_waitOnes, .ref h0_waitDead])), (h0_factors, .inl (cI, 120, .inl (upd v_factors v_terms.toNatClampNeg x1))), (h0_literals, .inl (cI, 120, .inl (upd v_literals v_terms.toNatClampNeg x2))), (h0_begins, .inl (cI, 22, .inl v_begins))] H := hP
                      have hD : va_D _ [(h0, .inr (6, [.int v_thrown, .ref h0_costs, .ref h0_factors, .ref h0_literals, .ref h0_begins, .ref h0_bounds, .int v_constraints, .int v_terms, .int v_begun, .int v_done, .int v_over, .int v_set, .int v_ones, .ref h0_trail, .ref h0_choice, .int v_depth, .int v_searchSet, .int v_searchOnes, .int v_best, .int v_bestOnes, .int v_made, .ref h0_log, .int v_size, .int v_answer, .int v_looked, .int v_place, .int v_waiting, .ref h0_waitSet, .ref h0_waitOnes, .ref h0_waitDead])), (h0_factors, .inl (cI, 120, .inl (upd v_factors v_terms.toNatClampNeg x1))), (h0_literals, .inl (cI, 120, .inl (upd v_literals v_terms.toNatClampNeg x2))), (h0_begins, .inl (cI, 22, .inl v_begins))] := hD
                      refine lv_aload_n hx hb dX6_term_152 rfl (lv_at hl 3 rfl) ?_
                      refine lv_dup hx hb dX6_term_153 rfl ?_
                      refine va_get (D := D) hx hb hts inX6 hown hK hP 0 rfl rfl 7 (by decide) (hts _ kw480) (fun _ h9 => h9) rfl dX6_term_154 ?_
                      refine lv_iconst (v := 1) hx hb dX6_term_157 (by decide) ?_
                      refine lv_iadd hx hb dX6_term_158 ?_
                      refine va_put (D := D) (v := .int (v_terms + 1)) (ty := .int) hx hb hts inX6 tyX6 tyX6_ok nmX6 hown hK hP hD hS 0 rfl rfl 7 (by decide) (hts _ kw480) (fun _ h9 => h9) rfl (by decide +kernel) rfl rfl (Nat.le_of_ble_eq_true rfl) dX6_term_159 (fun H locs hP hD hS => ?_)
                      have hP : va_P D vwCl [(h0, .inr (6, [.int v_thrown, .ref h0_costs, .ref h0_factors, .ref h0_literals, .ref h0_begins, .ref h0_bounds, .int v_constraints, .int (v_terms + 1), .int v_begun, .int v_done, .int v_over, .int v_set, .int v_ones, .ref h0_trail, .ref h0_choice, .int v_depth, .int v_searchSet, .int v_searchOnes, .int v_best, .int v_bestOnes, .int v_made, .ref h0_log, .int v_size, .int v_answer, .int v_looked, .int v_place, .int v_waiting, .ref h0_waitSet, .ref h0_waitOnes, .ref h0_waitDead])), (h0_factors, .inl (cI, 120, .inl (upd v_factors v_terms.toNatClampNeg x1))), (h0_literals, .inl (cI, 120, .inl (upd v_literals v_terms.toNatClampNeg x2))), (h0_begins, .inl (cI, 22, .inl v_begins))] H := hP
                      have hD : va_D _ [(h0, .inr (6, [.int v_thrown, .ref h0_costs, .ref h0_factors, .ref h0_literals, .ref h0_begins, .ref h0_bounds, .int v_constraints, .int (v_terms + 1), .int v_begun, .int v_done, .int v_over, .int v_set, .int v_ones, .ref h0_trail, .ref h0_choice, .int v_depth, .int v_searchSet, .int v_searchOnes, .int v_best, .int v_bestOnes, .int v_made, .ref h0_log, .int v_size, .int v_answer, .int v_looked, .int v_place, .int v_waiting, .ref h0_waitSet, .ref h0_waitOnes, .ref h0_waitDead])), (h0_factors, .inl (cI, 120, .inl (upd v_factors v_terms.toNatClampNeg x1))), (h0_literals, .inl (cI, 120, .inl (upd v_literals v_terms.toNatClampNeg x2))), (h0_begins, .inl (cI, 22, .inl v_begins))] := hD
                      refine lv_iconst (v := 0) hx hb dX6_term_162 (by decide) ?_
                      exact wreti hx hb hr hlocks (by rw [hF]) (by rw [hF]; exact hP) hS dX6_term_163
                    · have hF := hF.trans (if_pos c_6)
                      refine lv_iconst (v := (-1)) hx hb dX6_term_130 (by decide) ?_
                      exact wreti hx hb hr hlocks (by rw [hF]) (by rw [hF]; exact hP) hS dX6_term_131
                  · have hF := hF.trans (if_neg c_5)
                    refine lv_aload_n hx hb dX6_term_89 rfl (lv_at hl 3 rfl) ?_
                    refine va_get (D := D) hx hb hts inX6 hown hK hP 0 rfl rfl 3 (by decide) (hts _ kw476) (fun _ h9 => h9) rfl dX6_term_90 ?_
                    refine lv_iload hx hb dX6_term_93 (lv_at hl 1 rfl) ?_
                    refine va_iald hx hb hK hP 2 0 rfl rfl (k_in ek (by have := okC_lt ek eT hk1 (by assumption); omega) (by decide)) dX6_term_95 ?_
                    refine lv_iload_n hx hb dX6_term_96 rfl (lv_at hl 5 rfl) ?_
                    refine lv_icmp_eq (tgt := 116) hx hb dX6_term_97 (by decide) (fun c_7 => ?_) (fun c_7 => ?_)
                    · have hF := hF.trans (if_pos c_7)
                      refine lv_iconst (v := 0) hx hb dX6_term_116 (by decide) ?_
                      refine lv_istore (lv' := [(4, .int 0), (5, .int l5), (3, .int (-x2)), (0, .ref h0), (1, .int x1), (2, .int x2)]) hx hb dX6_term_117 hl (by decide) rfl (fun ls hl => ?_)
                      refine lv_iinc (v := l5 + 1) (lv' := [(5, .int (l5 + 1)), (4, .int 0), (3, .int (-x2)), (0, .ref h0), (1, .int x1), (2, .int x2)]) hx hb dX6_term_119 hl (k := 1) rfl rfl (by decide) rfl (fun ls hl => ?_)
                      refine lv_goto (tgt := 75) hx hb dX6_term_122 (by decide) ?_
                      exact ih (k + 1) 0 (l5 + 1) ⟨k_s ek, by have := okC_lt ek eT hk1 (by assumption); omega, by omega⟩ (by first | exact Or.inl rfl | (rcases hg with h | h <;> first | exact absurd h (by assumption) | exact Or.inr h)) hF H locs hP hD hS ls (lv_sub hl [1, 0, 2, 3, 4, 5] rfl)
                    · have hF := hF.trans (if_neg c_7)
                      refine lv_aload_n hx hb dX6_term_100 rfl (lv_at hl 3 rfl) ?_
                      refine va_get (D := D) hx hb hts inX6 hown hK hP 0 rfl rfl 3 (by decide) (hts _ kw476) (fun _ h9 => h9) rfl dX6_term_101 ?_
                      refine lv_iload hx hb dX6_term_104 (lv_at hl 1 rfl) ?_
                      refine va_iald hx hb hK hP 2 0 rfl rfl (k_in ek (by have := okC_lt ek eT hk1 (by assumption); omega) (by decide)) dX6_term_106 ?_
                      refine lv_iload_n hx hb dX6_term_107 rfl (lv_at hl 5 rfl) ?_
                      refine lv_ineg hx hb dX6_term_108 ?_
                      refine lv_icmp_eq (tgt := 116) hx hb dX6_term_109 (by decide) (fun c_8 => ?_) (fun c_8 => ?_)
                      · have hF := hF.trans (if_pos c_8)
                        refine lv_iconst (v := 0) hx hb dX6_term_116 (by decide) ?_
                        refine lv_istore (lv' := [(4, .int 0), (5, .int l5), (3, .int (-x2)), (0, .ref h0), (1, .int x1), (2, .int x2)]) hx hb dX6_term_117 hl (by decide) rfl (fun ls hl => ?_)
                        refine lv_iinc (v := l5 + 1) (lv' := [(5, .int (l5 + 1)), (4, .int 0), (3, .int (-x2)), (0, .ref h0), (1, .int x1), (2, .int x2)]) hx hb dX6_term_119 hl (k := 1) rfl rfl (by decide) rfl (fun ls hl => ?_)
                        refine lv_goto (tgt := 75) hx hb dX6_term_122 (by decide) ?_
                        exact ih (k + 1) 0 (l5 + 1) ⟨k_s ek, by have := okC_lt ek eT hk1 (by assumption); omega, by omega⟩ (by first | exact Or.inl rfl | (rcases hg with h | h <;> first | exact absurd h (by assumption) | exact Or.inr h)) hF H locs hP hD hS ls (lv_sub hl [1, 0, 2, 3, 4, 5] rfl)
                      · have hF := hF.trans (if_neg c_8)
                        refine lv_iconst (v := 1) hx hb dX6_term_112 (by decide) ?_
                        refine lv_goto (tgt := 117) hx hb dX6_term_113 (by decide) ?_
                        refine lv_istore (lv' := [(4, .int 1), (5, .int l5), (3, .int (-x2)), (0, .ref h0), (1, .int x1), (2, .int x2)]) hx hb dX6_term_117 hl (by decide) rfl (fun ls hl => ?_)
                        refine lv_iinc (v := l5 + 1) (lv' := [(5, .int (l5 + 1)), (4, .int 1), (3, .int (-x2)), (0, .ref h0), (1, .int x1), (2, .int x2)]) hx hb dX6_term_119 hl (k := 1) rfl rfl (by decide) rfl (fun ls hl => ?_)
                        refine lv_goto (tgt := 75) hx hb dX6_term_122 (by decide) ?_
                        exact ih (k + 1) 1 (l5 + 1) ⟨k_s ek, by have := okC_lt ek eT hk1 (by assumption); omega, by omega⟩ (by first | exact Or.inl rfl | (rcases hg with h | h <;> first | exact absurd h (by assumption) | exact Or.inr h)) hF H locs hP hD hS ls (lv_sub hl [1, 0, 2, 3, 4, 5] rfl)
            exact loop75 121 B 0 (v_begins v_constraints.toNatClampNeg) ⟨eB, by omega, by omega⟩ (by first | exact Or.inl rfl | exact Or.inr (by assumption)) hF _ _ hP hD hS ls (lv_sub hl [1, 0, 2, 3, 4, 5] rfl)
          · have hF := hF.trans (if_neg c_9)
            refine lv_aload_n hx hb dX6_term_48 rfl (lv_at hl 1 rfl) ?_
            refine va_get (D := D) hx hb hts inX6 hown hK hP 0 rfl rfl 6 (by decide) (hts _ kw479) (fun _ h9 => h9) rfl dX6_term_49 ?_
            refine lv_bipush (v := 20) hx hb dX6_term_52 (by decide) ?_
            refine lv_icmp_ge (tgt := 61) hx hb dX6_term_54 (by decide) (fun c_9 => ?_) (fun c_9 => ?_)
            · have hF := hF.trans (if_pos c_9)
              refine lv_iconst (v := 0) hx hb dX6_term_61 (by decide) ?_
              refine lv_istore (lv' := [(4, .int 0), (3, .int (-x2)), (0, .ref h0), (1, .int x1), (2, .int x2)]) hx hb dX6_term_62 hl (by decide) rfl (fun ls hl => ?_)
              refine lv_aload_n hx hb dX6_term_64 rfl (lv_at hl 2 rfl) ?_
              refine va_get (D := D) hx hb hts inX6 hown hK hP 0 rfl rfl 4 (by decide) (hts _ kw477) (fun _ h9 => h9) rfl dX6_term_65 ?_
              refine lv_aload_n hx hb dX6_term_68 rfl (lv_at hl 2 rfl) ?_
              refine va_get (D := D) hx hb hts inX6 hown hK hP 0 rfl rfl 6 (by decide) (hts _ kw479) (fun _ h9 => h9) rfl dX6_term_69 ?_
              refine va_iald hx hb hK hP 3 0 rfl rfl (okN_inS hCn (by decide) (by decide)) dX6_term_72 ?_
              refine lv_istore (lv' := [(5, .int (v_begins v_constraints.toNatClampNeg)), (4, .int 0), (3, .int (-x2)), (0, .ref h0), (1, .int x1), (2, .int x2)]) hx hb dX6_term_73 hl (by decide) rfl (fun ls hl => ?_)
              have loop75 : ∀ (n : Nat) (k : Nat) (l4 : Int32) (l5 : Int32) , (l5 = nI k ∧ k ≤ 120 ∧ 120 < k + n) → (l4 = 0 ∨ ¬ (120 : Int32) ≤ v_terms) → fX6_term x1 x2 v_constraints v_terms v_begun v_factors v_literals v_begins = fX6_term_L75 x1 x2 v_constraints v_terms v_begun v_factors v_literals v_begins n l4 l5 → ∀ (H : Heap) (locs : List Loc), va_P D vwCl [(h0, .inr (6, [.int v_thrown, .ref h0_costs, .ref h0_factors, .ref h0_literals, .ref h0_begins, .ref h0_bounds, .int v_constraints, .int v_terms, .int v_begun, .int v_done, .int v_over, .int v_set, .int v_ones, .ref h0_trail, .ref h0_choice, .int v_depth, .int v_searchSet, .int v_searchOnes, .int v_best, .int v_bestOnes, .int v_made, .ref h0_log, .int v_size, .int v_answer, .int v_looked, .int v_place, .int v_waiting, .ref h0_waitSet, .ref h0_waitOnes, .ref h0_waitDead])), (h0_factors, .inl (cI, 120, .inl v_factors)), (h0_literals, .inl (cI, 120, .inl v_literals)), (h0_begins, .inl (cI, 22, .inl v_begins))] H → va_D (aw [(h0, .inr (6, [.int v_thrown, .ref h0_costs, .ref h0_factors, .ref h0_literals, .ref h0_begins, .ref h0_bounds, .int v_constraints, .int v_terms, .int v_begun, .int v_done, .int v_over, .int v_set, .int v_ones, .ref h0_trail, .ref h0_choice, .int v_depth, .int v_searchSet, .int v_searchOnes, .int v_best, .int v_bestOnes, .int v_made, .ref h0_log, .int v_size, .int v_answer, .int v_looked, .int v_place, .int v_waiting, .ref h0_waitSet, .ref h0_waitOnes, .ref h0_waitDead])), (h0_factors, .inl (cI, 120, .inl v_factors)), (h0_literals, .inl (cI, 120, .inl v_literals)), (h0_begins, .inl (cI, 22, .inl v_begins))]) [(h0, .inr (6, [.int v_thrown, .ref h0_costs, .ref h0_factors, .ref h0_literals, .ref h0_begins, .ref h0_bounds, .int v_constraints, .int v_terms, .int v_begun, .int v_done, .int v_over, .int v_set, .int v_ones, .ref h0_trail, .ref h0_choice, .int v_depth, .int v_searchSet, .int v_searchOnes, .int v_best, .int v_bestOnes, .int v_made, .ref h0_log, .int v_size, .int v_answer, .int v_looked, .int v_place, .int v_waiting, .ref h0_waitSet, .ref h0_waitOnes, .ref h0_waitDead])), (h0_factors, .inl (cI, 120, .inl v_factors)), (h0_literals, .inl (cI, 120, .inl v_literals)), (h0_begins, .inl (cI, 22, .inl v_begins))] → va_S (aw [(h0, .inr (6, [.int v_thrown, .ref h0_costs, .ref h0_factors, .ref h0_literals, .ref h0_begins, .ref h0_bounds, .int v_constraints, .int v_terms, .int v_begun, .int v_done, .int v_over, .int v_set, .int v_ones, .ref h0_trail, .ref h0_choice, .int v_depth, .int v_searchSet, .int v_searchOnes, .int v_best, .int v_bestOnes, .int v_made, .ref h0_log, .int v_size, .int v_answer, .int v_looked, .int v_place, .int v_waiting, .ref h0_waitSet, .ref h0_waitOnes, .ref h0_waitDead])), (h0_factors, .inl (cI, 120, .inl v_factors)), (h0_literals, .inl (cI, 120, .inl v_literals)), (h0_begins, .inl (cI, 22, .inl v_begins))]) s.heap H locs → ∀ ls : Array Slot, lv_has ls 6 [(4, .int l4), (5, .int l5), (3, .int (-x2)), (0, .ref h0), (1, .int x1), (2, .int x2)] → W p l e { frames := 1, cells := 0, slots := 0, locals := 22 } s m [.ref h0, .int x1, .int x2].toArray below meth c H locs 0 0 (MQ below (wQ D (some (.int ((fX6_term x1 x2 v_constraints v_terms v_begun v_factors v_literals v_begins).1))) [(h0, .inr (6, [.int v_thrown, .ref h0_costs, .ref h0_factors, .ref h0_literals, .ref h0_begins, .ref h0_bounds, .int v_constraints, .int v_terms, .int v_begun, .int v_done, .int v_over, .int v_set, .int v_ones, .ref h0_trail, .ref h0_choice, .int v_depth, .int v_searchSet, .int v_searchOnes, .int v_best, .int v_bestOnes, .int v_made, .ref h0_log, .int v_size, .int v_answer, .int v_looked, .int v_place, .int v_waiting, .ref h0_waitSet, .ref h0_waitOnes, .ref h0_waitDead])), (h0_factors, .inl (cI, 120, .inl v_factors)), (h0_literals, .inl (cI, 120, .inl v_literals)), (h0_begins, .inl (cI, 22, .inl v_begins))] [(h0, .inr (6, [.int v_thrown, .ref h0_costs, .ref h0_factors, .ref h0_literals, .ref h0_begins, .ref h0_bounds, .int v_constraints, .int ((fX6_term x1 x2 v_constraints v_terms v_begun v_factors v_literals v_begins).2.1), .int v_begun, .int v_done, .int v_over, .int v_set, .int v_ones, .ref h0_trail, .ref h0_choice, .int v_depth, .int v_searchSet, .int v_searchOnes, .int v_best, .int v_bestOnes, .int v_made, .ref h0_log, .int v_size, .int v_answer, .int v_looked, .int v_place, .int v_waiting, .ref h0_waitSet, .ref h0_waitOnes, .ref h0_waitDead])), (h0_factors, .inl (cI, 120, .inl ((fX6_term x1 x2 v_constraints v_terms v_begun v_factors v_literals v_begins).2.2.1))), (h0_literals, .inl (cI, 120, .inl ((fX6_term x1 x2 v_constraints v_terms v_begun v_factors v_literals v_begins).2.2.2))), (h0_begins, .inl (cI, 22, .inl v_begins))]) [.ref h0, .int x1, .int x2].toArray s 0 0 (aw [(h0, .inr (6, [.int v_thrown, .ref h0_costs, .ref h0_factors, .ref h0_literals, .ref h0_begins, .ref h0_bounds, .int v_constraints, .int v_terms, .int v_begun, .int v_done, .int v_over, .int v_set, .int v_ones, .ref h0_trail, .ref h0_choice, .int v_depth, .int v_searchSet, .int v_searchOnes, .int v_best, .int v_bestOnes, .int v_made, .ref h0_log, .int v_size, .int v_answer, .int v_looked, .int v_place, .int v_waiting, .ref h0_waitSet, .ref h0_waitOnes, .ref h0_waitDead])), (h0_factors, .inl (cI, 120, .inl v_factors)), (h0_literals, .inl (cI, 120, .inl v_literals)), (h0_begins, .inl (cI, 22, .inl v_begins))])) (F0 m 75 ls []) := by
                intro n
                induction n with
                | zero =>
                  intro k l4 l5 hk hg hF
                  exact (by obtain ⟨_, h2, h3⟩ := hk; exact absurd h3 (by omega))
                | succ n ih =>
                  intro k l4 l5 hk hg hF H locs hP hD hS ls hl
                  have hF := hF.trans (fX6_term_L75.eq_2 ..)
                  obtain ⟨ek, hk1, hk2⟩ := hk
                  refine lv_iload hx hb dX6_term_75 (lv_at hl 0 rfl) ?_
                  refine lv_if_eq (tgt := 125) hx hb dX6_term_77 (by decide) (fun c_3 => ?_) (fun c_3 => ?_)
                  · have hF := hF.trans (if_pos c_3)
                    refine lv_iload hx hb dX6_term_125 (lv_at hl 0 rfl) ?_
                    refine lv_if_ne (tgt := 132) hx hb dX6_term_127 (by decide) (fun c_4 => ?_) (fun c_4 => ?_)
                    · have hF := hF.trans (if_neg c_4)
                      refine lv_aload_n hx hb dX6_term_132 rfl (lv_at hl 3 rfl) ?_
                      refine va_get (D := D) hx hb hts inX6 hown hK hP 0 rfl rfl 2 (by decide) (hts _ kw475) (fun _ h9 => h9) rfl dX6_term_133 ?_
                      refine lv_aload_n hx hb dX6_term_136 rfl (lv_at hl 3 rfl) ?_
                      refine va_get (D := D) hx hb hts inX6 hown hK hP 0 rfl rfl 7 (by decide) (hts _ kw480) (fun _ h9 => h9) rfl dX6_term_137 ?_
                      refine lv_iload_n hx hb dX6_term_140 rfl (lv_at hl 4 rfl) ?_
                      refine va_iast hx hb hK hP hD hS 1 0 rfl rfl (by rcases hg with h | h <;> first | exact absurd h (by assumption) | exact okN_in hT (by decide) (k_lt_of h)) dX6_term_141 (fun H locs hP hD hS => ?_)
                      have hP : va_P D vwCl [(h0, .inr (6, [.int v_thrown, .ref h0_costs, .ref h0_factors, .ref h0_literals, .ref h0_begins, .ref h0_bounds, .int v_constraints, .int v_terms, .int v_begun, .int v_done, .int v_over, .int v_set, .int v_ones, .ref h0_trail, .ref h0_choice, .int v_depth, .int v_searchSet, .int v_searchOnes, .int v_best, .int v_bestOnes, .int v_made, .ref h0_log, .int v_size, .int v_answer, .int v_looked, .int v_place, .int v_waiting, .ref h0_waitSet, .ref h0_waitOnes, .ref h0_waitDead])), (h0_factors, .inl (cI, 120, .inl (upd v_factors v_terms.toNatClampNeg x1))), (h0_literals, .inl (cI, 120, .inl v_literals)), (h0_begins, .inl (cI, 22, .inl v_begins))] H := hP
                      have hD : va_D _ [(h0, .inr (6, [.int v_thrown, .ref h0_costs, .ref h0_factors, .ref h0_literals, .ref h0_begins, .ref h0_bounds, .int v_constraints, .int v_terms, .int v_begun, .int v_done, .int v_over, .int v_set, .int v_ones, .ref h0_trail, .ref h0_choice, .int v_depth, .int v_searchSet, .int v_searchOnes, .int v_best, .int v_bestOnes, .int v_made, .ref h0_log, .int v_size, .int v_answer, .int v_looked, .int v_place, .int v_waiting, .ref h0_waitSet, .ref h0_waitOnes, .ref h0_waitDead])), (h0_factors, .inl (cI, 120, .inl (upd v_factors v_terms.toNatClampNeg x1))), (h0_literals, .inl (cI, 120, .inl v_literals)), (h0_begins, .inl (cI, 22, .inl v_begins))] := hD
                      refine lv_aload_n hx hb dX6_term_142 rfl (lv_at hl 3 rfl) ?_
                      refine va_get (D := D) hx hb hts inX6 hown hK hP 0 rfl rfl 3 (by decide) (hts _ kw476) (fun _ h9 => h9) rfl dX6_term_143 ?_
                      refine lv_aload_n hx hb dX6_term_146 rfl (lv_at hl 3 rfl) ?_
                      refine va_get (D := D) hx hb hts inX6 hown hK hP 0 rfl rfl 7 (by decide) (hts _ kw480) (fun _ h9 => h9) rfl dX6_term_147 ?_
                      refine lv_iload_n hx hb dX6_term_150 rfl (lv_at hl 5 rfl) ?_
                      refine va_iast hx hb hK hP hD hS 2 0 rfl rfl (by rcases hg with h | h <;> first | exact absurd h (by assumption) | exact okN_in hT (by decide) (k_lt_of h)) dX6_term_151 (fun H locs hP hD hS => ?_)
                      have hP : va_P D vwCl [(h0, .inr (6, [.int v_thrown, .ref h0_costs, .ref h0_factors, .ref h0_literals, .ref h0_begins, .ref h0_bounds, .int v_constraints, .int v_terms, .int v_begun, .int v_done, .int v_over, .int v_set, .int v_ones, .ref h0_trail, .ref h0_choice, .int v_depth, .int v_searchSet, .int v_searchOnes, .int v_best, .int v_bestOnes, .int v_made, .ref h0_log, .int v_size, .int v_answer, .int v_looked, .int v_place, .int v_waiting, .ref h0_waitSet, .ref h0_waitOnes, .ref h0_waitDead])), (h0_factors, .inl (cI, 120, .inl (upd v_factors v_terms.toNatClampNeg x1))), (h0_literals, .inl (cI, 120, .inl (upd v_literals v_terms.toNatClampNeg x2))), (h0_begins, .inl (cI, 22, .inl v_begins))] H := hP
                      have hD : va_D _ [(h0, .inr (6, [.int v_thrown, .ref h0_costs, .ref h0_factors, .ref h0_literals, .ref h0_begins, .ref h0_bounds, .int v_constraints, .int v_terms, .int v_begun, .int v_done, .int v_over, .int v_set, .int v_ones, .ref h0_trail, .ref h0_choice, .int v_depth, .int v_searchSet, .int v_searchOnes, .int v_best, .int v_bestOnes, .int v_made, .ref h0_log, .int v_size, .int v_answer, .int v_looked, .int v_place, .int v_waiting, .ref h0_waitSet, .ref h0_waitOnes, .ref h0_waitDead])), (h0_factors, .inl (cI, 120, .inl (upd v_factors v_terms.toNatClampNeg x1))), (h0_literals, .inl (cI, 120, .inl (upd v_literals v_terms.toNatClampNeg x2))), (h0_begins, .inl (cI, 22, .inl v_begins))] := hD
                      refine lv_aload_n hx hb dX6_term_152 rfl (lv_at hl 3 rfl) ?_
                      refine lv_dup hx hb dX6_term_153 rfl ?_
                      refine va_get (D := D) hx hb hts inX6 hown hK hP 0 rfl rfl 7 (by decide) (hts _ kw480) (fun _ h9 => h9) rfl dX6_term_154 ?_
                      refine lv_iconst (v := 1) hx hb dX6_term_157 (by decide) ?_
                      refine lv_iadd hx hb dX6_term_158 ?_
                      refine va_put (D := D) (v := .int (v_terms + 1)) (ty := .int) hx hb hts inX6 tyX6 tyX6_ok nmX6 hown hK hP hD hS 0 rfl rfl 7 (by decide) (hts _ kw480) (fun _ h9 => h9) rfl (by decide +kernel) rfl rfl (Nat.le_of_ble_eq_true rfl) dX6_term_159 (fun H locs hP hD hS => ?_)
                      have hP : va_P D vwCl [(h0, .inr (6, [.int v_thrown, .ref h0_costs, .ref h0_factors, .ref h0_literals, .ref h0_begins, .ref h0_bounds, .int v_constraints, .int (v_terms + 1), .int v_begun, .int v_done, .int v_over, .int v_set, .int v_ones, .ref h0_trail, .ref h0_choice, .int v_depth, .int v_searchSet, .int v_searchOnes, .int v_best, .int v_bestOnes, .int v_made, .ref h0_log, .int v_size, .int v_answer, .int v_looked, .int v_place, .int v_waiting, .ref h0_waitSet, .ref h0_waitOnes, .ref h0_waitDead])), (h0_factors, .inl (cI, 120, .inl (upd v_factors v_terms.toNatClampNeg x1))), (h0_literals, .inl (cI, 120, .inl (upd v_literals v_terms.toNatClampNeg x2))), (h0_begins, .inl (cI, 22, .inl v_begins))] H := hP
                      have hD : va_D _ [(h0, .inr (6, [.int v_thrown, .ref h0_costs, .ref h0_factors, .ref h0_literals, .ref h0_begins, .ref h0_bounds, .int v_constraints, .int (v_terms + 1), .int v_begun, .int v_done, .int v_over, .int v_set, .int v_ones, .ref h0_trail, .ref h0_choice, .int v_depth, .int v_searchSet, .int v_searchOnes, .int v_best, .int v_bestOnes, .int v_made, .ref h0_log, .int v_size, .int v_answer, .int v_looked, .int v_place, .int v_waiting, .ref h0_waitSet, .ref h0_waitOnes, .ref h0_waitDead])), (h0_factors, .inl (cI, 120, .inl (upd v_factors v_terms.toNatClampNeg x1))), (h0_literals, .inl (cI, 120, .inl (upd v_literals v_terms.toNatClampNeg x2))), (h0_begins, .inl (cI, 22, .inl v_begins))] := hD
                      refine lv_iconst (v := 0) hx hb dX6_term_162 (by decide) ?_
                      exact wreti hx hb hr hlocks (by rw [hF]) (by rw [hF]; exact hP) hS dX6_term_163
                    · have hF := hF.trans (if_pos c_4)
                      refine lv_iconst (v := (-1)) hx hb dX6_term_130 (by decide) ?_
                      exact wreti hx hb hr hlocks (by rw [hF]) (by rw [hF]; exact hP) hS dX6_term_131
                  · have hF := hF.trans (if_neg c_3)
                    refine lv_iload hx hb dX6_term_80 (lv_at hl 1 rfl) ?_
                    refine lv_aload_n hx hb dX6_term_82 rfl (lv_at hl 3 rfl) ?_
                    refine va_get (D := D) hx hb hts inX6 hown hK hP 0 rfl rfl 7 (by decide) (hts _ kw480) (fun _ h9 => h9) rfl dX6_term_83 ?_
                    refine lv_icmp_ge (tgt := 125) hx hb dX6_term_86 (by decide) (fun c_5 => ?_) (fun c_5 => ?_)
                    · have hF := hF.trans (if_pos c_5)
                      refine lv_iload hx hb dX6_term_125 (lv_at hl 0 rfl) ?_
                      refine lv_if_ne (tgt := 132) hx hb dX6_term_127 (by decide) (fun c_6 => ?_) (fun c_6 => ?_)
                      · have hF := hF.trans (if_neg c_6)
                        refine lv_aload_n hx hb dX6_term_132 rfl (lv_at hl 3 rfl) ?_
                        refine va_get (D := D) hx hb hts inX6 hown hK hP 0 rfl rfl 2 (by decide) (hts _ kw475) (fun _ h9 => h9) rfl dX6_term_133 ?_
                        refine lv_aload_n hx hb dX6_term_136 rfl (lv_at hl 3 rfl) ?_
                        refine va_get (D := D) hx hb hts inX6 hown hK hP 0 rfl rfl 7 (by decide) (hts _ kw480) (fun _ h9 => h9) rfl dX6_term_137 ?_
                        refine lv_iload_n hx hb dX6_term_140 rfl (lv_at hl 4 rfl) ?_
                        refine va_iast hx hb hK hP hD hS 1 0 rfl rfl (by rcases hg with h | h <;> first | exact absurd h (by assumption) | exact okN_in hT (by decide) (k_lt_of h)) dX6_term_141 (fun H locs hP hD hS => ?_)
                        have hP : va_P D vwCl [(h0, .inr (6, [.int v_thrown, .ref h0_costs, .ref h0_factors, .ref h0_literals, .ref h0_begins, .ref h0_bounds, .int v_constraints, .int v_terms, .int v_begun, .int v_done, .int v_over, .int v_set, .int v_ones, .ref h0_trail, .ref h0_choice, .int v_depth, .int v_searchSet, .int v_searchOnes, .int v_best, .int v_bestOnes, .int v_made, .ref h0_log, .int v_size, .int v_answer, .int v_looked, .int v_place, .int v_waiting, .ref h0_waitSet, .ref h0_waitOnes, .ref h0_waitDead])), (h0_factors, .inl (cI, 120, .inl (upd v_factors v_terms.toNatClampNeg x1))), (h0_literals, .inl (cI, 120, .inl v_literals)), (h0_begins, .inl (cI, 22, .inl v_begins))] H := hP
                        have hD : va_D _ [(h0, .inr (6, [.int v_thrown, .ref h0_costs, .ref h0_factors, .ref h0_literals, .ref h0_begins, .ref h0_bounds, .int v_constraints, .int v_terms, .int v_begun, .int v_done, .int v_over, .int v_set, .int v_ones, .ref h0_trail, .ref h0_choice, .int v_depth, .int v_searchSet, .int v_searchOnes, .int v_best, .int v_bestOnes, .int v_made, .ref h0_log, .int v_size, .int v_answer, .int v_looked, .int v_place, .int v_waiting, .ref h0_waitSet, .ref h0_waitOnes, .ref h0_waitDead])), (h0_factors, .inl (cI, 120, .inl (upd v_factors v_terms.toNatClampNeg x1))), (h0_literals, .inl (cI, 120, .inl v_literals)), (h0_begins, .inl (cI, 22, .inl v_begins))] := hD
                        refine lv_aload_n hx hb dX6_term_142 rfl (lv_at hl 3 rfl) ?_
                        refine va_get (D := D) hx hb hts inX6 hown hK hP 0 rfl rfl 3 (by decide) (hts _ kw476) (fun _ h9 => h9) rfl dX6_term_143 ?_
                        refine lv_aload_n hx hb dX6_term_146 rfl (lv_at hl 3 rfl) ?_
                        refine va_get (D := D) hx hb hts inX6 hown hK hP 0 rfl rfl 7 (by decide) (hts _ kw480) (fun _ h9 => h9) rfl dX6_term_147 ?_
                        refine lv_iload_n hx hb dX6_term_150 rfl (lv_at hl 5 rfl) ?_
                        refine va_iast hx hb hK hP hD hS 2 0 rfl rfl (by rcases hg with h | h <;> first | exact absurd h (by assumption) | exact okN_in hT (by decide) (k_lt_of h)) dX6_term_151 (fun H locs hP hD hS => ?_)
                        have hP : va_P D vwCl [(h0, .inr (6, [.int v_thrown, .ref h0_costs, .ref h0_factors, .ref h0_literals, .ref h0_begins, .ref h0_bounds, .int v_constraints, .int v_terms, .int v_begun, .int v_done, .int v_over, .int v_set, .int v_ones, .ref h0_trail, .ref h0_choice, .int v_depth, .int v_searchSet, .int v_searchOnes, .int v_best, .int v_bestOnes, .int v_made, .ref h0_log, .int v_size, .int v_answer, .int v_looked, .int v_place, .int v_waiting, .ref h0_waitSet, .ref h0_waitOnes, .ref h0_waitDead])), (h0_factors, .inl (cI, 120, .inl (upd v_factors v_terms.toNatClampNeg x1))), (h0_literals, .inl (cI, 120, .inl (upd v_literals v_terms.toNatClampNeg x2))), (h0_begins, .inl (cI, 22, .inl v_begins))] H := hP
                        have hD : va_D _ [(h0, .inr (6, [.int v_thrown, .ref h0_costs, .ref h0_factors, .ref h0_literals, .ref h0_begins, .ref h0_bounds, .int v_constraints, .int v_terms, .int v_begun, .int v_done, .int v_over, .int v_set, .int v_ones, .ref h0_trail, .ref h0_choice, .int v_depth, .int v_searchSet, .int v_searchOnes, .int v_best, .int v_bestOnes, .int v_made, .ref h0_log, .int v_size, .int v_answer, .int v_looked, .int v_place, .int v_waiting, .ref h0_waitSet, .ref h0_waitOnes, .ref h0_waitDead])), (h0_factors, .inl (cI, 120, .inl (upd v_factors v_terms.toNatClampNeg x1))), (h0_literals, .inl (cI, 120, .inl (upd v_literals v_terms.toNatClampNeg x2))), (h0_begins, .inl (cI, 22, .inl v_begins))] := hD
                        refine lv_aload_n hx hb dX6_term_152 rfl (lv_at hl 3 rfl) ?_
                        refine lv_dup hx hb dX6_term_153 rfl ?_
                        refine va_get (D := D) hx hb hts inX6 hown hK hP 0 rfl rfl 7 (by decide) (hts _ kw480) (fun _ h9 => h9) rfl dX6_term_154 ?_
                        refine lv_iconst (v := 1) hx hb dX6_term_157 (by decide) ?_
                        refine lv_iadd hx hb dX6_term_158 ?_
                        refine va_put (D := D) (v := .int (v_terms + 1)) (ty := .int) hx hb hts inX6 tyX6 tyX6_ok nmX6 hown hK hP hD hS 0 rfl rfl 7 (by decide) (hts _ kw480) (fun _ h9 => h9) rfl (by decide +kernel) rfl rfl (Nat.le_of_ble_eq_true rfl) dX6_term_159 (fun H locs hP hD hS => ?_)
                        have hP : va_P D vwCl [(h0, .inr (6, [.int v_thrown, .ref h0_costs, .ref h0_factors, .ref h0_literals, .ref h0_begins, .ref h0_bounds, .int v_constraints, .int (v_terms + 1), .int v_begun, .int v_done, .int v_over, .int v_set, .int v_ones, .ref h0_trail, .ref h0_choice, .int v_depth, .int v_searchSet, .int v_searchOnes, .int v_best, .int v_bestOnes, .int v_made, .ref h0_log, .int v_size, .int v_answer, .int v_looked, .int v_place, .int v_waiting, .ref h0_waitSet, .ref h0_waitOnes, .ref h0_waitDead])), (h0_factors, .inl (cI, 120, .inl (upd v_factors v_terms.toNatClampNeg x1))), (h0_literals, .inl (cI, 120, .inl (upd v_literals v_terms.toNatClampNeg x2))), (h0_begins, .inl (cI, 22, .inl v_begins))] H := hP
                        have hD : va_D _ [(h0, .inr (6, [.int v_thrown, .ref h0_costs, .ref h0_factors, .ref h0_literals, .ref h0_begins, .ref h0_bounds, .int v_constraints, .int (v_terms + 1), .int v_begun, .int v_done, .int v_over, .int v_set, .int v_ones, .ref h0_trail, .ref h0_choice, .int v_depth, .int v_searchSet, .int v_searchOnes, .int v_best, .int v_bestOnes, .int v_made, .ref h0_log, .int v_size, .int v_answer, .int v_looked, .int v_place, .int v_waiting, .ref h0_waitSet, .ref h0_waitOnes, .ref h0_waitDead])), (h0_factors, .inl (cI, 120, .inl (upd v_factors v_terms.toNatClampNeg x1))), (h0_literals, .inl (cI, 120, .inl (upd v_literals v_terms.toNatClampNeg x2))), (h0_begins, .inl (cI, 22, .inl v_begins))] := hD
                        refine lv_iconst (v := 0) hx hb dX6_term_162 (by decide) ?_
                        exact wreti hx hb hr hlocks (by rw [hF]) (by rw [hF]; exact hP) hS dX6_term_163
                      · have hF := hF.trans (if_pos c_6)
                        refine lv_iconst (v := (-1)) hx hb dX6_term_130 (by decide) ?_
                        exact wreti hx hb hr hlocks (by rw [hF]) (by rw [hF]; exact hP) hS dX6_term_131
                    · have hF := hF.trans (if_neg c_5)
                      refine lv_aload_n hx hb dX6_term_89 rfl (lv_at hl 3 rfl) ?_
                      refine va_get (D := D) hx hb hts inX6 hown hK hP 0 rfl rfl 3 (by decide) (hts _ kw476) (fun _ h9 => h9) rfl dX6_term_90 ?_
                      refine lv_iload hx hb dX6_term_93 (lv_at hl 1 rfl) ?_
                      refine va_iald hx hb hK hP 2 0 rfl rfl (k_in ek (by have := okC_lt ek eT hk1 (by assumption); omega) (by decide)) dX6_term_95 ?_
                      refine lv_iload_n hx hb dX6_term_96 rfl (lv_at hl 5 rfl) ?_
                      refine lv_icmp_eq (tgt := 116) hx hb dX6_term_97 (by decide) (fun c_7 => ?_) (fun c_7 => ?_)
                      · have hF := hF.trans (if_pos c_7)
                        refine lv_iconst (v := 0) hx hb dX6_term_116 (by decide) ?_
                        refine lv_istore (lv' := [(4, .int 0), (5, .int l5), (3, .int (-x2)), (0, .ref h0), (1, .int x1), (2, .int x2)]) hx hb dX6_term_117 hl (by decide) rfl (fun ls hl => ?_)
                        refine lv_iinc (v := l5 + 1) (lv' := [(5, .int (l5 + 1)), (4, .int 0), (3, .int (-x2)), (0, .ref h0), (1, .int x1), (2, .int x2)]) hx hb dX6_term_119 hl (k := 1) rfl rfl (by decide) rfl (fun ls hl => ?_)
                        refine lv_goto (tgt := 75) hx hb dX6_term_122 (by decide) ?_
                        exact ih (k + 1) 0 (l5 + 1) ⟨k_s ek, by have := okC_lt ek eT hk1 (by assumption); omega, by omega⟩ (by first | exact Or.inl rfl | (rcases hg with h | h <;> first | exact absurd h (by assumption) | exact Or.inr h)) hF H locs hP hD hS ls (lv_sub hl [1, 0, 2, 3, 4, 5] rfl)
                      · have hF := hF.trans (if_neg c_7)
                        refine lv_aload_n hx hb dX6_term_100 rfl (lv_at hl 3 rfl) ?_
                        refine va_get (D := D) hx hb hts inX6 hown hK hP 0 rfl rfl 3 (by decide) (hts _ kw476) (fun _ h9 => h9) rfl dX6_term_101 ?_
                        refine lv_iload hx hb dX6_term_104 (lv_at hl 1 rfl) ?_
                        refine va_iald hx hb hK hP 2 0 rfl rfl (k_in ek (by have := okC_lt ek eT hk1 (by assumption); omega) (by decide)) dX6_term_106 ?_
                        refine lv_iload_n hx hb dX6_term_107 rfl (lv_at hl 5 rfl) ?_
                        refine lv_ineg hx hb dX6_term_108 ?_
                        refine lv_icmp_eq (tgt := 116) hx hb dX6_term_109 (by decide) (fun c_8 => ?_) (fun c_8 => ?_)
                        · have hF := hF.trans (if_pos c_8)
                          refine lv_iconst (v := 0) hx hb dX6_term_116 (by decide) ?_
                          refine lv_istore (lv' := [(4, .int 0), (5, .int l5), (3, .int (-x2)), (0, .ref h0), (1, .int x1), (2, .int x2)]) hx hb dX6_term_117 hl (by decide) rfl (fun ls hl => ?_)
                          refine lv_iinc (v := l5 + 1) (lv' := [(5, .int (l5 + 1)), (4, .int 0), (3, .int (-x2)), (0, .ref h0), (1, .int x1), (2, .int x2)]) hx hb dX6_term_119 hl (k := 1) rfl rfl (by decide) rfl (fun ls hl => ?_)
                          refine lv_goto (tgt := 75) hx hb dX6_term_122 (by decide) ?_
                          exact ih (k + 1) 0 (l5 + 1) ⟨k_s ek, by have := okC_lt ek eT hk1 (by assumption); omega, by omega⟩ (by first | exact Or.inl rfl | (rcases hg with h | h <;> first | exact absurd h (by assumption) | exact Or.inr h)) hF H locs hP hD hS ls (lv_sub hl [1, 0, 2, 3, 4, 5] rfl)
                        · have hF := hF.trans (if_neg c_8)
                          refine lv_iconst (v := 1) hx hb dX6_term_112 (by decide) ?_
                          refine lv_goto (tgt := 117) hx hb dX6_term_113 (by decide) ?_
                          refine lv_istore (lv' := [(4, .int 1), (5, .int l5), (3, .int (-x2)), (0, .ref h0), (1, .int x1), (2, .int x2)]) hx hb dX6_term_117 hl (by decide) rfl (fun ls hl => ?_)
                          refine lv_iinc (v := l5 + 1) (lv' := [(5, .int (l5 + 1)), (4, .int 1), (3, .int (-x2)), (0, .ref h0), (1, .int x1), (2, .int x2)]) hx hb dX6_term_119 hl (k := 1) rfl rfl (by decide) rfl (fun ls hl => ?_)
                          refine lv_goto (tgt := 75) hx hb dX6_term_122 (by decide) ?_
                          exact ih (k + 1) 1 (l5 + 1) ⟨k_s ek, by have := okC_lt ek eT hk1 (by assumption); omega, by omega⟩ (by first | exact Or.inl rfl | (rcases hg with h | h <;> first | exact absurd h (by assumption) | exact Or.inr h)) hF H locs hP hD hS ls (lv_sub hl [1, 0, 2, 3, 4, 5] rfl)
              exact loop75 121 B 0 (v_begins v_constraints.toNatClampNeg) ⟨eB, by omega, by omega⟩ (by first | exact Or.inl rfl | exact Or.inr (by assumption)) hF _ _ hP hD hS ls (lv_sub hl [1, 0, 2, 3, 4, 5] rfl)
            · have hF := hF.trans (if_neg c_9)
              refine lv_iconst (v := 1) hx hb dX6_term_57 (by decide) ?_
              refine lv_goto (tgt := 62) hx hb dX6_term_58 (by decide) ?_
              refine lv_istore (lv' := [(4, .int 1), (3, .int (-x2)), (0, .ref h0), (1, .int x1), (2, .int x2)]) hx hb dX6_term_62 hl (by decide) rfl (fun ls hl => ?_)
              refine lv_aload_n hx hb dX6_term_64 rfl (lv_at hl 2 rfl) ?_
              refine va_get (D := D) hx hb hts inX6 hown hK hP 0 rfl rfl 4 (by decide) (hts _ kw477) (fun _ h9 => h9) rfl dX6_term_65 ?_
              refine lv_aload_n hx hb dX6_term_68 rfl (lv_at hl 2 rfl) ?_
              refine va_get (D := D) hx hb hts inX6 hown hK hP 0 rfl rfl 6 (by decide) (hts _ kw479) (fun _ h9 => h9) rfl dX6_term_69 ?_
              refine va_iald hx hb hK hP 3 0 rfl rfl (okN_inS hCn (by decide) (by decide)) dX6_term_72 ?_
              refine lv_istore (lv' := [(5, .int (v_begins v_constraints.toNatClampNeg)), (4, .int 1), (3, .int (-x2)), (0, .ref h0), (1, .int x1), (2, .int x2)]) hx hb dX6_term_73 hl (by decide) rfl (fun ls hl => ?_)
              have loop75 : ∀ (n : Nat) (k : Nat) (l4 : Int32) (l5 : Int32) , (l5 = nI k ∧ k ≤ 120 ∧ 120 < k + n) → (l4 = 0 ∨ ¬ (120 : Int32) ≤ v_terms) → fX6_term x1 x2 v_constraints v_terms v_begun v_factors v_literals v_begins = fX6_term_L75 x1 x2 v_constraints v_terms v_begun v_factors v_literals v_begins n l4 l5 → ∀ (H : Heap) (locs : List Loc), va_P D vwCl [(h0, .inr (6, [.int v_thrown, .ref h0_costs, .ref h0_factors, .ref h0_literals, .ref h0_begins, .ref h0_bounds, .int v_constraints, .int v_terms, .int v_begun, .int v_done, .int v_over, .int v_set, .int v_ones, .ref h0_trail, .ref h0_choice, .int v_depth, .int v_searchSet, .int v_searchOnes, .int v_best, .int v_bestOnes, .int v_made, .ref h0_log, .int v_size, .int v_answer, .int v_looked, .int v_place, .int v_waiting, .ref h0_waitSet, .ref h0_waitOnes, .ref h0_waitDead])), (h0_factors, .inl (cI, 120, .inl v_factors)), (h0_literals, .inl (cI, 120, .inl v_literals)), (h0_begins, .inl (cI, 22, .inl v_begins))] H → va_D (aw [(h0, .inr (6, [.int v_thrown, .ref h0_costs, .ref h0_factors, .ref h0_literals, .ref h0_begins, .ref h0_bounds, .int v_constraints, .int v_terms, .int v_begun, .int v_done, .int v_over, .int v_set, .int v_ones, .ref h0_trail, .ref h0_choice, .int v_depth, .int v_searchSet, .int v_searchOnes, .int v_best, .int v_bestOnes, .int v_made, .ref h0_log, .int v_size, .int v_answer, .int v_looked, .int v_place, .int v_waiting, .ref h0_waitSet, .ref h0_waitOnes, .ref h0_waitDead])), (h0_factors, .inl (cI, 120, .inl v_factors)), (h0_literals, .inl (cI, 120, .inl v_literals)), (h0_begins, .inl (cI, 22, .inl v_begins))]) [(h0, .inr (6, [.int v_thrown, .ref h0_costs, .ref h0_factors, .ref h0_literals, .ref h0_begins, .ref h0_bounds, .int v_constraints, .int v_terms, .int v_begun, .int v_done, .int v_over, .int v_set, .int v_ones, .ref h0_trail, .ref h0_choice, .int v_depth, .int v_searchSet, .int v_searchOnes, .int v_best, .int v_bestOnes, .int v_made, .ref h0_log, .int v_size, .int v_answer, .int v_looked, .int v_place, .int v_waiting, .ref h0_waitSet, .ref h0_waitOnes, .ref h0_waitDead])), (h0_factors, .inl (cI, 120, .inl v_factors)), (h0_literals, .inl (cI, 120, .inl v_literals)), (h0_begins, .inl (cI, 22, .inl v_begins))] → va_S (aw [(h0, .inr (6, [.int v_thrown, .ref h0_costs, .ref h0_factors, .ref h0_literals, .ref h0_begins, .ref h0_bounds, .int v_constraints, .int v_terms, .int v_begun, .int v_done, .int v_over, .int v_set, .int v_ones, .ref h0_trail, .ref h0_choice, .int v_depth, .int v_searchSet, .int v_searchOnes, .int v_best, .int v_bestOnes, .int v_made, .ref h0_log, .int v_size, .int v_answer, .int v_looked, .int v_place, .int v_waiting, .ref h0_waitSet, .ref h0_waitOnes, .ref h0_waitDead])), (h0_factors, .inl (cI, 120, .inl v_factors)), (h0_literals, .inl (cI, 120, .inl v_literals)), (h0_begins, .inl (cI, 22, .inl v_begins))]) s.heap H locs → ∀ ls : Array Slot, lv_has ls 6 [(4, .int l4), (5, .int l5), (3, .int (-x2)), (0, .ref h0), (1, .int x1), (2, .int x2)] → W p l e { frames := 1, cells := 0, slots := 0, locals := 22 } s m [.ref h0, .int x1, .int x2].toArray below meth c H locs 0 0 (MQ below (wQ D (some (.int ((fX6_term x1 x2 v_constraints v_terms v_begun v_factors v_literals v_begins).1))) [(h0, .inr (6, [.int v_thrown, .ref h0_costs, .ref h0_factors, .ref h0_literals, .ref h0_begins, .ref h0_bounds, .int v_constraints, .int v_terms, .int v_begun, .int v_done, .int v_over, .int v_set, .int v_ones, .ref h0_trail, .ref h0_choice, .int v_depth, .int v_searchSet, .int v_searchOnes, .int v_best, .int v_bestOnes, .int v_made, .ref h0_log, .int v_size, .int v_answer, .int v_looked, .int v_place, .int v_waiting, .ref h0_waitSet, .ref h0_waitOnes, .ref h0_waitDead])), (h0_factors, .inl (cI, 120, .inl v_factors)), (h0_literals, .inl (cI, 120, .inl v_literals)), (h0_begins, .inl (cI, 22, .inl v_begins))] [(h0, .inr (6, [.int v_thrown, .ref h0_costs, .ref h0_factors, .ref h0_literals, .ref h0_begins, .ref h0_bounds, .int v_constraints, .int ((fX6_term x1 x2 v_constraints v_terms v_begun v_factors v_literals v_begins).2.1), .int v_begun, .int v_done, .int v_over, .int v_set, .int v_ones, .ref h0_trail, .ref h0_choice, .int v_depth, .int v_searchSet, .int v_searchOnes, .int v_best, .int v_bestOnes, .int v_made, .ref h0_log, .int v_size, .int v_answer, .int v_looked, .int v_place, .int v_waiting, .ref h0_waitSet, .ref h0_waitOnes, .ref h0_waitDead])), (h0_factors, .inl (cI, 120, .inl ((fX6_term x1 x2 v_constraints v_terms v_begun v_factors v_literals v_begins).2.2.1))), (h0_literals, .inl (cI, 120, .inl ((fX6_term x1 x2 v_constraints v_terms v_begun v_factors v_literals v_begins).2.2.2))), (h0_begins, .inl (cI, 22, .inl v_begins))]) [.ref h0, .int x1, .int x2].toArray s 0 0 (aw [(h0, .inr (6, [.int v_thrown, .ref h0_costs, .ref h0_factors, .ref h0_literals, .ref h0_begins, .ref h0_bounds, .int v_constraints, .int v_terms, .int v_begun, .int v_done, .int v_over, .int v_set, .int v_ones, .ref h0_trail, .ref h0_choice, .int v_depth, .int v_searchSet, .int v_searchOnes, .int v_best, .int v_bestOnes, .int v_made, .ref h0_log, .int v_size, .int v_answer, .int v_looked, .int v_place, .int v_waiting, .ref h0_waitSet, .ref h0_waitOnes, .ref h0_waitDead])), (h0_factors, .inl (cI, 120, .inl v_factors)), (h0_literals, .inl (cI, 120, .inl v_literals)), (h0_begins, .inl (cI, 22, .inl v_begins))])) (F0 m 75 ls []) := by
                intro n
                induction n with
                | zero =>
                  intro k l4 l5 hk hg hF
                  exact (by obtain ⟨_, h2, h3⟩ := hk; exact absurd h3 (by omega))
                | succ n ih =>
                  intro k l4 l5 hk hg hF H locs hP hD hS ls hl
                  have hF := hF.trans (fX6_term_L75.eq_2 ..)
                  obtain ⟨ek, hk1, hk2⟩ := hk
                  refine lv_iload hx hb dX6_term_75 (lv_at hl 0 rfl) ?_
                  refine lv_if_eq (tgt := 125) hx hb dX6_term_77 (by decide) (fun c_3 => ?_) (fun c_3 => ?_)
                  · have hF := hF.trans (if_pos c_3)
                    refine lv_iload hx hb dX6_term_125 (lv_at hl 0 rfl) ?_
                    refine lv_if_ne (tgt := 132) hx hb dX6_term_127 (by decide) (fun c_4 => ?_) (fun c_4 => ?_)
                    · have hF := hF.trans (if_neg c_4)
                      refine lv_aload_n hx hb dX6_term_132 rfl (lv_at hl 3 rfl) ?_
                      refine va_get (D := D) hx hb hts inX6 hown hK hP 0 rfl rfl 2 (by decide) (hts _ kw475) (fun _ h9 => h9) rfl dX6_term_133 ?_
                      refine lv_aload_n hx hb dX6_term_136 rfl (lv_at hl 3 rfl) ?_
                      refine va_get (D := D) hx hb hts inX6 hown hK hP 0 rfl rfl 7 (by decide) (hts _ kw480) (fun _ h9 => h9) rfl dX6_term_137 ?_
                      refine lv_iload_n hx hb dX6_term_140 rfl (lv_at hl 4 rfl) ?_
                      refine va_iast hx hb hK hP hD hS 1 0 rfl rfl (by rcases hg with h | h <;> first | exact absurd h (by assumption) | exact okN_in hT (by decide) (k_lt_of h)) dX6_term_141 (fun H locs hP hD hS => ?_)
                      have hP : va_P D vwCl [(h0, .inr (6, [.int v_thrown, .ref h0_costs, .ref h0_factors, .ref h0_literals, .ref h0_begins, .ref h0_bounds, .int v_constraints, .int v_terms, .int v_begun, .int v_done, .int v_over, .int v_set, .int v_ones, .ref h0_trail, .ref h0_choice, .int v_depth, .int v_searchSet, .int v_searchOnes, .int v_best, .int v_bestOnes, .int v_made, .ref h0_log, .int v_size, .int v_answer, .int v_looked, .int v_place, .int v_waiting, .ref h0_waitSet, .ref h0_waitOnes, .ref h0_waitDead])), (h0_factors, .inl (cI, 120, .inl (upd v_factors v_terms.toNatClampNeg x1))), (h0_literals, .inl (cI, 120, .inl v_literals)), (h0_begins, .inl (cI, 22, .inl v_begins))] H := hP
                      have hD : va_D _ [(h0, .inr (6, [.int v_thrown, .ref h0_costs, .ref h0_factors, .ref h0_literals, .ref h0_begins, .ref h0_bounds, .int v_constraints, .int v_terms, .int v_begun, .int v_done, .int v_over, .int v_set, .int v_ones, .ref h0_trail, .ref h0_choice, .int v_depth, .int v_searchSet, .int v_searchOnes, .int v_best, .int v_bestOnes, .int v_made, .ref h0_log, .int v_size, .int v_answer, .int v_looked, .int v_place, .int v_waiting, .ref h0_waitSet, .ref h0_waitOnes, .ref h0_waitDead])), (h0_factors, .inl (cI, 120, .inl (upd v_factors v_terms.toNatClampNeg x1))), (h0_literals, .inl (cI, 120, .inl v_literals)), (h0_begins, .inl (cI, 22, .inl v_begins))] := hD
                      refine lv_aload_n hx hb dX6_term_142 rfl (lv_at hl 3 rfl) ?_
                      refine va_get (D := D) hx hb hts inX6 hown hK hP 0 rfl rfl 3 (by decide) (hts _ kw476) (fun _ h9 => h9) rfl dX6_term_143 ?_
                      refine lv_aload_n hx hb dX6_term_146 rfl (lv_at hl 3 rfl) ?_
                      refine va_get (D := D) hx hb hts inX6 hown hK hP 0 rfl rfl 7 (by decide) (hts _ kw480) (fun _ h9 => h9) rfl dX6_term_147 ?_
                      refine lv_iload_n hx hb dX6_term_150 rfl (lv_at hl 5 rfl) ?_
                      refine va_iast hx hb hK hP hD hS 2 0 rfl rfl (by rcases hg with h | h <;> first | exact absurd h (by assumption) | exact okN_in hT (by decide) (k_lt_of h)) dX6_term_151 (fun H locs hP hD hS => ?_)
                      have hP : va_P D vwCl [(h0, .inr (6, [.int v_thrown, .ref h0_costs, .ref h0_factors, .ref h0_literals, .ref h0_begins, .ref h0_bounds, .int v_constraints, .int v_terms, .int v_begun, .int v_done, .int v_over, .int v_set, .int v_ones, .ref h0_trail, .ref h0_choice, .int v_depth, .int v_searchSet, .int v_searchOnes, .int v_best, .int v_bestOnes, .int v_made, .ref h0_log, .int v_size, .int v_answer, .int v_looked, .int v_place, .int v_waiting, .ref h0_waitSet, .ref h0_waitOnes, .ref h0_waitDead])), (h0_factors, .inl (cI, 120, .inl (upd v_factors v_terms.toNatClampNeg x1))), (h0_literals, .inl (cI, 120, .inl (upd v_literals v_terms.toNatClampNeg x2))), (h0_begins, .inl (cI, 22, .inl v_begins))] H := hP
                      have hD : va_D _ [(h0, .inr (6, [.int v_thrown, .ref h0_costs, .ref h0_factors, .ref h0_literals, .ref h0_begins, .ref h0_bounds, .int v_constraints, .int v_terms, .int v_begun, .int v_done, .int v_over, .int v_set, .int v_ones, .ref h0_trail, .ref h0_choice, .int v_depth, .int v_searchSet, .int v_searchOnes, .int v_best, .int v_bestOnes, .int v_made, .ref h0_log, .int v_size, .int v_answer, .int v_looked, .int v_place, .int v_waiting, .ref h0_waitSet, .ref h0_waitOnes, .ref h0_waitDead])), (h0_factors, .inl (cI, 120, .inl (upd v_factors v_terms.toNatClampNeg x1))), (h0_literals, .inl (cI, 120, .inl (upd v_literals v_terms.toNatClampNeg x2))), (h0_begins, .inl (cI, 22, .inl v_begins))] := hD
                      refine lv_aload_n hx hb dX6_term_152 rfl (lv_at hl 3 rfl) ?_
                      refine lv_dup hx hb dX6_term_153 rfl ?_
                      refine va_get (D := D) hx hb hts inX6 hown hK hP 0 rfl rfl 7 (by decide) (hts _ kw480) (fun _ h9 => h9) rfl dX6_term_154 ?_
                      refine lv_iconst (v := 1) hx hb dX6_term_157 (by decide) ?_
                      refine lv_iadd hx hb dX6_term_158 ?_
                      refine va_put (D := D) (v := .int (v_terms + 1)) (ty := .int) hx hb hts inX6 tyX6 tyX6_ok nmX6 hown hK hP hD hS 0 rfl rfl 7 (by decide) (hts _ kw480) (fun _ h9 => h9) rfl (by decide +kernel) rfl rfl (Nat.le_of_ble_eq_true rfl) dX6_term_159 (fun H locs hP hD hS => ?_)
                      have hP : va_P D vwCl [(h0, .inr (6, [.int v_thrown, .ref h0_costs, .ref h0_factors, .ref h0_literals, .ref h0_begins, .ref h0_bounds, .int v_constraints, .int (v_terms + 1), .int v_begun, .int v_done, .int v_over, .int v_set, .int v_ones, .ref h0_trail, .ref h0_choice, .int v_depth, .int v_searchSet, .int v_searchOnes, .int v_best, .int v_bestOnes, .int v_made, .ref h0_log, .int v_size, .int v_answer, .int v_looked, .int v_place, .int v_waiting, .ref h0_waitSet, .ref h0_waitOnes, .ref h0_waitDead])), (h0_factors, .inl (cI, 120, .inl (upd v_factors v_terms.toNatClampNeg x1))), (h0_literals, .inl (cI, 120, .inl (upd v_literals v_terms.toNatClampNeg x2))), (h0_begins, .inl (cI, 22, .inl v_begins))] H := hP
                      have hD : va_D _ [(h0, .inr (6, [.int v_thrown, .ref h0_costs, .ref h0_factors, .ref h0_literals, .ref h0_begins, .ref h0_bounds, .int v_constraints, .int (v_terms + 1), .int v_begun, .int v_done, .int v_over, .int v_set, .int v_ones, .ref h0_trail, .ref h0_choice, .int v_depth, .int v_searchSet, .int v_searchOnes, .int v_best, .int v_bestOnes, .int v_made, .ref h0_log, .int v_size, .int v_answer, .int v_looked, .int v_place, .int v_waiting, .ref h0_waitSet, .ref h0_waitOnes, .ref h0_waitDead])), (h0_factors, .inl (cI, 120, .inl (upd v_factors v_terms.toNatClampNeg x1))), (h0_literals, .inl (cI, 120, .inl (upd v_literals v_terms.toNatClampNeg x2))), (h0_begins, .inl (cI, 22, .inl v_begins))] := hD
                      refine lv_iconst (v := 0) hx hb dX6_term_162 (by decide) ?_
                      exact wreti hx hb hr hlocks (by rw [hF]) (by rw [hF]; exact hP) hS dX6_term_163
                    · have hF := hF.trans (if_pos c_4)
                      refine lv_iconst (v := (-1)) hx hb dX6_term_130 (by decide) ?_
                      exact wreti hx hb hr hlocks (by rw [hF]) (by rw [hF]; exact hP) hS dX6_term_131
                  · have hF := hF.trans (if_neg c_3)
                    refine lv_iload hx hb dX6_term_80 (lv_at hl 1 rfl) ?_
                    refine lv_aload_n hx hb dX6_term_82 rfl (lv_at hl 3 rfl) ?_
                    refine va_get (D := D) hx hb hts inX6 hown hK hP 0 rfl rfl 7 (by decide) (hts _ kw480) (fun _ h9 => h9) rfl dX6_term_83 ?_
                    refine lv_icmp_ge (tgt := 125) hx hb dX6_term_86 (by decide) (fun c_5 => ?_) (fun c_5 => ?_)
                    · have hF := hF.trans (if_pos c_5)
                      refine lv_iload hx hb dX6_term_125 (lv_at hl 0 rfl) ?_
                      refine lv_if_ne (tgt := 132) hx hb dX6_term_127 (by decide) (fun c_6 => ?_) (fun c_6 => ?_)
                      · have hF := hF.trans (if_neg c_6)
                        refine lv_aload_n hx hb dX6_term_132 rfl (lv_at hl 3 rfl) ?_
                        refine va_get (D := D) hx hb hts inX6 hown hK hP 0 rfl rfl 2 (by decide) (hts _ kw475) (fun _ h9 => h9) rfl dX6_term_133 ?_
                        refine lv_aload_n hx hb dX6_term_136 rfl (lv_at hl 3 rfl) ?_
                        refine va_get (D := D) hx hb hts inX6 hown hK hP 0 rfl rfl 7 (by decide) (hts _ kw480) (fun _ h9 => h9) rfl dX6_term_137 ?_
                        refine lv_iload_n hx hb dX6_term_140 rfl (lv_at hl 4 rfl) ?_
                        refine va_iast hx hb hK hP hD hS 1 0 rfl rfl (by rcases hg with h | h <;> first | exact absurd h (by assumption) | exact okN_in hT (by decide) (k_lt_of h)) dX6_term_141 (fun H locs hP hD hS => ?_)
                        have hP : va_P D vwCl [(h0, .inr (6, [.int v_thrown, .ref h0_costs, .ref h0_factors, .ref h0_literals, .ref h0_begins, .ref h0_bounds, .int v_constraints, .int v_terms, .int v_begun, .int v_done, .int v_over, .int v_set, .int v_ones, .ref h0_trail, .ref h0_choice, .int v_depth, .int v_searchSet, .int v_searchOnes, .int v_best, .int v_bestOnes, .int v_made, .ref h0_log, .int v_size, .int v_answer, .int v_looked, .int v_place, .int v_waiting, .ref h0_waitSet, .ref h0_waitOnes, .ref h0_waitDead])), (h0_factors, .inl (cI, 120, .inl (upd v_factors v_terms.toNatClampNeg x1))), (h0_literals, .inl (cI, 120, .inl v_literals)), (h0_begins, .inl (cI, 22, .inl v_begins))] H := hP
                        have hD : va_D _ [(h0, .inr (6, [.int v_thrown, .ref h0_costs, .ref h0_factors, .ref h0_literals, .ref h0_begins, .ref h0_bounds, .int v_constraints, .int v_terms, .int v_begun, .int v_done, .int v_over, .int v_set, .int v_ones, .ref h0_trail, .ref h0_choice, .int v_depth, .int v_searchSet, .int v_searchOnes, .int v_best, .int v_bestOnes, .int v_made, .ref h0_log, .int v_size, .int v_answer, .int v_looked, .int v_place, .int v_waiting, .ref h0_waitSet, .ref h0_waitOnes, .ref h0_waitDead])), (h0_factors, .inl (cI, 120, .inl (upd v_factors v_terms.toNatClampNeg x1))), (h0_literals, .inl (cI, 120, .inl v_literals)), (h0_begins, .inl (cI, 22, .inl v_begins))] := hD
                        refine lv_aload_n hx hb dX6_term_142 rfl (lv_at hl 3 rfl) ?_
                        refine va_get (D := D) hx hb hts inX6 hown hK hP 0 rfl rfl 3 (by decide) (hts _ kw476) (fun _ h9 => h9) rfl dX6_term_143 ?_
                        refine lv_aload_n hx hb dX6_term_146 rfl (lv_at hl 3 rfl) ?_
                        refine va_get (D := D) hx hb hts inX6 hown hK hP 0 rfl rfl 7 (by decide) (hts _ kw480) (fun _ h9 => h9) rfl dX6_term_147 ?_
                        refine lv_iload_n hx hb dX6_term_150 rfl (lv_at hl 5 rfl) ?_
                        refine va_iast hx hb hK hP hD hS 2 0 rfl rfl (by rcases hg with h | h <;> first | exact absurd h (by assumption) | exact okN_in hT (by decide) (k_lt_of h)) dX6_term_151 (fun H locs hP hD hS => ?_)
                        have hP : va_P D vwCl [(h0, .inr (6, [.int v_thrown, .ref h0_costs, .ref h0_factors, .ref h0_literals, .ref h0_begins, .ref h0_bounds, .int v_constraints, .int v_terms, .int v_begun, .int v_done, .int v_over, .int v_set, .int v_ones, .ref h0_trail, .ref h0_choice, .int v_depth, .int v_searchSet, .int v_searchOnes, .int v_best, .int v_bestOnes, .int v_made, .ref h0_log, .int v_size, .int v_answer, .int v_looked, .int v_place, .int v_waiting, .ref h0_waitSet, .ref h0_waitOnes, .ref h0_waitDead])), (h0_factors, .inl (cI, 120, .inl (upd v_factors v_terms.toNatClampNeg x1))), (h0_literals, .inl (cI, 120, .inl (upd v_literals v_terms.toNatClampNeg x2))), (h0_begins, .inl (cI, 22, .inl v_begins))] H := hP
                        have hD : va_D _ [(h0, .inr (6, [.int v_thrown, .ref h0_costs, .ref h0_factors, .ref h0_literals, .ref h0_begins, .ref h0_bounds, .int v_constraints, .int v_terms, .int v_begun, .int v_done, .int v_over, .int v_set, .int v_ones, .ref h0_trail, .ref h0_choice, .int v_depth, .int v_searchSet, .int v_searchOnes, .int v_best, .int v_bestOnes, .int v_made, .ref h0_log, .int v_size, .int v_answer, .int v_looked, .int v_place, .int v_waiting, .ref h0_waitSet, .ref h0_waitOnes, .ref h0_waitDead])), (h0_factors, .inl (cI, 120, .inl (upd v_factors v_terms.toNatClampNeg x1))), (h0_literals, .inl (cI, 120, .inl (upd v_literals v_terms.toNatClampNeg x2))), (h0_begins, .inl (cI, 22, .inl v_begins))] := hD
                        refine lv_aload_n hx hb dX6_term_152 rfl (lv_at hl 3 rfl) ?_
                        refine lv_dup hx hb dX6_term_153 rfl ?_
                        refine va_get (D := D) hx hb hts inX6 hown hK hP 0 rfl rfl 7 (by decide) (hts _ kw480) (fun _ h9 => h9) rfl dX6_term_154 ?_
                        refine lv_iconst (v := 1) hx hb dX6_term_157 (by decide) ?_
                        refine lv_iadd hx hb dX6_term_158 ?_
                        refine va_put (D := D) (v := .int (v_terms + 1)) (ty := .int) hx hb hts inX6 tyX6 tyX6_ok nmX6 hown hK hP hD hS 0 rfl rfl 7 (by decide) (hts _ kw480) (fun _ h9 => h9) rfl (by decide +kernel) rfl rfl (Nat.le_of_ble_eq_true rfl) dX6_term_159 (fun H locs hP hD hS => ?_)
                        have hP : va_P D vwCl [(h0, .inr (6, [.int v_thrown, .ref h0_costs, .ref h0_factors, .ref h0_literals, .ref h0_begins, .ref h0_bounds, .int v_constraints, .int (v_terms + 1), .int v_begun, .int v_done, .int v_over, .int v_set, .int v_ones, .ref h0_trail, .ref h0_choice, .int v_depth, .int v_searchSet, .int v_searchOnes, .int v_best, .int v_bestOnes, .int v_made, .ref h0_log, .int v_size, .int v_answer, .int v_looked, .int v_place, .int v_waiting, .ref h0_waitSet, .ref h0_waitOnes, .ref h0_waitDead])), (h0_factors, .inl (cI, 120, .inl (upd v_factors v_terms.toNatClampNeg x1))), (h0_literals, .inl (cI, 120, .inl (upd v_literals v_terms.toNatClampNeg x2))), (h0_begins, .inl (cI, 22, .inl v_begins))] H := hP
                        have hD : va_D _ [(h0, .inr (6, [.int v_thrown, .ref h0_costs, .ref h0_factors, .ref h0_literals, .ref h0_begins, .ref h0_bounds, .int v_constraints, .int (v_terms + 1), .int v_begun, .int v_done, .int v_over, .int v_set, .int v_ones, .ref h0_trail, .ref h0_choice, .int v_depth, .int v_searchSet, .int v_searchOnes, .int v_best, .int v_bestOnes, .int v_made, .ref h0_log, .int v_size, .int v_answer, .int v_looked, .int v_place, .int v_waiting, .ref h0_waitSet, .ref h0_waitOnes, .ref h0_waitDead])), (h0_factors, .inl (cI, 120, .inl (upd v_factors v_terms.toNatClampNeg x1))), (h0_literals, .inl (cI, 120, .inl (upd v_literals v_terms.toNatClampNeg x2))), (h0_begins, .inl (cI, 22, .inl v_begins))] := hD
                        refine lv_iconst (v := 0) hx hb dX6_term_162 (by decide) ?_
                        exact wreti hx hb hr hlocks (by rw [hF]) (by rw [hF]; exact hP) hS dX6_term_163
                      · have hF := hF.trans (if_pos c_6)
                        refine lv_iconst (v := (-1)) hx hb dX6_term_130 (by decide) ?_
                        exact wreti hx hb hr hlocks (by rw [hF]) (by rw [hF]; exact hP) hS dX6_term_131
                    · have hF := hF.trans (if_neg c_5)
                      refine lv_aload_n hx hb dX6_term_89 rfl (lv_at hl 3 rfl) ?_
                      refine va_get (D := D) hx hb hts inX6 hown hK hP 0 rfl rfl 3 (by decide) (hts _ kw476) (fun _ h9 => h9) rfl dX6_term_90 ?_
                      refine lv_iload hx hb dX6_term_93 (lv_at hl 1 rfl) ?_
                      refine va_iald hx hb hK hP 2 0 rfl rfl (k_in ek (by have := okC_lt ek eT hk1 (by assumption); omega) (by decide)) dX6_term_95 ?_
                      refine lv_iload_n hx hb dX6_term_96 rfl (lv_at hl 5 rfl) ?_
                      refine lv_icmp_eq (tgt := 116) hx hb dX6_term_97 (by decide) (fun c_7 => ?_) (fun c_7 => ?_)
                      · have hF := hF.trans (if_pos c_7)
                        refine lv_iconst (v := 0) hx hb dX6_term_116 (by decide) ?_
                        refine lv_istore (lv' := [(4, .int 0), (5, .int l5), (3, .int (-x2)), (0, .ref h0), (1, .int x1), (2, .int x2)]) hx hb dX6_term_117 hl (by decide) rfl (fun ls hl => ?_)
                        refine lv_iinc (v := l5 + 1) (lv' := [(5, .int (l5 + 1)), (4, .int 0), (3, .int (-x2)), (0, .ref h0), (1, .int x1), (2, .int x2)]) hx hb dX6_term_119 hl (k := 1) rfl rfl (by decide) rfl (fun ls hl => ?_)
                        refine lv_goto (tgt := 75) hx hb dX6_term_122 (by decide) ?_
                        exact ih (k + 1) 0 (l5 + 1) ⟨k_s ek, by have := okC_lt ek eT hk1 (by assumption); omega, by omega⟩ (by first | exact Or.inl rfl | (rcases hg with h | h <;> first | exact absurd h (by assumption) | exact Or.inr h)) hF H locs hP hD hS ls (lv_sub hl [1, 0, 2, 3, 4, 5] rfl)
                      · have hF := hF.trans (if_neg c_7)
                        refine lv_aload_n hx hb dX6_term_100 rfl (lv_at hl 3 rfl) ?_
                        refine va_get (D := D) hx hb hts inX6 hown hK hP 0 rfl rfl 3 (by decide) (hts _ kw476) (fun _ h9 => h9) rfl dX6_term_101 ?_
                        refine lv_iload hx hb dX6_term_104 (lv_at hl 1 rfl) ?_
                        refine va_iald hx hb hK hP 2 0 rfl rfl (k_in ek (by have := okC_lt ek eT hk1 (by assumption); omega) (by decide)) dX6_term_106 ?_
                        refine lv_iload_n hx hb dX6_term_107 rfl (lv_at hl 5 rfl) ?_
                        refine lv_ineg hx hb dX6_term_108 ?_
                        refine lv_icmp_eq (tgt := 116) hx hb dX6_term_109 (by decide) (fun c_8 => ?_) (fun c_8 => ?_)
                        · have hF := hF.trans (if_pos c_8)
                          refine lv_iconst (v := 0) hx hb dX6_term_116 (by decide) ?_
                          refine lv_istore (lv' := [(4, .int 0), (5, .int l5), (3, .int (-x2)), (0, .ref h0), (1, .int x1), (2, .int x2)]) hx hb dX6_term_117 hl (by decide) rfl (fun ls hl => ?_)
                          refine lv_iinc (v := l5 + 1) (lv' := [(5, .int (l5 + 1)), (4, .int 0), (3, .int (-x2)), (0, .ref h0), (1, .int x1), (2, .int x2)]) hx hb dX6_term_119 hl (k := 1) rfl rfl (by decide) rfl (fun ls hl => ?_)
                          refine lv_goto (tgt := 75) hx hb dX6_term_122 (by decide) ?_
                          exact ih (k + 1) 0 (l5 + 1) ⟨k_s ek, by have := okC_lt ek eT hk1 (by assumption); omega, by omega⟩ (by first | exact Or.inl rfl | (rcases hg with h | h <;> first | exact absurd h (by assumption) | exact Or.inr h)) hF H locs hP hD hS ls (lv_sub hl [1, 0, 2, 3, 4, 5] rfl)
                        · have hF := hF.trans (if_neg c_8)
                          refine lv_iconst (v := 1) hx hb dX6_term_112 (by decide) ?_
                          refine lv_goto (tgt := 117) hx hb dX6_term_113 (by decide) ?_
                          refine lv_istore (lv' := [(4, .int 1), (5, .int l5), (3, .int (-x2)), (0, .ref h0), (1, .int x1), (2, .int x2)]) hx hb dX6_term_117 hl (by decide) rfl (fun ls hl => ?_)
                          refine lv_iinc (v := l5 + 1) (lv' := [(5, .int (l5 + 1)), (4, .int 1), (3, .int (-x2)), (0, .ref h0), (1, .int x1), (2, .int x2)]) hx hb dX6_term_119 hl (k := 1) rfl rfl (by decide) rfl (fun ls hl => ?_)
                          refine lv_goto (tgt := 75) hx hb dX6_term_122 (by decide) ?_
                          exact ih (k + 1) 1 (l5 + 1) ⟨k_s ek, by have := okC_lt ek eT hk1 (by assumption); omega, by omega⟩ (by first | exact Or.inl rfl | (rcases hg with h | h <;> first | exact absurd h (by assumption) | exact Or.inr h)) hF H locs hP hD hS ls (lv_sub hl [1, 0, 2, 3, 4, 5] rfl)
              exact loop75 121 B 1 (v_begins v_constraints.toNatClampNeg) ⟨eB, by omega, by omega⟩ (by first | exact Or.inl rfl | exact Or.inr (by assumption)) hF _ _ hP hD hS ls (lv_sub hl [1, 0, 2, 3, 4, 5] rfl)

-- LeastCostModel.end
theorem pmX6_end : mFit yX6_end 1 := ⟨by decide +kernel, by decide +kernel, by decide +kernel⟩
noncomputable def fX6_end_d (x1 : Int32) (v_constraints : Int32) (v_terms : Int32) (v_begun : Int32) (v_begins : Nat → Int32) (v_bounds : Nat → Int32) : Int32 × Int32 × (Nat → Int32) × (Nat → Int32) :=
  (if v_begun = 0 then (if (fX6_isIn x1 0 1073741824) = 0 then ((-1), v_constraints, v_begins, v_bounds) else (if v_constraints = 20 then ((-1), v_constraints, v_begins, v_bounds) else ((v_constraints + 1) - 1, v_constraints + 1, (upd v_begins (v_constraints + 1).toNatClampNeg v_terms), (upd v_bounds v_constraints.toNatClampNeg x1)))) else ((-1), v_constraints, v_begins, v_bounds))
theorem fX6_end_ex : ∃ f : Int32 → Int32 → Int32 → Int32 → (Nat → Int32) → (Nat → Int32) → (Int32 × Int32 × (Nat → Int32) × (Nat → Int32)), ∀ (x1 : Int32) (v_constraints : Int32) (v_terms : Int32) (v_begun : Int32) (v_begins : Nat → Int32) (v_bounds : Nat → Int32), f x1 v_constraints v_terms v_begun v_begins v_bounds = fX6_end_d x1 v_constraints v_terms v_begun v_begins v_bounds := ⟨fX6_end_d, fun _ _ _ _ _ _ => rfl⟩
noncomputable def fX6_end : Int32 → Int32 → Int32 → Int32 → (Nat → Int32) → (Nat → Int32) → (Int32 × Int32 × (Nat → Int32) × (Nat → Int32)) := Classical.choose fX6_end_ex
theorem fX6_end_eq (x1 : Int32) (v_constraints : Int32) (v_terms : Int32) (v_begun : Int32) (v_begins : Nat → Int32) (v_bounds : Nat → Int32) : fX6_end x1 v_constraints v_terms v_begun v_begins v_bounds = fX6_end_d x1 v_constraints v_terms v_begun v_begins v_bounds := Classical.choose_spec fX6_end_ex x1 v_constraints v_terms v_begun v_begins v_bounds
set_option maxHeartbeats 1000000 in
set_option maxRecDepth 100000 in
theorem ctX6_end (l : Launch) (D : va_G) (cI cZ : ClassId) (h0 h0_costs h0_factors h0_literals h0_begins h0_bounds h0_trail h0_choice h0_log h0_waitSet h0_waitOnes h0_waitDead : Nat) (x1 : Int32) (v_thrown v_constraints v_terms v_begun v_done v_over v_set v_ones v_depth v_searchSet v_searchOnes v_best v_bestOnes v_made v_size v_answer v_looked v_place v_waiting : Int32) (v_begins v_bounds : Nat → Int32) (hCn : okN 20 v_constraints) : Met l yX6_end (gw yX6_end cX6_end 2 (some .int)) { frames := 1, cells := 0, slots := 0, locals := 22 } (wPc D cI cZ [.ref h0, .int x1] [(h0, .inr (6, [.int v_thrown, .ref h0_costs, .ref h0_factors, .ref h0_literals, .ref h0_begins, .ref h0_bounds, .int v_constraints, .int v_terms, .int v_begun, .int v_done, .int v_over, .int v_set, .int v_ones, .ref h0_trail, .ref h0_choice, .int v_depth, .int v_searchSet, .int v_searchOnes, .int v_best, .int v_bestOnes, .int v_made, .ref h0_log, .int v_size, .int v_answer, .int v_looked, .int v_place, .int v_waiting, .ref h0_waitSet, .ref h0_waitOnes, .ref h0_waitDead])), (h0_begins, .inl (cI, 22, .inl v_begins)), (h0_bounds, .inl (cI, 21, .inl v_bounds))]) (wQ D (some (.int ((fX6_end x1 v_constraints v_terms v_begun v_begins v_bounds).1))) [(h0, .inr (6, [.int v_thrown, .ref h0_costs, .ref h0_factors, .ref h0_literals, .ref h0_begins, .ref h0_bounds, .int v_constraints, .int v_terms, .int v_begun, .int v_done, .int v_over, .int v_set, .int v_ones, .ref h0_trail, .ref h0_choice, .int v_depth, .int v_searchSet, .int v_searchOnes, .int v_best, .int v_bestOnes, .int v_made, .ref h0_log, .int v_size, .int v_answer, .int v_looked, .int v_place, .int v_waiting, .ref h0_waitSet, .ref h0_waitOnes, .ref h0_waitDead])), (h0_begins, .inl (cI, 22, .inl v_begins)), (h0_bounds, .inl (cI, 21, .inl v_bounds))] [(h0, .inr (6, [.int v_thrown, .ref h0_costs, .ref h0_factors, .ref h0_literals, .ref h0_begins, .ref h0_bounds, .int ((fX6_end x1 v_constraints v_terms v_begun v_begins v_bounds).2.1), .int v_terms, .int v_begun, .int v_done, .int v_over, .int v_set, .int v_ones, .ref h0_trail, .ref h0_choice, .int v_depth, .int v_searchSet, .int v_searchOnes, .int v_best, .int v_bestOnes, .int v_made, .ref h0_log, .int v_size, .int v_answer, .int v_looked, .int v_place, .int v_waiting, .ref h0_waitSet, .ref h0_waitOnes, .ref h0_waitDead])), (h0_begins, .inl (cI, 22, .inl ((fX6_end x1 v_constraints v_terms v_begun v_begins v_bounds).2.2.1))), (h0_bounds, .inl (cI, 21, .inl ((fX6_end x1 v_constraints v_terms v_begun v_begins v_bounds).2.2.2)))]) 0 0 (aw [(h0, .inr (6, [.int v_thrown, .ref h0_costs, .ref h0_factors, .ref h0_literals, .ref h0_begins, .ref h0_bounds, .int v_constraints, .int v_terms, .int v_begun, .int v_done, .int v_over, .int v_set, .int v_ones, .ref h0_trail, .ref h0_choice, .int v_depth, .int v_searchSet, .int v_searchOnes, .int v_best, .int v_bestOnes, .int v_made, .ref h0_log, .int v_size, .int v_answer, .int v_looked, .int v_place, .int v_waiting, .ref h0_waitSet, .ref h0_waitOnes, .ref h0_waitDead])), (h0_begins, .inl (cI, 22, .inl v_begins)), (h0_bounds, .inl (cI, 21, .inl v_bounds))]) := by
  refine wMet (by decide) (Nat.le_of_ble_eq_true rfl) ?_
  intro p e s m below meth c hx hb hr hlocks hml hown hts hP hK hN hD hS ls hl
  have hl : lv_has ls 2 [(0, .ref h0), (1, .int x1)] := hl
  have hF := (fX6_end_eq x1 v_constraints v_terms v_begun v_begins v_bounds).trans (fX6_end_d.eq_1 x1 v_constraints v_terms v_begun v_begins v_bounds)
  refine lv_aload_n hx hb dX6_end_0 rfl (lv_at hl 0 rfl) ?_
  refine va_get (D := D) hx hb hts inX6 hown hK hP 0 rfl rfl 8 (by decide) (hts _ kw481) (fun _ h9 => h9) rfl dX6_end_1 ?_
  refine lv_if_ne (tgt := 26) hx hb dX6_end_4 (by decide) (fun c_1 => ?_) (fun c_1 => ?_)
  · have hF := hF.trans (if_neg c_1)
    refine lv_iconst (v := (-1)) hx hb dX6_end_26 (by decide) ?_
    exact wreti hx hb hr hlocks (by rw [hF]) (by rw [hF]; exact hP) hS dX6_end_27
  · have hF := hF.trans (if_pos c_1)
    refine lv_iload_n hx hb dX6_end_7 rfl (lv_at hl 1 rfl) ?_
    refine lv_iconst (v := 0) hx hb dX6_end_8 (by decide) ?_
    refine lv_ldc (v := 1073741824) hx hb hown (hts _ kw579) dX6_end_9 ?_
    have hPc : va_P D vwCl [] _ := hP.sub [] rfl
    refine rback (va_runS (As := [.int x1, .int 0, .int 1073741824]) (rest := []) ⟨hx, hb, hml, hown, hts⟩ (ctX6_isIn l D cI cZ x1 0 1073741824) ⟨(cB hts kw570 kw568 kw58 pmX6_isIn ⟨Nat.le_of_ble_eq_true rfl, Nat.le_of_ble_eq_true rfl⟩), hts _ kw569⟩ ⟨rPc_blind, rpre hPc hK hN⟩ rfl rfl hl.1 rfl (lv_room (Nat.le_of_ble_eq_true rfl)) dX6_end_11 ⟨Nat.zero_le _, Nat.zero_le _⟩) ?_
    refine lv_if_eq (tgt := 26) hx hb dX6_end_14 (by decide) (fun c_2 => ?_) (fun c_2 => ?_)
    · have hF := hF.trans (if_pos c_2)
      refine lv_iconst (v := (-1)) hx hb dX6_end_26 (by decide) ?_
      exact wreti hx hb hr hlocks (by rw [hF]) (by rw [hF]; exact hP) hS dX6_end_27
    · have hF := hF.trans (if_neg c_2)
      refine lv_aload_n hx hb dX6_end_17 rfl (lv_at hl 0 rfl) ?_
      refine va_get (D := D) hx hb hts inX6 hown hK hP 0 rfl rfl 6 (by decide) (hts _ kw479) (fun _ h9 => h9) rfl dX6_end_18 ?_
      refine lv_bipush (v := 20) hx hb dX6_end_21 (by decide) ?_
      refine lv_icmp_ne (tgt := 28) hx hb dX6_end_23 (by decide) (fun c_3 => ?_) (fun c_3 => ?_)
      · have hF := hF.trans (if_neg c_3)
        refine lv_aload_n hx hb dX6_end_28 rfl (lv_at hl 0 rfl) ?_
        refine va_get (D := D) hx hb hts inX6 hown hK hP 0 rfl rfl 5 (by decide) (hts _ kw478) (fun _ h9 => h9) rfl dX6_end_29 ?_
        refine lv_aload_n hx hb dX6_end_32 rfl (lv_at hl 0 rfl) ?_
        refine va_get (D := D) hx hb hts inX6 hown hK hP 0 rfl rfl 6 (by decide) (hts _ kw479) (fun _ h9 => h9) rfl dX6_end_33 ?_
        refine lv_iload_n hx hb dX6_end_36 rfl (lv_at hl 1 rfl) ?_
        refine va_iast hx hb hK hP hD hS 2 0 rfl rfl (okN_inS hCn (by decide) (by decide)) dX6_end_37 (fun H locs hP hD hS => ?_)
        have hP : va_P D vwCl [(h0, .inr (6, [.int v_thrown, .ref h0_costs, .ref h0_factors, .ref h0_literals, .ref h0_begins, .ref h0_bounds, .int v_constraints, .int v_terms, .int v_begun, .int v_done, .int v_over, .int v_set, .int v_ones, .ref h0_trail, .ref h0_choice, .int v_depth, .int v_searchSet, .int v_searchOnes, .int v_best, .int v_bestOnes, .int v_made, .ref h0_log, .int v_size, .int v_answer, .int v_looked, .int v_place, .int v_waiting, .ref h0_waitSet, .ref h0_waitOnes, .ref h0_waitDead])), (h0_begins, .inl (cI, 22, .inl v_begins)), (h0_bounds, .inl (cI, 21, .inl (upd v_bounds v_constraints.toNatClampNeg x1)))] H := hP
        have hD : va_D _ [(h0, .inr (6, [.int v_thrown, .ref h0_costs, .ref h0_factors, .ref h0_literals, .ref h0_begins, .ref h0_bounds, .int v_constraints, .int v_terms, .int v_begun, .int v_done, .int v_over, .int v_set, .int v_ones, .ref h0_trail, .ref h0_choice, .int v_depth, .int v_searchSet, .int v_searchOnes, .int v_best, .int v_bestOnes, .int v_made, .ref h0_log, .int v_size, .int v_answer, .int v_looked, .int v_place, .int v_waiting, .ref h0_waitSet, .ref h0_waitOnes, .ref h0_waitDead])), (h0_begins, .inl (cI, 22, .inl v_begins)), (h0_bounds, .inl (cI, 21, .inl (upd v_bounds v_constraints.toNatClampNeg x1)))] := hD
        refine lv_aload_n hx hb dX6_end_38 rfl (lv_at hl 0 rfl) ?_
        refine lv_dup hx hb dX6_end_39 rfl ?_
        refine va_get (D := D) hx hb hts inX6 hown hK hP 0 rfl rfl 6 (by decide) (hts _ kw479) (fun _ h9 => h9) rfl dX6_end_40 ?_
        refine lv_iconst (v := 1) hx hb dX6_end_43 (by decide) ?_
        refine lv_iadd hx hb dX6_end_44 ?_
        refine va_put (D := D) (v := .int (v_constraints + 1)) (ty := .int) hx hb hts inX6 tyX6 tyX6_ok nmX6 hown hK hP hD hS 0 rfl rfl 6 (by decide) (hts _ kw479) (fun _ h9 => h9) rfl (by decide +kernel) rfl rfl (Nat.le_of_ble_eq_true rfl) dX6_end_45 (fun H locs hP hD hS => ?_)
        have hP : va_P D vwCl [(h0, .inr (6, [.int v_thrown, .ref h0_costs, .ref h0_factors, .ref h0_literals, .ref h0_begins, .ref h0_bounds, .int (v_constraints + 1), .int v_terms, .int v_begun, .int v_done, .int v_over, .int v_set, .int v_ones, .ref h0_trail, .ref h0_choice, .int v_depth, .int v_searchSet, .int v_searchOnes, .int v_best, .int v_bestOnes, .int v_made, .ref h0_log, .int v_size, .int v_answer, .int v_looked, .int v_place, .int v_waiting, .ref h0_waitSet, .ref h0_waitOnes, .ref h0_waitDead])), (h0_begins, .inl (cI, 22, .inl v_begins)), (h0_bounds, .inl (cI, 21, .inl (upd v_bounds v_constraints.toNatClampNeg x1)))] H := hP
        have hD : va_D _ [(h0, .inr (6, [.int v_thrown, .ref h0_costs, .ref h0_factors, .ref h0_literals, .ref h0_begins, .ref h0_bounds, .int (v_constraints + 1), .int v_terms, .int v_begun, .int v_done, .int v_over, .int v_set, .int v_ones, .ref h0_trail, .ref h0_choice, .int v_depth, .int v_searchSet, .int v_searchOnes, .int v_best, .int v_bestOnes, .int v_made, .ref h0_log, .int v_size, .int v_answer, .int v_looked, .int v_place, .int v_waiting, .ref h0_waitSet, .ref h0_waitOnes, .ref h0_waitDead])), (h0_begins, .inl (cI, 22, .inl v_begins)), (h0_bounds, .inl (cI, 21, .inl (upd v_bounds v_constraints.toNatClampNeg x1)))] := hD
        refine lv_aload_n hx hb dX6_end_48 rfl (lv_at hl 0 rfl) ?_
        refine va_get (D := D) hx hb hts inX6 hown hK hP 0 rfl rfl 4 (by decide) (hts _ kw477) (fun _ h9 => h9) rfl dX6_end_49 ?_
        refine lv_aload_n hx hb dX6_end_52 rfl (lv_at hl 0 rfl) ?_
        refine va_get (D := D) hx hb hts inX6 hown hK hP 0 rfl rfl 6 (by decide) (hts _ kw479) (fun _ h9 => h9) rfl dX6_end_53 ?_
        refine lv_aload_n hx hb dX6_end_56 rfl (lv_at hl 0 rfl) ?_
        refine va_get (D := D) hx hb hts inX6 hown hK hP 0 rfl rfl 7 (by decide) (hts _ kw480) (fun _ h9 => h9) rfl dX6_end_57 ?_
        refine va_iast hx hb hK hP hD hS 1 0 rfl rfl (okN_inS1 hCn (by decide) (by decide)) dX6_end_60 (fun H locs hP hD hS => ?_)
        have hP : va_P D vwCl [(h0, .inr (6, [.int v_thrown, .ref h0_costs, .ref h0_factors, .ref h0_literals, .ref h0_begins, .ref h0_bounds, .int (v_constraints + 1), .int v_terms, .int v_begun, .int v_done, .int v_over, .int v_set, .int v_ones, .ref h0_trail, .ref h0_choice, .int v_depth, .int v_searchSet, .int v_searchOnes, .int v_best, .int v_bestOnes, .int v_made, .ref h0_log, .int v_size, .int v_answer, .int v_looked, .int v_place, .int v_waiting, .ref h0_waitSet, .ref h0_waitOnes, .ref h0_waitDead])), (h0_begins, .inl (cI, 22, .inl (upd v_begins (v_constraints + 1).toNatClampNeg v_terms))), (h0_bounds, .inl (cI, 21, .inl (upd v_bounds v_constraints.toNatClampNeg x1)))] H := hP
        have hD : va_D _ [(h0, .inr (6, [.int v_thrown, .ref h0_costs, .ref h0_factors, .ref h0_literals, .ref h0_begins, .ref h0_bounds, .int (v_constraints + 1), .int v_terms, .int v_begun, .int v_done, .int v_over, .int v_set, .int v_ones, .ref h0_trail, .ref h0_choice, .int v_depth, .int v_searchSet, .int v_searchOnes, .int v_best, .int v_bestOnes, .int v_made, .ref h0_log, .int v_size, .int v_answer, .int v_looked, .int v_place, .int v_waiting, .ref h0_waitSet, .ref h0_waitOnes, .ref h0_waitDead])), (h0_begins, .inl (cI, 22, .inl (upd v_begins (v_constraints + 1).toNatClampNeg v_terms))), (h0_bounds, .inl (cI, 21, .inl (upd v_bounds v_constraints.toNatClampNeg x1)))] := hD
        refine lv_aload_n hx hb dX6_end_61 rfl (lv_at hl 0 rfl) ?_
        refine va_get (D := D) hx hb hts inX6 hown hK hP 0 rfl rfl 6 (by decide) (hts _ kw479) (fun _ h9 => h9) rfl dX6_end_62 ?_
        refine lv_iconst (v := 1) hx hb dX6_end_65 (by decide) ?_
        refine lv_isub hx hb dX6_end_66 ?_
        exact wreti hx hb hr hlocks (by rw [hF]) (by rw [hF]; exact hP) hS dX6_end_67
      · have hF := hF.trans (if_pos c_3)
        refine lv_iconst (v := (-1)) hx hb dX6_end_26 (by decide) ?_
        exact wreti hx hb hr hlocks (by rw [hF]) (by rw [hF]; exact hP) hS dX6_end_27

-- LeastCostModel.isSet
theorem pmX6_isSet : mFit yX6_isSet 1 := ⟨by decide +kernel, by decide +kernel, by decide +kernel⟩
noncomputable def fX6_isSet_d (x1 : Int32) (v_set : Int32) : Int32 :=
  (if ((v_set >>> ((x1 - 1) &&& 31)) &&& 1) = 1 then 1 else 0)
theorem fX6_isSet_ex : ∃ f : Int32 → Int32 → Int32, ∀ (x1 : Int32) (v_set : Int32), f x1 v_set = fX6_isSet_d x1 v_set := ⟨fX6_isSet_d, fun _ _ => rfl⟩
noncomputable def fX6_isSet : Int32 → Int32 → Int32 := Classical.choose fX6_isSet_ex
theorem fX6_isSet_eq (x1 : Int32) (v_set : Int32) : fX6_isSet x1 v_set = fX6_isSet_d x1 v_set := Classical.choose_spec fX6_isSet_ex x1 v_set
set_option maxHeartbeats 1000000 in
set_option maxRecDepth 100000 in
theorem ctX6_isSet (l : Launch) (D : va_G) (cI cZ : ClassId) (h0 h0_costs h0_factors h0_literals h0_begins h0_bounds h0_trail h0_choice h0_log h0_waitSet h0_waitOnes h0_waitDead : Nat) (x1 : Int32) (v_thrown v_constraints v_terms v_begun v_done v_over v_set v_ones v_depth v_searchSet v_searchOnes v_best v_bestOnes v_made v_size v_answer v_looked v_place v_waiting : Int32) : Met l yX6_isSet (gw yX6_isSet cX6_isSet 2 (some .boolean)) { frames := 0, cells := 0, slots := 0, locals := 0 } (rPc D cI cZ [.ref h0, .int x1] [(h0, .inr (6, [.int v_thrown, .ref h0_costs, .ref h0_factors, .ref h0_literals, .ref h0_begins, .ref h0_bounds, .int v_constraints, .int v_terms, .int v_begun, .int v_done, .int v_over, .int v_set, .int v_ones, .ref h0_trail, .ref h0_choice, .int v_depth, .int v_searchSet, .int v_searchOnes, .int v_best, .int v_bestOnes, .int v_made, .ref h0_log, .int v_size, .int v_answer, .int v_looked, .int v_place, .int v_waiting, .ref h0_waitSet, .ref h0_waitOnes, .ref h0_waitDead]))]) (rQ (fX6_isSet x1 v_set)) 0 0 (fun _ => False) := by
  refine rMet (by decide) (Nat.le_of_ble_eq_true rfl) ?_
  intro p e s m below meth c hx hb hr hlocks hml hown hts hP hK hN ls hl
  have hl : lv_has ls 2 [(0, .ref h0), (1, .int x1)] := hl
  have hF := (fX6_isSet_eq x1 v_set).trans (fX6_isSet_d.eq_1 x1 v_set)
  refine lv_aload_n hx hb dX6_isSet_0 rfl (lv_at hl 0 rfl) ?_
  refine va_get (D := D) hx hb hts inX6 hown hK hP 0 rfl rfl 11 (by decide) (hts _ kw484) (fun _ h9 => h9) rfl dX6_isSet_1 ?_
  refine lv_iload_n hx hb dX6_isSet_4 rfl (lv_at hl 1 rfl) ?_
  refine lv_iconst (v := 1) hx hb dX6_isSet_5 (by decide) ?_
  refine lv_isub hx hb dX6_isSet_6 ?_
  refine lv_ishr hx hb dX6_isSet_7 ?_
  refine lv_iconst (v := 1) hx hb dX6_isSet_8 (by decide) ?_
  refine lv_iand hx hb dX6_isSet_9 ?_
  refine lv_iconst (v := 1) hx hb dX6_isSet_10 (by decide) ?_
  refine lv_icmp_ne (tgt := 18) hx hb dX6_isSet_11 (by decide) (fun c_1 => ?_) (fun c_1 => ?_)
  · have hF := hF.trans (if_neg c_1)
    refine lv_iconst (v := 0) hx hb dX6_isSet_18 (by decide) ?_
    exact rretz hx hb hr hlocks (Or.inl rfl) hF.symm dX6_isSet_19
  · have hF := hF.trans (if_pos c_1)
    refine lv_iconst (v := 1) hx hb dX6_isSet_14 (by decide) ?_
    refine lv_goto (tgt := 19) hx hb dX6_isSet_15 (by decide) ?_
    exact rretz hx hb hr hlocks (Or.inr rfl) hF.symm dX6_isSet_19
theorem z_isSet {a b : Int32} : fX6_isSet a b = 0 ∨ fX6_isSet a b = 1 := by
  rw [fX6_isSet_eq]; unfold fX6_isSet_d
  split
  · exact Or.inr rfl
  · exact Or.inl rfl

-- LeastCostModel.isOne
theorem pmX6_isOne : mFit yX6_isOne 1 := ⟨by decide +kernel, by decide +kernel, by decide +kernel⟩
noncomputable def fX6_isOne_d (x1 : Int32) (v_ones : Int32) : Int32 :=
  (if ((v_ones >>> ((x1 - 1) &&& 31)) &&& 1) = 1 then 1 else 0)
theorem fX6_isOne_ex : ∃ f : Int32 → Int32 → Int32, ∀ (x1 : Int32) (v_ones : Int32), f x1 v_ones = fX6_isOne_d x1 v_ones := ⟨fX6_isOne_d, fun _ _ => rfl⟩
noncomputable def fX6_isOne : Int32 → Int32 → Int32 := Classical.choose fX6_isOne_ex
theorem fX6_isOne_eq (x1 : Int32) (v_ones : Int32) : fX6_isOne x1 v_ones = fX6_isOne_d x1 v_ones := Classical.choose_spec fX6_isOne_ex x1 v_ones
set_option maxHeartbeats 1000000 in
set_option maxRecDepth 100000 in
theorem ctX6_isOne (l : Launch) (D : va_G) (cI cZ : ClassId) (h0 h0_costs h0_factors h0_literals h0_begins h0_bounds h0_trail h0_choice h0_log h0_waitSet h0_waitOnes h0_waitDead : Nat) (x1 : Int32) (v_thrown v_constraints v_terms v_begun v_done v_over v_set v_ones v_depth v_searchSet v_searchOnes v_best v_bestOnes v_made v_size v_answer v_looked v_place v_waiting : Int32) : Met l yX6_isOne (gw yX6_isOne cX6_isOne 2 (some .boolean)) { frames := 0, cells := 0, slots := 0, locals := 0 } (rPc D cI cZ [.ref h0, .int x1] [(h0, .inr (6, [.int v_thrown, .ref h0_costs, .ref h0_factors, .ref h0_literals, .ref h0_begins, .ref h0_bounds, .int v_constraints, .int v_terms, .int v_begun, .int v_done, .int v_over, .int v_set, .int v_ones, .ref h0_trail, .ref h0_choice, .int v_depth, .int v_searchSet, .int v_searchOnes, .int v_best, .int v_bestOnes, .int v_made, .ref h0_log, .int v_size, .int v_answer, .int v_looked, .int v_place, .int v_waiting, .ref h0_waitSet, .ref h0_waitOnes, .ref h0_waitDead]))]) (rQ (fX6_isOne x1 v_ones)) 0 0 (fun _ => False) := by
  refine rMet (by decide) (Nat.le_of_ble_eq_true rfl) ?_
  intro p e s m below meth c hx hb hr hlocks hml hown hts hP hK hN ls hl
  have hl : lv_has ls 2 [(0, .ref h0), (1, .int x1)] := hl
  have hF := (fX6_isOne_eq x1 v_ones).trans (fX6_isOne_d.eq_1 x1 v_ones)
  refine lv_aload_n hx hb dX6_isOne_0 rfl (lv_at hl 0 rfl) ?_
  refine va_get (D := D) hx hb hts inX6 hown hK hP 0 rfl rfl 12 (by decide) (hts _ kw485) (fun _ h9 => h9) rfl dX6_isOne_1 ?_
  refine lv_iload_n hx hb dX6_isOne_4 rfl (lv_at hl 1 rfl) ?_
  refine lv_iconst (v := 1) hx hb dX6_isOne_5 (by decide) ?_
  refine lv_isub hx hb dX6_isOne_6 ?_
  refine lv_ishr hx hb dX6_isOne_7 ?_
  refine lv_iconst (v := 1) hx hb dX6_isOne_8 (by decide) ?_
  refine lv_iand hx hb dX6_isOne_9 ?_
  refine lv_iconst (v := 1) hx hb dX6_isOne_10 (by decide) ?_
  refine lv_icmp_ne (tgt := 18) hx hb dX6_isOne_11 (by decide) (fun c_1 => ?_) (fun c_1 => ?_)
  · have hF := hF.trans (if_neg c_1)
    refine lv_iconst (v := 0) hx hb dX6_isOne_18 (by decide) ?_
    exact rretz hx hb hr hlocks (Or.inl rfl) hF.symm dX6_isOne_19
  · have hF := hF.trans (if_pos c_1)
    refine lv_iconst (v := 1) hx hb dX6_isOne_14 (by decide) ?_
    refine lv_goto (tgt := 19) hx hb dX6_isOne_15 (by decide) ?_
    exact rretz hx hb hr hlocks (Or.inr rfl) hF.symm dX6_isOne_19
theorem z_isOne {a b : Int32} : fX6_isOne a b = 0 ∨ fX6_isOne a b = 1 := by
  rw [fX6_isOne_eq]; unfold fX6_isOne_d
  split
  · exact Or.inr rfl
  · exact Or.inl rfl

-- LeastCostModel.isFalse
theorem pmX6_isFalse : mFit yX6_isFalse 1 := ⟨by decide +kernel, by decide +kernel, by decide +kernel⟩
noncomputable def fX6_isFalse_d (x1 : Int32) (v_set : Int32) (v_ones : Int32) : Int32 :=
  (if 0 ≤ x1 then (if (fX6_isSet x1 v_set) = 0 then 0 else (if x1 ≤ 0 then (if (fX6_isOne x1 v_ones) = 0 then 0 else 1) else (if (fX6_isOne x1 v_ones) = 1 then 0 else 1))) else (if (fX6_isSet (-x1) v_set) = 0 then 0 else (if x1 ≤ 0 then (if (fX6_isOne (-x1) v_ones) = 0 then 0 else 1) else (if (fX6_isOne (-x1) v_ones) = 1 then 0 else 1))))
theorem fX6_isFalse_ex : ∃ f : Int32 → Int32 → Int32 → Int32, ∀ (x1 : Int32) (v_set : Int32) (v_ones : Int32), f x1 v_set v_ones = fX6_isFalse_d x1 v_set v_ones := ⟨fX6_isFalse_d, fun _ _ _ => rfl⟩
noncomputable def fX6_isFalse : Int32 → Int32 → Int32 → Int32 := Classical.choose fX6_isFalse_ex
theorem fX6_isFalse_eq (x1 : Int32) (v_set : Int32) (v_ones : Int32) : fX6_isFalse x1 v_set v_ones = fX6_isFalse_d x1 v_set v_ones := Classical.choose_spec fX6_isFalse_ex x1 v_set v_ones
set_option maxHeartbeats 1000000 in
set_option maxRecDepth 100000 in
theorem ctX6_isFalse (l : Launch) (D : va_G) (cI cZ : ClassId) (h0 h0_costs h0_factors h0_literals h0_begins h0_bounds h0_trail h0_choice h0_log h0_waitSet h0_waitOnes h0_waitDead : Nat) (x1 : Int32) (v_thrown v_constraints v_terms v_begun v_done v_over v_set v_ones v_depth v_searchSet v_searchOnes v_best v_bestOnes v_made v_size v_answer v_looked v_place v_waiting : Int32) : Met l yX6_isFalse (gw yX6_isFalse cX6_isFalse 3 (some .boolean)) { frames := 1, cells := 0, slots := 0, locals := 21 } (rPc D cI cZ [.ref h0, .int x1] [(h0, .inr (6, [.int v_thrown, .ref h0_costs, .ref h0_factors, .ref h0_literals, .ref h0_begins, .ref h0_bounds, .int v_constraints, .int v_terms, .int v_begun, .int v_done, .int v_over, .int v_set, .int v_ones, .ref h0_trail, .ref h0_choice, .int v_depth, .int v_searchSet, .int v_searchOnes, .int v_best, .int v_bestOnes, .int v_made, .ref h0_log, .int v_size, .int v_answer, .int v_looked, .int v_place, .int v_waiting, .ref h0_waitSet, .ref h0_waitOnes, .ref h0_waitDead]))]) (rQ (fX6_isFalse x1 v_set v_ones)) 0 0 (fun _ => False) := by
  refine rMet (by decide) (Nat.le_of_ble_eq_true rfl) ?_
  intro p e s m below meth c hx hb hr hlocks hml hown hts hP hK hN ls hl
  have hl : lv_has ls 3 [(0, .ref h0), (1, .int x1)] := hl
  have hF := (fX6_isFalse_eq x1 v_set v_ones).trans (fX6_isFalse_d.eq_1 x1 v_set v_ones)
  refine lv_iload_n hx hb dX6_isFalse_0 rfl (lv_at hl 1 rfl) ?_
  refine lv_if_ge (tgt := 9) hx hb dX6_isFalse_1 (by decide) (fun c_1 => ?_) (fun c_1 => ?_)
  · have hF := hF.trans (if_pos c_1)
    refine lv_iload_n hx hb dX6_isFalse_9 rfl (lv_at hl 1 rfl) ?_
    refine lv_istore_n (lv' := [(2, .int x1), (0, .ref h0), (1, .int x1)]) hx hb dX6_isFalse_10 rfl hl (by decide) rfl (fun ls hl => ?_)
    refine lv_aload_n hx hb dX6_isFalse_11 rfl (lv_at hl 1 rfl) ?_
    refine lv_iload_n hx hb dX6_isFalse_12 rfl (lv_at hl 0 rfl) ?_
    have hPc : va_P D vwCl [(h0, .inr (6, [.int v_thrown, .ref h0_costs, .ref h0_factors, .ref h0_literals, .ref h0_begins, .ref h0_bounds, .int v_constraints, .int v_terms, .int v_begun, .int v_done, .int v_over, .int v_set, .int v_ones, .ref h0_trail, .ref h0_choice, .int v_depth, .int v_searchSet, .int v_searchOnes, .int v_best, .int v_bestOnes, .int v_made, .ref h0_log, .int v_size, .int v_answer, .int v_looked, .int v_place, .int v_waiting, .ref h0_waitSet, .ref h0_waitOnes, .ref h0_waitDead]))] _ := hP.sub [0] rfl
    refine rback (va_runV (As := [.int x1]) (rest := []) ⟨hx, hb, hml, hown, hts⟩ (ctX6_isSet l D cI cZ h0 h0_costs h0_factors h0_literals h0_begins h0_bounds h0_trail h0_choice h0_log h0_waitSet h0_waitOnes h0_waitDead x1 v_thrown v_constraints v_terms v_begun v_done v_over v_set v_ones v_depth v_searchSet v_searchOnes v_best v_bestOnes v_made v_size v_answer v_looked v_place v_waiting) ⟨(cB hts kw599 kw596 kw58 pmX6_isSet ⟨Nat.le_of_ble_eq_true rfl, Nat.le_of_ble_eq_true rfl⟩), hts _ kw598, hts _ kw38⟩ ⟨rPc_blind, va_recv hK hP (ci := 6) (q0 := 0) rfl rfl, rpre hPc hK hN⟩ rfl rfl hl.1 rfl (lv_room (Nat.le_of_ble_eq_true rfl)) dX6_isFalse_13 ⟨Nat.zero_le _, Nat.zero_le _⟩) ?_
    refine lv_if_eq (tgt := 40) hx hb dX6_isFalse_16 (by decide) (fun c_2 => ?_) (fun c_2 => ?_)
    · have hF := hF.trans (if_pos c_2)
      refine lv_iconst (v := 0) hx hb dX6_isFalse_40 (by decide) ?_
      exact rretz hx hb hr hlocks (Or.inl rfl) hF.symm dX6_isFalse_41
    · have hF := hF.trans (if_neg c_2)
      refine lv_aload_n hx hb dX6_isFalse_19 rfl (lv_at hl 1 rfl) ?_
      refine lv_iload_n hx hb dX6_isFalse_20 rfl (lv_at hl 0 rfl) ?_
      have hPc : va_P D vwCl [(h0, .inr (6, [.int v_thrown, .ref h0_costs, .ref h0_factors, .ref h0_literals, .ref h0_begins, .ref h0_bounds, .int v_constraints, .int v_terms, .int v_begun, .int v_done, .int v_over, .int v_set, .int v_ones, .ref h0_trail, .ref h0_choice, .int v_depth, .int v_searchSet, .int v_searchOnes, .int v_best, .int v_bestOnes, .int v_made, .ref h0_log, .int v_size, .int v_answer, .int v_looked, .int v_place, .int v_waiting, .ref h0_waitSet, .ref h0_waitOnes, .ref h0_waitDead]))] _ := hP.sub [0] rfl
      refine rback (va_runV (As := [.int x1]) (rest := []) ⟨hx, hb, hml, hown, hts⟩ (ctX6_isOne l D cI cZ h0 h0_costs h0_factors h0_literals h0_begins h0_bounds h0_trail h0_choice h0_log h0_waitSet h0_waitOnes h0_waitDead x1 v_thrown v_constraints v_terms v_begun v_done v_over v_set v_ones v_depth v_searchSet v_searchOnes v_best v_bestOnes v_made v_size v_answer v_looked v_place v_waiting) ⟨(cB hts kw603 kw600 kw58 pmX6_isOne ⟨Nat.le_of_ble_eq_true rfl, Nat.le_of_ble_eq_true rfl⟩), hts _ kw602, hts _ kw39⟩ ⟨rPc_blind, va_recv hK hP (ci := 6) (q0 := 0) rfl rfl, rpre hPc hK hN⟩ rfl rfl hl.1 rfl (lv_room (Nat.le_of_ble_eq_true rfl)) dX6_isFalse_21 ⟨Nat.zero_le _, Nat.zero_le _⟩) ?_
      refine lv_iload_n hx hb dX6_isFalse_24 rfl (lv_at hl 2 rfl) ?_
      refine lv_if_le (tgt := 32) hx hb dX6_isFalse_25 (by decide) (fun c_3 => ?_) (fun c_3 => ?_)
      · have hF := hF.trans (if_pos c_3)
        refine lv_iconst (v := 0) hx hb dX6_isFalse_32 (by decide) ?_
        refine lv_icmp_eq (tgt := 40) hx hb dX6_isFalse_33 (by decide) (fun c_4 => ?_) (fun c_4 => ?_)
        · have hF := hF.trans (if_pos c_4)
          refine lv_iconst (v := 0) hx hb dX6_isFalse_40 (by decide) ?_
          exact rretz hx hb hr hlocks (Or.inl rfl) hF.symm dX6_isFalse_41
        · have hF := hF.trans (if_neg c_4)
          refine lv_iconst (v := 1) hx hb dX6_isFalse_36 (by decide) ?_
          refine lv_goto (tgt := 41) hx hb dX6_isFalse_37 (by decide) ?_
          exact rretz hx hb hr hlocks (Or.inr rfl) hF.symm dX6_isFalse_41
      · have hF := hF.trans (if_neg c_3)
        refine lv_iconst (v := 1) hx hb dX6_isFalse_28 (by decide) ?_
        refine lv_goto (tgt := 33) hx hb dX6_isFalse_29 (by decide) ?_
        refine lv_icmp_eq (tgt := 40) hx hb dX6_isFalse_33 (by decide) (fun c_5 => ?_) (fun c_5 => ?_)
        · have hF := hF.trans (if_pos c_5)
          refine lv_iconst (v := 0) hx hb dX6_isFalse_40 (by decide) ?_
          exact rretz hx hb hr hlocks (Or.inl rfl) hF.symm dX6_isFalse_41
        · have hF := hF.trans (if_neg c_5)
          refine lv_iconst (v := 1) hx hb dX6_isFalse_36 (by decide) ?_
          refine lv_goto (tgt := 41) hx hb dX6_isFalse_37 (by decide) ?_
          exact rretz hx hb hr hlocks (Or.inr rfl) hF.symm dX6_isFalse_41
  · have hF := hF.trans (if_neg c_1)
    refine lv_iload_n hx hb dX6_isFalse_4 rfl (lv_at hl 1 rfl) ?_
    refine lv_ineg hx hb dX6_isFalse_5 ?_
    refine lv_goto (tgt := 10) hx hb dX6_isFalse_6 (by decide) ?_
    refine lv_istore_n (lv' := [(2, .int (-x1)), (0, .ref h0), (1, .int x1)]) hx hb dX6_isFalse_10 rfl hl (by decide) rfl (fun ls hl => ?_)
    refine lv_aload_n hx hb dX6_isFalse_11 rfl (lv_at hl 1 rfl) ?_
    refine lv_iload_n hx hb dX6_isFalse_12 rfl (lv_at hl 0 rfl) ?_
    have hPc : va_P D vwCl [(h0, .inr (6, [.int v_thrown, .ref h0_costs, .ref h0_factors, .ref h0_literals, .ref h0_begins, .ref h0_bounds, .int v_constraints, .int v_terms, .int v_begun, .int v_done, .int v_over, .int v_set, .int v_ones, .ref h0_trail, .ref h0_choice, .int v_depth, .int v_searchSet, .int v_searchOnes, .int v_best, .int v_bestOnes, .int v_made, .ref h0_log, .int v_size, .int v_answer, .int v_looked, .int v_place, .int v_waiting, .ref h0_waitSet, .ref h0_waitOnes, .ref h0_waitDead]))] _ := hP.sub [0] rfl
    refine rback (va_runV (As := [.int (-x1)]) (rest := []) ⟨hx, hb, hml, hown, hts⟩ (ctX6_isSet l D cI cZ h0 h0_costs h0_factors h0_literals h0_begins h0_bounds h0_trail h0_choice h0_log h0_waitSet h0_waitOnes h0_waitDead (-x1) v_thrown v_constraints v_terms v_begun v_done v_over v_set v_ones v_depth v_searchSet v_searchOnes v_best v_bestOnes v_made v_size v_answer v_looked v_place v_waiting) ⟨(cB hts kw599 kw596 kw58 pmX6_isSet ⟨Nat.le_of_ble_eq_true rfl, Nat.le_of_ble_eq_true rfl⟩), hts _ kw598, hts _ kw38⟩ ⟨rPc_blind, va_recv hK hP (ci := 6) (q0 := 0) rfl rfl, rpre hPc hK hN⟩ rfl rfl hl.1 rfl (lv_room (Nat.le_of_ble_eq_true rfl)) dX6_isFalse_13 ⟨Nat.zero_le _, Nat.zero_le _⟩) ?_
    refine lv_if_eq (tgt := 40) hx hb dX6_isFalse_16 (by decide) (fun c_6 => ?_) (fun c_6 => ?_)
    · have hF := hF.trans (if_pos c_6)
      refine lv_iconst (v := 0) hx hb dX6_isFalse_40 (by decide) ?_
      exact rretz hx hb hr hlocks (Or.inl rfl) hF.symm dX6_isFalse_41
    · have hF := hF.trans (if_neg c_6)
      refine lv_aload_n hx hb dX6_isFalse_19 rfl (lv_at hl 1 rfl) ?_
      refine lv_iload_n hx hb dX6_isFalse_20 rfl (lv_at hl 0 rfl) ?_
      have hPc : va_P D vwCl [(h0, .inr (6, [.int v_thrown, .ref h0_costs, .ref h0_factors, .ref h0_literals, .ref h0_begins, .ref h0_bounds, .int v_constraints, .int v_terms, .int v_begun, .int v_done, .int v_over, .int v_set, .int v_ones, .ref h0_trail, .ref h0_choice, .int v_depth, .int v_searchSet, .int v_searchOnes, .int v_best, .int v_bestOnes, .int v_made, .ref h0_log, .int v_size, .int v_answer, .int v_looked, .int v_place, .int v_waiting, .ref h0_waitSet, .ref h0_waitOnes, .ref h0_waitDead]))] _ := hP.sub [0] rfl
      refine rback (va_runV (As := [.int (-x1)]) (rest := []) ⟨hx, hb, hml, hown, hts⟩ (ctX6_isOne l D cI cZ h0 h0_costs h0_factors h0_literals h0_begins h0_bounds h0_trail h0_choice h0_log h0_waitSet h0_waitOnes h0_waitDead (-x1) v_thrown v_constraints v_terms v_begun v_done v_over v_set v_ones v_depth v_searchSet v_searchOnes v_best v_bestOnes v_made v_size v_answer v_looked v_place v_waiting) ⟨(cB hts kw603 kw600 kw58 pmX6_isOne ⟨Nat.le_of_ble_eq_true rfl, Nat.le_of_ble_eq_true rfl⟩), hts _ kw602, hts _ kw39⟩ ⟨rPc_blind, va_recv hK hP (ci := 6) (q0 := 0) rfl rfl, rpre hPc hK hN⟩ rfl rfl hl.1 rfl (lv_room (Nat.le_of_ble_eq_true rfl)) dX6_isFalse_21 ⟨Nat.zero_le _, Nat.zero_le _⟩) ?_
      refine lv_iload_n hx hb dX6_isFalse_24 rfl (lv_at hl 2 rfl) ?_
      refine lv_if_le (tgt := 32) hx hb dX6_isFalse_25 (by decide) (fun c_7 => ?_) (fun c_7 => ?_)
      · have hF := hF.trans (if_pos c_7)
        refine lv_iconst (v := 0) hx hb dX6_isFalse_32 (by decide) ?_
        refine lv_icmp_eq (tgt := 40) hx hb dX6_isFalse_33 (by decide) (fun c_8 => ?_) (fun c_8 => ?_)
        · have hF := hF.trans (if_pos c_8)
          refine lv_iconst (v := 0) hx hb dX6_isFalse_40 (by decide) ?_
          exact rretz hx hb hr hlocks (Or.inl rfl) hF.symm dX6_isFalse_41
        · have hF := hF.trans (if_neg c_8)
          refine lv_iconst (v := 1) hx hb dX6_isFalse_36 (by decide) ?_
          refine lv_goto (tgt := 41) hx hb dX6_isFalse_37 (by decide) ?_
          exact rretz hx hb hr hlocks (Or.inr rfl) hF.symm dX6_isFalse_41
      · have hF := hF.trans (if_neg c_7)
        refine lv_iconst (v := 1) hx hb dX6_isFalse_28 (by decide) ?_
        refine lv_goto (tgt := 33) hx hb dX6_isFalse_29 (by decide) ?_
        refine lv_icmp_eq (tgt := 40) hx hb dX6_isFalse_33 (by decide) (fun c_9 => ?_) (fun c_9 => ?_)
        · have hF := hF.trans (if_pos c_9)
          refine lv_iconst (v := 0) hx hb dX6_isFalse_40 (by decide) ?_
          exact rretz hx hb hr hlocks (Or.inl rfl) hF.symm dX6_isFalse_41
        · have hF := hF.trans (if_neg c_9)
          refine lv_iconst (v := 1) hx hb dX6_isFalse_36 (by decide) ?_
          refine lv_goto (tgt := 41) hx hb dX6_isFalse_37 (by decide) ?_
          exact rretz hx hb hr hlocks (Or.inr rfl) hF.symm dX6_isFalse_41
