-- LeastCostModel.optimum
theorem pmX6_optimum : mFit yX6_optimum 0 := ⟨by decide +kernel, by decide +kernel, by decide +kernel⟩
noncomputable def fX6_optimum_d (v_done : Int32) (v_best : Int32) : Int32 :=
  (if v_done = 0 then (-3) else v_best)
theorem fX6_optimum_ex : ∃ f : Int32 → Int32 → Int32, ∀ (v_done : Int32) (v_best : Int32), f v_done v_best = fX6_optimum_d v_done v_best := ⟨fX6_optimum_d, fun _ _ => rfl⟩
noncomputable def fX6_optimum : Int32 → Int32 → Int32 := Classical.choose fX6_optimum_ex
theorem fX6_optimum_eq (v_done : Int32) (v_best : Int32) : fX6_optimum v_done v_best = fX6_optimum_d v_done v_best := Classical.choose_spec fX6_optimum_ex v_done v_best
set_option maxHeartbeats 1000000 in
set_option maxRecDepth 100000 in
theorem ctX6_optimum (l : Launch) (D : va_G) (cI cZ : ClassId) (h0 h0_costs h0_factors h0_literals h0_begins h0_bounds h0_trail h0_choice h0_log h0_waitSet h0_waitOnes h0_waitDead : Nat) (v_thrown v_constraints v_terms v_begun v_done v_over v_set v_ones v_depth v_searchSet v_searchOnes v_best v_bestOnes v_made v_size v_answer v_looked v_place v_waiting : Int32) : Met l yX6_optimum (gw yX6_optimum cX6_optimum 1 (some .int)) { frames := 0, cells := 0, slots := 0, locals := 0 } (rPc D cI cZ [.ref h0] [(h0, .inr (6, [.int v_thrown, .ref h0_costs, .ref h0_factors, .ref h0_literals, .ref h0_begins, .ref h0_bounds, .int v_constraints, .int v_terms, .int v_begun, .int v_done, .int v_over, .int v_set, .int v_ones, .ref h0_trail, .ref h0_choice, .int v_depth, .int v_searchSet, .int v_searchOnes, .int v_best, .int v_bestOnes, .int v_made, .ref h0_log, .int v_size, .int v_answer, .int v_looked, .int v_place, .int v_waiting, .ref h0_waitSet, .ref h0_waitOnes, .ref h0_waitDead]))]) (rQ (fX6_optimum v_done v_best)) 0 0 (fun _ => False) := by
  refine rMet (by decide) (Nat.le_of_ble_eq_true rfl) ?_
  intro p e s m below meth c hx hb hr hlocks hml hown hts hP hK hN ls hl
  have hl : lv_has ls 1 [(0, .ref h0)] := hl
  have hF := (fX6_optimum_eq v_done v_best).trans (fX6_optimum_d.eq_1 v_done v_best)
  refine lv_aload_n hx hb dX6_optimum_0 rfl (lv_at hl 0 rfl) ?_
  refine va_get (D := D) hx hb hts inX6 hown hK hP 0 rfl rfl 9 (by decide) (hts _ kw482) (fun _ h9 => h9) rfl dX6_optimum_1 ?_
  refine lv_if_eq (tgt := 14) hx hb dX6_optimum_4 (by decide) (fun c_1 => ?_) (fun c_1 => ?_)
  · have hF := hF.trans (if_pos c_1)
    refine lv_bipush (v := (-3)) hx hb dX6_optimum_14 (by decide) ?_
    exact rreti hx hb hr hlocks hF.symm dX6_optimum_16
  · have hF := hF.trans (if_neg c_1)
    refine lv_aload_n hx hb dX6_optimum_7 rfl (lv_at hl 0 rfl) ?_
    refine va_get (D := D) hx hb hts inX6 hown hK hP 0 rfl rfl 18 (by decide) (hts _ kw491) (fun _ h9 => h9) rfl dX6_optimum_8 ?_
    refine lv_goto (tgt := 16) hx hb dX6_optimum_11 (by decide) ?_
    exact rreti hx hb hr hlocks hF.symm dX6_optimum_16

-- LeastCostModel.value
theorem pmX6_value : mFit yX6_value 1 := ⟨by decide +kernel, by decide +kernel, by decide +kernel⟩
noncomputable def fX6_value_d (x1 : Int32) (v_best : Int32) (v_bestOnes : Int32) : Int32 :=
  (if (fX6_isIn x1 1 16) = 0 then (-1) else (if 0 ≤ v_best then (v_bestOnes >>> ((x1 - 1) &&& 31)) &&& 1 else (-1)))
theorem fX6_value_ex : ∃ f : Int32 → Int32 → Int32 → Int32, ∀ (x1 : Int32) (v_best : Int32) (v_bestOnes : Int32), f x1 v_best v_bestOnes = fX6_value_d x1 v_best v_bestOnes := ⟨fX6_value_d, fun _ _ _ => rfl⟩
noncomputable def fX6_value : Int32 → Int32 → Int32 → Int32 := Classical.choose fX6_value_ex
theorem fX6_value_eq (x1 : Int32) (v_best : Int32) (v_bestOnes : Int32) : fX6_value x1 v_best v_bestOnes = fX6_value_d x1 v_best v_bestOnes := Classical.choose_spec fX6_value_ex x1 v_best v_bestOnes
set_option maxHeartbeats 1000000 in
set_option maxRecDepth 100000 in
theorem ctX6_value (l : Launch) (D : va_G) (cI cZ : ClassId) (h0 h0_costs h0_factors h0_literals h0_begins h0_bounds h0_trail h0_choice h0_log h0_waitSet h0_waitOnes h0_waitDead : Nat) (x1 : Int32) (v_thrown v_constraints v_terms v_begun v_done v_over v_set v_ones v_depth v_searchSet v_searchOnes v_best v_bestOnes v_made v_size v_answer v_looked v_place v_waiting : Int32) : Met l yX6_value (gw yX6_value cX6_value 2 (some .int)) { frames := 1, cells := 0, slots := 0, locals := 22 } (rPc D cI cZ [.ref h0, .int x1] [(h0, .inr (6, [.int v_thrown, .ref h0_costs, .ref h0_factors, .ref h0_literals, .ref h0_begins, .ref h0_bounds, .int v_constraints, .int v_terms, .int v_begun, .int v_done, .int v_over, .int v_set, .int v_ones, .ref h0_trail, .ref h0_choice, .int v_depth, .int v_searchSet, .int v_searchOnes, .int v_best, .int v_bestOnes, .int v_made, .ref h0_log, .int v_size, .int v_answer, .int v_looked, .int v_place, .int v_waiting, .ref h0_waitSet, .ref h0_waitOnes, .ref h0_waitDead]))]) (rQ (fX6_value x1 v_best v_bestOnes)) 0 0 (fun _ => False) := by
  refine rMet (by decide) (Nat.le_of_ble_eq_true rfl) ?_
  intro p e s m below meth c hx hb hr hlocks hml hown hts hP hK hN ls hl
  have hl : lv_has ls 2 [(0, .ref h0), (1, .int x1)] := hl
  have hF := (fX6_value_eq x1 v_best v_bestOnes).trans (fX6_value_d.eq_1 x1 v_best v_bestOnes)
  refine lv_iload_n hx hb dX6_value_0 rfl (lv_at hl 1 rfl) ?_
  refine lv_iconst (v := 1) hx hb dX6_value_1 (by decide) ?_
  refine lv_bipush (v := 16) hx hb dX6_value_2 (by decide) ?_
  have hPc : va_P D vwCl [] _ := hP.sub [] rfl
  refine rback (va_runS (As := [.int x1, .int 1, .int 16]) (rest := []) ⟨hx, hb, hml, hown, hts⟩ (ctX6_isIn l D cI cZ x1 1 16) ⟨(cB hts kw570 kw568 kw58 pmX6_isIn ⟨Nat.le_of_ble_eq_true rfl, Nat.le_of_ble_eq_true rfl⟩), hts _ kw569⟩ ⟨rPc_blind, rpre hPc hK hN⟩ rfl rfl hl.1 rfl (lv_room (Nat.le_of_ble_eq_true rfl)) dX6_value_4 ⟨Nat.zero_le _, Nat.zero_le _⟩) ?_
  refine lv_if_eq (tgt := 17) hx hb dX6_value_7 (by decide) (fun c_1 => ?_) (fun c_1 => ?_)
  · have hF := hF.trans (if_pos c_1)
    refine lv_iconst (v := (-1)) hx hb dX6_value_17 (by decide) ?_
    exact rreti hx hb hr hlocks hF.symm dX6_value_18
  · have hF := hF.trans (if_neg c_1)
    refine lv_aload_n hx hb dX6_value_10 rfl (lv_at hl 0 rfl) ?_
    refine va_get (D := D) hx hb hts inX6 hown hK hP 0 rfl rfl 18 (by decide) (hts _ kw491) (fun _ h9 => h9) rfl dX6_value_11 ?_
    refine lv_if_ge (tgt := 19) hx hb dX6_value_14 (by decide) (fun c_2 => ?_) (fun c_2 => ?_)
    · have hF := hF.trans (if_pos c_2)
      refine lv_aload_n hx hb dX6_value_19 rfl (lv_at hl 0 rfl) ?_
      refine va_get (D := D) hx hb hts inX6 hown hK hP 0 rfl rfl 19 (by decide) (hts _ kw492) (fun _ h9 => h9) rfl dX6_value_20 ?_
      refine lv_iload_n hx hb dX6_value_23 rfl (lv_at hl 1 rfl) ?_
      refine lv_iconst (v := 1) hx hb dX6_value_24 (by decide) ?_
      refine lv_isub hx hb dX6_value_25 ?_
      refine lv_ishr hx hb dX6_value_26 ?_
      refine lv_iconst (v := 1) hx hb dX6_value_27 (by decide) ?_
      refine lv_iand hx hb dX6_value_28 ?_
      exact rreti hx hb hr hlocks hF.symm dX6_value_29
    · have hF := hF.trans (if_neg c_2)
      refine lv_iconst (v := (-1)) hx hb dX6_value_17 (by decide) ?_
      exact rreti hx hb hr hlocks hF.symm dX6_value_18

-- LeastCostModel.logSize
theorem pmX6_logSize : mFit yX6_logSize 0 := ⟨by decide +kernel, by decide +kernel, by decide +kernel⟩
noncomputable def fX6_logSize_d (v_size : Int32) : Int32 :=
  v_size
theorem fX6_logSize_ex : ∃ f : Int32 → Int32, ∀ (v_size : Int32), f v_size = fX6_logSize_d v_size := ⟨fX6_logSize_d, fun _ => rfl⟩
noncomputable def fX6_logSize : Int32 → Int32 := Classical.choose fX6_logSize_ex
theorem fX6_logSize_eq (v_size : Int32) : fX6_logSize v_size = fX6_logSize_d v_size := Classical.choose_spec fX6_logSize_ex v_size
set_option maxHeartbeats 1000000 in
set_option maxRecDepth 100000 in
theorem ctX6_logSize (l : Launch) (D : va_G) (cI cZ : ClassId) (h0 h0_costs h0_factors h0_literals h0_begins h0_bounds h0_trail h0_choice h0_log h0_waitSet h0_waitOnes h0_waitDead : Nat) (v_thrown v_constraints v_terms v_begun v_done v_over v_set v_ones v_depth v_searchSet v_searchOnes v_best v_bestOnes v_made v_size v_answer v_looked v_place v_waiting : Int32) : Met l yX6_logSize (gw yX6_logSize cX6_logSize 1 (some .int)) { frames := 0, cells := 0, slots := 0, locals := 0 } (rPc D cI cZ [.ref h0] [(h0, .inr (6, [.int v_thrown, .ref h0_costs, .ref h0_factors, .ref h0_literals, .ref h0_begins, .ref h0_bounds, .int v_constraints, .int v_terms, .int v_begun, .int v_done, .int v_over, .int v_set, .int v_ones, .ref h0_trail, .ref h0_choice, .int v_depth, .int v_searchSet, .int v_searchOnes, .int v_best, .int v_bestOnes, .int v_made, .ref h0_log, .int v_size, .int v_answer, .int v_looked, .int v_place, .int v_waiting, .ref h0_waitSet, .ref h0_waitOnes, .ref h0_waitDead]))]) (rQ (fX6_logSize v_size)) 0 0 (fun _ => False) := by
  refine rMet (by decide) (Nat.le_of_ble_eq_true rfl) ?_
  intro p e s m below meth c hx hb hr hlocks hml hown hts hP hK hN ls hl
  have hl : lv_has ls 1 [(0, .ref h0)] := hl
  have hF := (fX6_logSize_eq v_size).trans (fX6_logSize_d.eq_1 v_size)
  refine lv_aload_n hx hb dX6_logSize_0 rfl (lv_at hl 0 rfl) ?_
  refine va_get (D := D) hx hb hts inX6 hown hK hP 0 rfl rfl 22 (by decide) (hts _ kw495) (fun _ h9 => h9) rfl dX6_logSize_1 ?_
  exact rreti hx hb hr hlocks hF.symm dX6_logSize_4

-- LeastCostModel.logAt
theorem pmX6_logAt : mFit yX6_logAt 1 := ⟨by decide +kernel, by decide +kernel, by decide +kernel⟩
noncomputable def fX6_logAt_d (x1 : Int32) (v_size : Int32) (v_log : Nat → Int32) : Int32 :=
  (if x1 < 0 then (-9) else (if v_size ≤ x1 then (-9) else v_log x1.toNatClampNeg))
theorem fX6_logAt_ex : ∃ f : Int32 → Int32 → (Nat → Int32) → Int32, ∀ (x1 : Int32) (v_size : Int32) (v_log : Nat → Int32), f x1 v_size v_log = fX6_logAt_d x1 v_size v_log := ⟨fX6_logAt_d, fun _ _ _ => rfl⟩
noncomputable def fX6_logAt : Int32 → Int32 → (Nat → Int32) → Int32 := Classical.choose fX6_logAt_ex
theorem fX6_logAt_eq (x1 : Int32) (v_size : Int32) (v_log : Nat → Int32) : fX6_logAt x1 v_size v_log = fX6_logAt_d x1 v_size v_log := Classical.choose_spec fX6_logAt_ex x1 v_size v_log
set_option maxHeartbeats 1000000 in
set_option maxRecDepth 100000 in
theorem ctX6_logAt (l : Launch) (D : va_G) (cI cZ : ClassId) (h0 h0_costs h0_factors h0_literals h0_begins h0_bounds h0_trail h0_choice h0_log h0_waitSet h0_waitOnes h0_waitDead : Nat) (x1 : Int32) (v_thrown v_constraints v_terms v_begun v_done v_over v_set v_ones v_depth v_searchSet v_searchOnes v_best v_bestOnes v_made v_size v_answer v_looked v_place v_waiting : Int32) (v_log : Nat → Int32) (hL : okN 400 v_size) : Met l yX6_logAt (gw yX6_logAt cX6_logAt 2 (some .int)) { frames := 0, cells := 0, slots := 0, locals := 0 } (rPc D cI cZ [.ref h0, .int x1] [(h0, .inr (6, [.int v_thrown, .ref h0_costs, .ref h0_factors, .ref h0_literals, .ref h0_begins, .ref h0_bounds, .int v_constraints, .int v_terms, .int v_begun, .int v_done, .int v_over, .int v_set, .int v_ones, .ref h0_trail, .ref h0_choice, .int v_depth, .int v_searchSet, .int v_searchOnes, .int v_best, .int v_bestOnes, .int v_made, .ref h0_log, .int v_size, .int v_answer, .int v_looked, .int v_place, .int v_waiting, .ref h0_waitSet, .ref h0_waitOnes, .ref h0_waitDead])), (h0_log, .inl (cI, 401, .inl v_log))]) (rQ (fX6_logAt x1 v_size v_log)) 0 0 (fun _ => False) := by
  refine rMet (by decide) (Nat.le_of_ble_eq_true rfl) ?_
  intro p e s m below meth c hx hb hr hlocks hml hown hts hP hK hN ls hl
  have hl : lv_has ls 2 [(0, .ref h0), (1, .int x1)] := hl
  have hF := (fX6_logAt_eq x1 v_size v_log).trans (fX6_logAt_d.eq_1 x1 v_size v_log)
  refine lv_iload_n hx hb dX6_logAt_0 rfl (lv_at hl 1 rfl) ?_
  refine lv_if_lt (tgt := 21) hx hb dX6_logAt_1 (by decide) (fun c_1 => ?_) (fun c_1 => ?_)
  · have hF := hF.trans (if_pos c_1)
    refine lv_bipush (v := (-9)) hx hb dX6_logAt_21 (by decide) ?_
    exact rreti hx hb hr hlocks hF.symm dX6_logAt_23
  · have hF := hF.trans (if_neg c_1)
    refine lv_iload_n hx hb dX6_logAt_4 rfl (lv_at hl 1 rfl) ?_
    refine lv_aload_n hx hb dX6_logAt_5 rfl (lv_at hl 0 rfl) ?_
    refine va_get (D := D) hx hb hts inX6 hown hK hP 0 rfl rfl 22 (by decide) (hts _ kw495) (fun _ h9 => h9) rfl dX6_logAt_6 ?_
    refine lv_icmp_ge (tgt := 21) hx hb dX6_logAt_9 (by decide) (fun c_2 => ?_) (fun c_2 => ?_)
    · have hF := hF.trans (if_pos c_2)
      refine lv_bipush (v := (-9)) hx hb dX6_logAt_21 (by decide) ?_
      exact rreti hx hb hr hlocks hF.symm dX6_logAt_23
    · have hF := hF.trans (if_neg c_2)
      refine lv_aload_n hx hb dX6_logAt_12 rfl (lv_at hl 0 rfl) ?_
      refine va_get (D := D) hx hb hts inX6 hown hK hP 0 rfl rfl 21 (by decide) (hts _ kw494) (fun _ h9 => h9) rfl dX6_logAt_13 ?_
      refine lv_iload_n hx hb dX6_logAt_16 rfl (lv_at hl 1 rfl) ?_
      refine va_iald hx hb hK hP 1 0 rfl rfl (by have := okN_ix hL (by decide) c_1 c_2; rw [vp_in_iff] at this ⊢; omega) dX6_logAt_17 ?_
      refine lv_goto (tgt := 23) hx hb dX6_logAt_18 (by decide) ?_
      exact rreti hx hb hr hlocks hF.symm dX6_logAt_23

-- LeastCostModel.anew
theorem pmX6_anew : mFit yX6_anew 0 := ⟨by decide +kernel, by decide +kernel, by decide +kernel⟩
noncomputable def fX6_anew_d (v_answer : Int32) (v_looked : Int32) : Int32 × Int32 :=
  (2, 0)
theorem fX6_anew_ex : ∃ f : Int32 → Int32 → (Int32 × Int32), ∀ (v_answer : Int32) (v_looked : Int32), f v_answer v_looked = fX6_anew_d v_answer v_looked := ⟨fX6_anew_d, fun _ _ => rfl⟩
noncomputable def fX6_anew : Int32 → Int32 → (Int32 × Int32) := Classical.choose fX6_anew_ex
theorem fX6_anew_eq (v_answer : Int32) (v_looked : Int32) : fX6_anew v_answer v_looked = fX6_anew_d v_answer v_looked := Classical.choose_spec fX6_anew_ex v_answer v_looked
set_option maxHeartbeats 1000000 in
set_option maxRecDepth 100000 in
theorem ctX6_anew (l : Launch) (D : va_G) (cI cZ : ClassId) (h0 h0_costs h0_factors h0_literals h0_begins h0_bounds h0_trail h0_choice h0_log h0_waitSet h0_waitOnes h0_waitDead : Nat) (v_thrown v_constraints v_terms v_begun v_done v_over v_set v_ones v_depth v_searchSet v_searchOnes v_best v_bestOnes v_made v_size v_answer v_looked v_place v_waiting : Int32) : Met l yX6_anew (gw yX6_anew cX6_anew 1 none) { frames := 0, cells := 0, slots := 0, locals := 0 } (wPc D cI cZ [.ref h0] [(h0, .inr (6, [.int v_thrown, .ref h0_costs, .ref h0_factors, .ref h0_literals, .ref h0_begins, .ref h0_bounds, .int v_constraints, .int v_terms, .int v_begun, .int v_done, .int v_over, .int v_set, .int v_ones, .ref h0_trail, .ref h0_choice, .int v_depth, .int v_searchSet, .int v_searchOnes, .int v_best, .int v_bestOnes, .int v_made, .ref h0_log, .int v_size, .int v_answer, .int v_looked, .int v_place, .int v_waiting, .ref h0_waitSet, .ref h0_waitOnes, .ref h0_waitDead]))]) (wQ D none [(h0, .inr (6, [.int v_thrown, .ref h0_costs, .ref h0_factors, .ref h0_literals, .ref h0_begins, .ref h0_bounds, .int v_constraints, .int v_terms, .int v_begun, .int v_done, .int v_over, .int v_set, .int v_ones, .ref h0_trail, .ref h0_choice, .int v_depth, .int v_searchSet, .int v_searchOnes, .int v_best, .int v_bestOnes, .int v_made, .ref h0_log, .int v_size, .int v_answer, .int v_looked, .int v_place, .int v_waiting, .ref h0_waitSet, .ref h0_waitOnes, .ref h0_waitDead]))] [(h0, .inr (6, [.int v_thrown, .ref h0_costs, .ref h0_factors, .ref h0_literals, .ref h0_begins, .ref h0_bounds, .int v_constraints, .int v_terms, .int v_begun, .int v_done, .int v_over, .int v_set, .int v_ones, .ref h0_trail, .ref h0_choice, .int v_depth, .int v_searchSet, .int v_searchOnes, .int v_best, .int v_bestOnes, .int v_made, .ref h0_log, .int v_size, .int ((fX6_anew v_answer v_looked).1), .int ((fX6_anew v_answer v_looked).2), .int v_place, .int v_waiting, .ref h0_waitSet, .ref h0_waitOnes, .ref h0_waitDead]))]) 0 0 (aw [(h0, .inr (6, [.int v_thrown, .ref h0_costs, .ref h0_factors, .ref h0_literals, .ref h0_begins, .ref h0_bounds, .int v_constraints, .int v_terms, .int v_begun, .int v_done, .int v_over, .int v_set, .int v_ones, .ref h0_trail, .ref h0_choice, .int v_depth, .int v_searchSet, .int v_searchOnes, .int v_best, .int v_bestOnes, .int v_made, .ref h0_log, .int v_size, .int v_answer, .int v_looked, .int v_place, .int v_waiting, .ref h0_waitSet, .ref h0_waitOnes, .ref h0_waitDead]))]) := by
  refine wMet (by decide) (Nat.le_of_ble_eq_true rfl) ?_
  intro p e s m below meth c hx hb hr hlocks hml hown hts hP hK hN hD hS ls hl
  have hl : lv_has ls 1 [(0, .ref h0)] := hl
  have hF := (fX6_anew_eq v_answer v_looked).trans (fX6_anew_d.eq_1 v_answer v_looked)
  refine lv_aload_n hx hb dX6_anew_0 rfl (lv_at hl 0 rfl) ?_
  refine lv_iconst (v := 2) hx hb dX6_anew_1 (by decide) ?_
  refine va_put (D := D) (v := .int 2) (ty := .int) hx hb hts inX6 tyX6 tyX6_ok nmX6 hown hK hP hD hS 0 rfl rfl 23 (by decide) (hts _ kw496) (fun _ h9 => h9) rfl (by decide +kernel) rfl rfl (Nat.le_of_ble_eq_true rfl) dX6_anew_2 (fun H locs hP hD hS => ?_)
  have hP : va_P D vwCl [(h0, .inr (6, [.int v_thrown, .ref h0_costs, .ref h0_factors, .ref h0_literals, .ref h0_begins, .ref h0_bounds, .int v_constraints, .int v_terms, .int v_begun, .int v_done, .int v_over, .int v_set, .int v_ones, .ref h0_trail, .ref h0_choice, .int v_depth, .int v_searchSet, .int v_searchOnes, .int v_best, .int v_bestOnes, .int v_made, .ref h0_log, .int v_size, .int 2, .int v_looked, .int v_place, .int v_waiting, .ref h0_waitSet, .ref h0_waitOnes, .ref h0_waitDead]))] H := hP
  have hD : va_D _ [(h0, .inr (6, [.int v_thrown, .ref h0_costs, .ref h0_factors, .ref h0_literals, .ref h0_begins, .ref h0_bounds, .int v_constraints, .int v_terms, .int v_begun, .int v_done, .int v_over, .int v_set, .int v_ones, .ref h0_trail, .ref h0_choice, .int v_depth, .int v_searchSet, .int v_searchOnes, .int v_best, .int v_bestOnes, .int v_made, .ref h0_log, .int v_size, .int 2, .int v_looked, .int v_place, .int v_waiting, .ref h0_waitSet, .ref h0_waitOnes, .ref h0_waitDead]))] := hD
  refine lv_aload_n hx hb dX6_anew_5 rfl (lv_at hl 0 rfl) ?_
  refine lv_iconst (v := 0) hx hb dX6_anew_6 (by decide) ?_
  refine va_put (D := D) (v := .int 0) (ty := .boolean) hx hb hts inX6 tyX6 tyX6_ok nmX6 hown hK hP hD hS 0 rfl rfl 24 (by decide) (hts _ kw497) (fun _ h9 => h9) rfl (by decide +kernel) rfl rfl (Nat.le_of_ble_eq_true rfl) dX6_anew_7 (fun H locs hP hD hS => ?_)
  have hP : va_P D vwCl [(h0, .inr (6, [.int v_thrown, .ref h0_costs, .ref h0_factors, .ref h0_literals, .ref h0_begins, .ref h0_bounds, .int v_constraints, .int v_terms, .int v_begun, .int v_done, .int v_over, .int v_set, .int v_ones, .ref h0_trail, .ref h0_choice, .int v_depth, .int v_searchSet, .int v_searchOnes, .int v_best, .int v_bestOnes, .int v_made, .ref h0_log, .int v_size, .int 2, .int 0, .int v_place, .int v_waiting, .ref h0_waitSet, .ref h0_waitOnes, .ref h0_waitDead]))] H := hP
  have hD : va_D _ [(h0, .inr (6, [.int v_thrown, .ref h0_costs, .ref h0_factors, .ref h0_literals, .ref h0_begins, .ref h0_bounds, .int v_constraints, .int v_terms, .int v_begun, .int v_done, .int v_over, .int v_set, .int v_ones, .ref h0_trail, .ref h0_choice, .int v_depth, .int v_searchSet, .int v_searchOnes, .int v_best, .int v_bestOnes, .int v_made, .ref h0_log, .int v_size, .int 2, .int 0, .int v_place, .int v_waiting, .ref h0_waitSet, .ref h0_waitOnes, .ref h0_waitDead]))] := hD
  exact wretv hx hb hr hlocks (by rw [hF]; exact hP) hS dX6_anew_10

-- LeastCostModel.poke
theorem pmX6_poke : mFit yX6_poke 2 := ⟨by decide +kernel, by decide +kernel, by decide +kernel⟩
noncomputable def fX6_poke_d (x1 : Int32) (x2 : Int32) (v_done : Int32) (v_size : Int32) (v_answer : Int32) (v_looked : Int32) (v_log : Nat → Int32) : Int32 × Int32 × Int32 × Int32 × (Nat → Int32) :=
  (if v_done = 0 then ((-1), v_size, v_answer, v_looked, v_log) else (if (fX6_isIn x1 0 v_size) = 0 then ((-1), v_size, v_answer, v_looked, v_log) else (if x1 = 400 then ((-1), v_size, v_answer, v_looked, v_log) else (if x1 = v_size then (0, v_size + 1, (fX6_anew v_answer v_looked).1, (fX6_anew v_answer v_looked).2, (upd v_log x1.toNatClampNeg x2)) else (0, v_size, (fX6_anew v_answer v_looked).1, (fX6_anew v_answer v_looked).2, (upd v_log x1.toNatClampNeg x2))))))
theorem fX6_poke_ex : ∃ f : Int32 → Int32 → Int32 → Int32 → Int32 → Int32 → (Nat → Int32) → (Int32 × Int32 × Int32 × Int32 × (Nat → Int32)), ∀ (x1 : Int32) (x2 : Int32) (v_done : Int32) (v_size : Int32) (v_answer : Int32) (v_looked : Int32) (v_log : Nat → Int32), f x1 x2 v_done v_size v_answer v_looked v_log = fX6_poke_d x1 x2 v_done v_size v_answer v_looked v_log := ⟨fX6_poke_d, fun _ _ _ _ _ _ _ => rfl⟩
noncomputable def fX6_poke : Int32 → Int32 → Int32 → Int32 → Int32 → Int32 → (Nat → Int32) → (Int32 × Int32 × Int32 × Int32 × (Nat → Int32)) := Classical.choose fX6_poke_ex
theorem fX6_poke_eq (x1 : Int32) (x2 : Int32) (v_done : Int32) (v_size : Int32) (v_answer : Int32) (v_looked : Int32) (v_log : Nat → Int32) : fX6_poke x1 x2 v_done v_size v_answer v_looked v_log = fX6_poke_d x1 x2 v_done v_size v_answer v_looked v_log := Classical.choose_spec fX6_poke_ex x1 x2 v_done v_size v_answer v_looked v_log
set_option maxHeartbeats 1000000 in
set_option maxRecDepth 100000 in
theorem ctX6_poke (l : Launch) (D : va_G) (cI cZ : ClassId) (h0 h0_costs h0_factors h0_literals h0_begins h0_bounds h0_trail h0_choice h0_log h0_waitSet h0_waitOnes h0_waitDead : Nat) (x1 : Int32) (x2 : Int32) (v_thrown v_constraints v_terms v_begun v_done v_over v_set v_ones v_depth v_searchSet v_searchOnes v_best v_bestOnes v_made v_size v_answer v_looked v_place v_waiting : Int32) (v_log : Nat → Int32) (hL : okN 400 v_size) : Met l yX6_poke (gw yX6_poke cX6_poke 3 (some .int)) { frames := 1, cells := 0, slots := 0, locals := 22 } (wPc D cI cZ [.ref h0, .int x1, .int x2] [(h0, .inr (6, [.int v_thrown, .ref h0_costs, .ref h0_factors, .ref h0_literals, .ref h0_begins, .ref h0_bounds, .int v_constraints, .int v_terms, .int v_begun, .int v_done, .int v_over, .int v_set, .int v_ones, .ref h0_trail, .ref h0_choice, .int v_depth, .int v_searchSet, .int v_searchOnes, .int v_best, .int v_bestOnes, .int v_made, .ref h0_log, .int v_size, .int v_answer, .int v_looked, .int v_place, .int v_waiting, .ref h0_waitSet, .ref h0_waitOnes, .ref h0_waitDead])), (h0_log, .inl (cI, 401, .inl v_log))]) (wQ D (some (.int ((fX6_poke x1 x2 v_done v_size v_answer v_looked v_log).1))) [(h0, .inr (6, [.int v_thrown, .ref h0_costs, .ref h0_factors, .ref h0_literals, .ref h0_begins, .ref h0_bounds, .int v_constraints, .int v_terms, .int v_begun, .int v_done, .int v_over, .int v_set, .int v_ones, .ref h0_trail, .ref h0_choice, .int v_depth, .int v_searchSet, .int v_searchOnes, .int v_best, .int v_bestOnes, .int v_made, .ref h0_log, .int v_size, .int v_answer, .int v_looked, .int v_place, .int v_waiting, .ref h0_waitSet, .ref h0_waitOnes, .ref h0_waitDead])), (h0_log, .inl (cI, 401, .inl v_log))] [(h0, .inr (6, [.int v_thrown, .ref h0_costs, .ref h0_factors, .ref h0_literals, .ref h0_begins, .ref h0_bounds, .int v_constraints, .int v_terms, .int v_begun, .int v_done, .int v_over, .int v_set, .int v_ones, .ref h0_trail, .ref h0_choice, .int v_depth, .int v_searchSet, .int v_searchOnes, .int v_best, .int v_bestOnes, .int v_made, .ref h0_log, .int ((fX6_poke x1 x2 v_done v_size v_answer v_looked v_log).2.1), .int ((fX6_poke x1 x2 v_done v_size v_answer v_looked v_log).2.2.1), .int ((fX6_poke x1 x2 v_done v_size v_answer v_looked v_log).2.2.2.1), .int v_place, .int v_waiting, .ref h0_waitSet, .ref h0_waitOnes, .ref h0_waitDead])), (h0_log, .inl (cI, 401, .inl ((fX6_poke x1 x2 v_done v_size v_answer v_looked v_log).2.2.2.2)))]) 0 0 (aw [(h0, .inr (6, [.int v_thrown, .ref h0_costs, .ref h0_factors, .ref h0_literals, .ref h0_begins, .ref h0_bounds, .int v_constraints, .int v_terms, .int v_begun, .int v_done, .int v_over, .int v_set, .int v_ones, .ref h0_trail, .ref h0_choice, .int v_depth, .int v_searchSet, .int v_searchOnes, .int v_best, .int v_bestOnes, .int v_made, .ref h0_log, .int v_size, .int v_answer, .int v_looked, .int v_place, .int v_waiting, .ref h0_waitSet, .ref h0_waitOnes, .ref h0_waitDead])), (h0_log, .inl (cI, 401, .inl v_log))]) := by
  refine wMet (by decide) (Nat.le_of_ble_eq_true rfl) ?_
  intro p e s m below meth c hx hb hr hlocks hml hown hts hP hK hN hD hS ls hl
  have hl : lv_has ls 3 [(0, .ref h0), (1, .int x1), (2, .int x2)] := hl
  have hF := (fX6_poke_eq x1 x2 v_done v_size v_answer v_looked v_log).trans (fX6_poke_d.eq_1 x1 x2 v_done v_size v_answer v_looked v_log)
  refine lv_aload_n hx hb dX6_poke_0 rfl (lv_at hl 0 rfl) ?_
  refine va_get (D := D) hx hb hts inX6 hown hK hP 0 rfl rfl 9 (by decide) (hts _ kw482) (fun _ h9 => h9) rfl dX6_poke_1 ?_
  refine lv_if_eq (tgt := 26) hx hb dX6_poke_4 (by decide) (fun c_1 => ?_) (fun c_1 => ?_)
  · have hF := hF.trans (if_pos c_1)
    refine lv_iconst (v := (-1)) hx hb dX6_poke_26 (by decide) ?_
    exact wreti hx hb hr hlocks (by rw [hF]) (by rw [hF]; exact hP) hS dX6_poke_27
  · have hF := hF.trans (if_neg c_1)
    refine lv_iload_n hx hb dX6_poke_7 rfl (lv_at hl 1 rfl) ?_
    refine lv_iconst (v := 0) hx hb dX6_poke_8 (by decide) ?_
    refine lv_aload_n hx hb dX6_poke_9 rfl (lv_at hl 0 rfl) ?_
    refine va_get (D := D) hx hb hts inX6 hown hK hP 0 rfl rfl 22 (by decide) (hts _ kw495) (fun _ h9 => h9) rfl dX6_poke_10 ?_
    have hPc : va_P D vwCl [] _ := hP.sub [] rfl
    refine rback (va_runS (As := [.int x1, .int 0, .int v_size]) (rest := []) ⟨hx, hb, hml, hown, hts⟩ (ctX6_isIn l D cI cZ x1 0 v_size) ⟨(cB hts kw570 kw568 kw58 pmX6_isIn ⟨Nat.le_of_ble_eq_true rfl, Nat.le_of_ble_eq_true rfl⟩), hts _ kw569⟩ ⟨rPc_blind, rpre hPc hK hN⟩ rfl rfl hl.1 rfl (lv_room (Nat.le_of_ble_eq_true rfl)) dX6_poke_13 ⟨Nat.zero_le _, Nat.zero_le _⟩) ?_
    refine lv_if_eq (tgt := 26) hx hb dX6_poke_16 (by decide) (fun c_2 => ?_) (fun c_2 => ?_)
    · have hF := hF.trans (if_pos c_2)
      refine lv_iconst (v := (-1)) hx hb dX6_poke_26 (by decide) ?_
      exact wreti hx hb hr hlocks (by rw [hF]) (by rw [hF]; exact hP) hS dX6_poke_27
    · have hF := hF.trans (if_neg c_2)
      refine lv_iload_n hx hb dX6_poke_19 rfl (lv_at hl 1 rfl) ?_
      refine lv_sipush (v := 400) hx hb dX6_poke_20 (by decide) ?_
      refine lv_icmp_ne (tgt := 28) hx hb dX6_poke_23 (by decide) (fun c_3 => ?_) (fun c_3 => ?_)
      · have hF := hF.trans (if_neg c_3)
        refine lv_aload_n hx hb dX6_poke_28 rfl (lv_at hl 0 rfl) ?_
        refine va_get (D := D) hx hb hts inX6 hown hK hP 0 rfl rfl 21 (by decide) (hts _ kw494) (fun _ h9 => h9) rfl dX6_poke_29 ?_
        refine lv_iload_n hx hb dX6_poke_32 rfl (lv_at hl 1 rfl) ?_
        refine lv_iload_n hx hb dX6_poke_33 rfl (lv_at hl 2 rfl) ?_
        refine va_iast hx hb hK hP hD hS 1 0 rfl rfl (okN_inS (okN_of hL (by decide) (isWithin_of (by rw [← isIn_eq]; exact c_2)).1 (isWithin_of (by rw [← isIn_eq]; exact c_2)).2) (by decide) (by decide)) dX6_poke_34 (fun H locs hP hD hS => ?_)
        have hP : va_P D vwCl [(h0, .inr (6, [.int v_thrown, .ref h0_costs, .ref h0_factors, .ref h0_literals, .ref h0_begins, .ref h0_bounds, .int v_constraints, .int v_terms, .int v_begun, .int v_done, .int v_over, .int v_set, .int v_ones, .ref h0_trail, .ref h0_choice, .int v_depth, .int v_searchSet, .int v_searchOnes, .int v_best, .int v_bestOnes, .int v_made, .ref h0_log, .int v_size, .int v_answer, .int v_looked, .int v_place, .int v_waiting, .ref h0_waitSet, .ref h0_waitOnes, .ref h0_waitDead])), (h0_log, .inl (cI, 401, .inl (upd v_log x1.toNatClampNeg x2)))] H := hP
        have hD : va_D _ [(h0, .inr (6, [.int v_thrown, .ref h0_costs, .ref h0_factors, .ref h0_literals, .ref h0_begins, .ref h0_bounds, .int v_constraints, .int v_terms, .int v_begun, .int v_done, .int v_over, .int v_set, .int v_ones, .ref h0_trail, .ref h0_choice, .int v_depth, .int v_searchSet, .int v_searchOnes, .int v_best, .int v_bestOnes, .int v_made, .ref h0_log, .int v_size, .int v_answer, .int v_looked, .int v_place, .int v_waiting, .ref h0_waitSet, .ref h0_waitOnes, .ref h0_waitDead])), (h0_log, .inl (cI, 401, .inl (upd v_log x1.toNatClampNeg x2)))] := hD
        refine lv_aload_n hx hb dX6_poke_35 rfl (lv_at hl 0 rfl) ?_
        refine lv_iload_n hx hb dX6_poke_36 rfl (lv_at hl 1 rfl) ?_
        refine lv_aload_n hx hb dX6_poke_37 rfl (lv_at hl 0 rfl) ?_
        refine va_get (D := D) hx hb hts inX6 hown hK hP 0 rfl rfl 22 (by decide) (hts _ kw495) (fun _ h9 => h9) rfl dX6_poke_38 ?_
        refine lv_icmp_ne (tgt := 53) hx hb dX6_poke_41 (by decide) (fun c_4 => ?_) (fun c_4 => ?_)
        · have hF := hF.trans (if_neg c_4)
          refine lv_aload_n hx hb dX6_poke_53 rfl (lv_at hl 0 rfl) ?_
          refine va_get (D := D) hx hb hts inX6 hown hK hP 0 rfl rfl 22 (by decide) (hts _ kw495) (fun _ h9 => h9) rfl dX6_poke_54 ?_
          refine va_put (D := D) (v := .int v_size) (ty := .int) hx hb hts inX6 tyX6 tyX6_ok nmX6 hown hK hP hD hS 0 rfl rfl 22 (by decide) (hts _ kw495) (fun _ h9 => h9) rfl (by decide +kernel) rfl rfl (Nat.le_of_ble_eq_true rfl) dX6_poke_57 (fun H locs hP hD hS => ?_)
          have hP : va_P D vwCl [(h0, .inr (6, [.int v_thrown, .ref h0_costs, .ref h0_factors, .ref h0_literals, .ref h0_begins, .ref h0_bounds, .int v_constraints, .int v_terms, .int v_begun, .int v_done, .int v_over, .int v_set, .int v_ones, .ref h0_trail, .ref h0_choice, .int v_depth, .int v_searchSet, .int v_searchOnes, .int v_best, .int v_bestOnes, .int v_made, .ref h0_log, .int v_size, .int v_answer, .int v_looked, .int v_place, .int v_waiting, .ref h0_waitSet, .ref h0_waitOnes, .ref h0_waitDead])), (h0_log, .inl (cI, 401, .inl (upd v_log x1.toNatClampNeg x2)))] H := hP
          have hD : va_D _ [(h0, .inr (6, [.int v_thrown, .ref h0_costs, .ref h0_factors, .ref h0_literals, .ref h0_begins, .ref h0_bounds, .int v_constraints, .int v_terms, .int v_begun, .int v_done, .int v_over, .int v_set, .int v_ones, .ref h0_trail, .ref h0_choice, .int v_depth, .int v_searchSet, .int v_searchOnes, .int v_best, .int v_bestOnes, .int v_made, .ref h0_log, .int v_size, .int v_answer, .int v_looked, .int v_place, .int v_waiting, .ref h0_waitSet, .ref h0_waitOnes, .ref h0_waitDead])), (h0_log, .inl (cI, 401, .inl (upd v_log x1.toNatClampNeg x2)))] := hD
          refine lv_aload_n hx hb dX6_poke_60 rfl (lv_at hl 0 rfl) ?_
          have hPc : va_P D vwCl [(h0, .inr (6, [.int v_thrown, .ref h0_costs, .ref h0_factors, .ref h0_literals, .ref h0_begins, .ref h0_bounds, .int v_constraints, .int v_terms, .int v_begun, .int v_done, .int v_over, .int v_set, .int v_ones, .ref h0_trail, .ref h0_choice, .int v_depth, .int v_searchSet, .int v_searchOnes, .int v_best, .int v_bestOnes, .int v_made, .ref h0_log, .int v_size, .int v_answer, .int v_looked, .int v_place, .int v_waiting, .ref h0_waitSet, .ref h0_waitOnes, .ref h0_waitDead]))] _ := hP.sub [0] rfl
          refine wback (ws' := [(h0, .inr (6, [.int v_thrown, .ref h0_costs, .ref h0_factors, .ref h0_literals, .ref h0_begins, .ref h0_bounds, .int v_constraints, .int v_terms, .int v_begun, .int v_done, .int v_over, .int v_set, .int v_ones, .ref h0_trail, .ref h0_choice, .int v_depth, .int v_searchSet, .int v_searchOnes, .int v_best, .int v_bestOnes, .int v_made, .ref h0_log, .int v_size, .int ((fX6_anew v_answer v_looked).1), .int ((fX6_anew v_answer v_looked).2), .int v_place, .int v_waiting, .ref h0_waitSet, .ref h0_waitOnes, .ref h0_waitDead])), (h0_log, .inl (cI, 401, .inl (upd v_log x1.toNatClampNeg x2)))]) [0] (va_runV (As := []) (rest := []) ⟨hx, hb, hml, hown, hts⟩ (ctX6_anew l D cI cZ h0 h0_costs h0_factors h0_literals h0_begins h0_bounds h0_trail h0_choice h0_log h0_waitSet h0_waitOnes h0_waitDead v_thrown v_constraints v_terms v_begun v_done v_over v_set v_ones v_depth v_searchSet v_searchOnes v_best v_bestOnes v_made v_size v_answer v_looked v_place v_waiting) ⟨(cB hts kw655 kw652 kw58 pmX6_anew ⟨Nat.le_of_ble_eq_true rfl, Nat.le_of_ble_eq_true rfl⟩), hts _ kw654, hts _ kw47⟩ ⟨wPc_blind, va_recv hK hP (ci := 6) (q0 := 0) rfl rfl, wpre hPc hK hN (hD.sub (ws' := [(h0, .inr (6, [.int v_thrown, .ref h0_costs, .ref h0_factors, .ref h0_literals, .ref h0_begins, .ref h0_bounds, .int v_constraints, .int v_terms, .int v_begun, .int v_done, .int v_over, .int v_set, .int v_ones, .ref h0_trail, .ref h0_choice, .int v_depth, .int v_searchSet, .int v_searchOnes, .int v_best, .int v_bestOnes, .int v_made, .ref h0_log, .int v_size, .int v_answer, .int v_looked, .int v_place, .int v_waiting, .ref h0_waitSet, .ref h0_waitOnes, .ref h0_waitDead]))]) [0] (by decide) rfl)⟩ rfl rfl hl.1 rfl (lv_room (Nat.le_of_ble_eq_true rfl)) dX6_poke_61 ⟨Nat.zero_le _, Nat.zero_le _⟩) hP hD hS rfl rfl rfl rfl (fun H locs hP hD hS => ?_)
          refine lv_iconst (v := 0) hx hb dX6_poke_64 (by decide) ?_
          exact wreti hx hb hr hlocks (by rw [hF]) (by rw [hF]; exact hP) hS dX6_poke_65
        · have hF := hF.trans (if_pos c_4)
          refine lv_aload_n hx hb dX6_poke_44 rfl (lv_at hl 0 rfl) ?_
          refine va_get (D := D) hx hb hts inX6 hown hK hP 0 rfl rfl 22 (by decide) (hts _ kw495) (fun _ h9 => h9) rfl dX6_poke_45 ?_
          refine lv_iconst (v := 1) hx hb dX6_poke_48 (by decide) ?_
          refine lv_iadd hx hb dX6_poke_49 ?_
          refine lv_goto (tgt := 57) hx hb dX6_poke_50 (by decide) ?_
          refine va_put (D := D) (v := .int (v_size + 1)) (ty := .int) hx hb hts inX6 tyX6 tyX6_ok nmX6 hown hK hP hD hS 0 rfl rfl 22 (by decide) (hts _ kw495) (fun _ h9 => h9) rfl (by decide +kernel) rfl rfl (Nat.le_of_ble_eq_true rfl) dX6_poke_57 (fun H locs hP hD hS => ?_)
          have hP : va_P D vwCl [(h0, .inr (6, [.int v_thrown, .ref h0_costs, .ref h0_factors, .ref h0_literals, .ref h0_begins, .ref h0_bounds, .int v_constraints, .int v_terms, .int v_begun, .int v_done, .int v_over, .int v_set, .int v_ones, .ref h0_trail, .ref h0_choice, .int v_depth, .int v_searchSet, .int v_searchOnes, .int v_best, .int v_bestOnes, .int v_made, .ref h0_log, .int (v_size + 1), .int v_answer, .int v_looked, .int v_place, .int v_waiting, .ref h0_waitSet, .ref h0_waitOnes, .ref h0_waitDead])), (h0_log, .inl (cI, 401, .inl (upd v_log x1.toNatClampNeg x2)))] H := hP
          have hD : va_D _ [(h0, .inr (6, [.int v_thrown, .ref h0_costs, .ref h0_factors, .ref h0_literals, .ref h0_begins, .ref h0_bounds, .int v_constraints, .int v_terms, .int v_begun, .int v_done, .int v_over, .int v_set, .int v_ones, .ref h0_trail, .ref h0_choice, .int v_depth, .int v_searchSet, .int v_searchOnes, .int v_best, .int v_bestOnes, .int v_made, .ref h0_log, .int (v_size + 1), .int v_answer, .int v_looked, .int v_place, .int v_waiting, .ref h0_waitSet, .ref h0_waitOnes, .ref h0_waitDead])), (h0_log, .inl (cI, 401, .inl (upd v_log x1.toNatClampNeg x2)))] := hD
          refine lv_aload_n hx hb dX6_poke_60 rfl (lv_at hl 0 rfl) ?_
          have hPc : va_P D vwCl [(h0, .inr (6, [.int v_thrown, .ref h0_costs, .ref h0_factors, .ref h0_literals, .ref h0_begins, .ref h0_bounds, .int v_constraints, .int v_terms, .int v_begun, .int v_done, .int v_over, .int v_set, .int v_ones, .ref h0_trail, .ref h0_choice, .int v_depth, .int v_searchSet, .int v_searchOnes, .int v_best, .int v_bestOnes, .int v_made, .ref h0_log, .int (v_size + 1), .int v_answer, .int v_looked, .int v_place, .int v_waiting, .ref h0_waitSet, .ref h0_waitOnes, .ref h0_waitDead]))] _ := hP.sub [0] rfl
          refine wback (ws' := [(h0, .inr (6, [.int v_thrown, .ref h0_costs, .ref h0_factors, .ref h0_literals, .ref h0_begins, .ref h0_bounds, .int v_constraints, .int v_terms, .int v_begun, .int v_done, .int v_over, .int v_set, .int v_ones, .ref h0_trail, .ref h0_choice, .int v_depth, .int v_searchSet, .int v_searchOnes, .int v_best, .int v_bestOnes, .int v_made, .ref h0_log, .int (v_size + 1), .int ((fX6_anew v_answer v_looked).1), .int ((fX6_anew v_answer v_looked).2), .int v_place, .int v_waiting, .ref h0_waitSet, .ref h0_waitOnes, .ref h0_waitDead])), (h0_log, .inl (cI, 401, .inl (upd v_log x1.toNatClampNeg x2)))]) [0] (va_runV (As := []) (rest := []) ⟨hx, hb, hml, hown, hts⟩ (ctX6_anew l D cI cZ h0 h0_costs h0_factors h0_literals h0_begins h0_bounds h0_trail h0_choice h0_log h0_waitSet h0_waitOnes h0_waitDead v_thrown v_constraints v_terms v_begun v_done v_over v_set v_ones v_depth v_searchSet v_searchOnes v_best v_bestOnes v_made (v_size + 1) v_answer v_looked v_place v_waiting) ⟨(cB hts kw655 kw652 kw58 pmX6_anew ⟨Nat.le_of_ble_eq_true rfl, Nat.le_of_ble_eq_true rfl⟩), hts _ kw654, hts _ kw47⟩ ⟨wPc_blind, va_recv hK hP (ci := 6) (q0 := 0) rfl rfl, wpre hPc hK hN (hD.sub (ws' := [(h0, .inr (6, [.int v_thrown, .ref h0_costs, .ref h0_factors, .ref h0_literals, .ref h0_begins, .ref h0_bounds, .int v_constraints, .int v_terms, .int v_begun, .int v_done, .int v_over, .int v_set, .int v_ones, .ref h0_trail, .ref h0_choice, .int v_depth, .int v_searchSet, .int v_searchOnes, .int v_best, .int v_bestOnes, .int v_made, .ref h0_log, .int (v_size + 1), .int v_answer, .int v_looked, .int v_place, .int v_waiting, .ref h0_waitSet, .ref h0_waitOnes, .ref h0_waitDead]))]) [0] (by decide) rfl)⟩ rfl rfl hl.1 rfl (lv_room (Nat.le_of_ble_eq_true rfl)) dX6_poke_61 ⟨Nat.zero_le _, Nat.zero_le _⟩) hP hD hS rfl rfl rfl rfl (fun H locs hP hD hS => ?_)
          refine lv_iconst (v := 0) hx hb dX6_poke_64 (by decide) ?_
          exact wreti hx hb hr hlocks (by rw [hF]) (by rw [hF]; exact hP) hS dX6_poke_65
      · have hF := hF.trans (if_pos c_3)
        refine lv_iconst (v := (-1)) hx hb dX6_poke_26 (by decide) ?_
        exact wreti hx hb hr hlocks (by rw [hF]) (by rw [hF]; exact hP) hS dX6_poke_27

-- LeastCostModel.cut
theorem pmX6_cut : mFit yX6_cut 1 := ⟨by decide +kernel, by decide +kernel, by decide +kernel⟩
noncomputable def fX6_cut_d (x1 : Int32) (v_done : Int32) (v_size : Int32) (v_answer : Int32) (v_looked : Int32) : Int32 × Int32 × Int32 × Int32 :=
  (if v_done = 0 then ((-1), v_size, v_answer, v_looked) else (if (fX6_isIn x1 0 v_size) = 0 then ((-1), v_size, v_answer, v_looked) else (0, x1, (fX6_anew v_answer v_looked).1, (fX6_anew v_answer v_looked).2)))
theorem fX6_cut_ex : ∃ f : Int32 → Int32 → Int32 → Int32 → Int32 → (Int32 × Int32 × Int32 × Int32), ∀ (x1 : Int32) (v_done : Int32) (v_size : Int32) (v_answer : Int32) (v_looked : Int32), f x1 v_done v_size v_answer v_looked = fX6_cut_d x1 v_done v_size v_answer v_looked := ⟨fX6_cut_d, fun _ _ _ _ _ => rfl⟩
noncomputable def fX6_cut : Int32 → Int32 → Int32 → Int32 → Int32 → (Int32 × Int32 × Int32 × Int32) := Classical.choose fX6_cut_ex
theorem fX6_cut_eq (x1 : Int32) (v_done : Int32) (v_size : Int32) (v_answer : Int32) (v_looked : Int32) : fX6_cut x1 v_done v_size v_answer v_looked = fX6_cut_d x1 v_done v_size v_answer v_looked := Classical.choose_spec fX6_cut_ex x1 v_done v_size v_answer v_looked
set_option maxHeartbeats 1000000 in
set_option maxRecDepth 100000 in
theorem ctX6_cut (l : Launch) (D : va_G) (cI cZ : ClassId) (h0 h0_costs h0_factors h0_literals h0_begins h0_bounds h0_trail h0_choice h0_log h0_waitSet h0_waitOnes h0_waitDead : Nat) (x1 : Int32) (v_thrown v_constraints v_terms v_begun v_done v_over v_set v_ones v_depth v_searchSet v_searchOnes v_best v_bestOnes v_made v_size v_answer v_looked v_place v_waiting : Int32) : Met l yX6_cut (gw yX6_cut cX6_cut 2 (some .int)) { frames := 1, cells := 0, slots := 0, locals := 22 } (wPc D cI cZ [.ref h0, .int x1] [(h0, .inr (6, [.int v_thrown, .ref h0_costs, .ref h0_factors, .ref h0_literals, .ref h0_begins, .ref h0_bounds, .int v_constraints, .int v_terms, .int v_begun, .int v_done, .int v_over, .int v_set, .int v_ones, .ref h0_trail, .ref h0_choice, .int v_depth, .int v_searchSet, .int v_searchOnes, .int v_best, .int v_bestOnes, .int v_made, .ref h0_log, .int v_size, .int v_answer, .int v_looked, .int v_place, .int v_waiting, .ref h0_waitSet, .ref h0_waitOnes, .ref h0_waitDead]))]) (wQ D (some (.int ((fX6_cut x1 v_done v_size v_answer v_looked).1))) [(h0, .inr (6, [.int v_thrown, .ref h0_costs, .ref h0_factors, .ref h0_literals, .ref h0_begins, .ref h0_bounds, .int v_constraints, .int v_terms, .int v_begun, .int v_done, .int v_over, .int v_set, .int v_ones, .ref h0_trail, .ref h0_choice, .int v_depth, .int v_searchSet, .int v_searchOnes, .int v_best, .int v_bestOnes, .int v_made, .ref h0_log, .int v_size, .int v_answer, .int v_looked, .int v_place, .int v_waiting, .ref h0_waitSet, .ref h0_waitOnes, .ref h0_waitDead]))] [(h0, .inr (6, [.int v_thrown, .ref h0_costs, .ref h0_factors, .ref h0_literals, .ref h0_begins, .ref h0_bounds, .int v_constraints, .int v_terms, .int v_begun, .int v_done, .int v_over, .int v_set, .int v_ones, .ref h0_trail, .ref h0_choice, .int v_depth, .int v_searchSet, .int v_searchOnes, .int v_best, .int v_bestOnes, .int v_made, .ref h0_log, .int ((fX6_cut x1 v_done v_size v_answer v_looked).2.1), .int ((fX6_cut x1 v_done v_size v_answer v_looked).2.2.1), .int ((fX6_cut x1 v_done v_size v_answer v_looked).2.2.2), .int v_place, .int v_waiting, .ref h0_waitSet, .ref h0_waitOnes, .ref h0_waitDead]))]) 0 0 (aw [(h0, .inr (6, [.int v_thrown, .ref h0_costs, .ref h0_factors, .ref h0_literals, .ref h0_begins, .ref h0_bounds, .int v_constraints, .int v_terms, .int v_begun, .int v_done, .int v_over, .int v_set, .int v_ones, .ref h0_trail, .ref h0_choice, .int v_depth, .int v_searchSet, .int v_searchOnes, .int v_best, .int v_bestOnes, .int v_made, .ref h0_log, .int v_size, .int v_answer, .int v_looked, .int v_place, .int v_waiting, .ref h0_waitSet, .ref h0_waitOnes, .ref h0_waitDead]))]) := by
  refine wMet (by decide) (Nat.le_of_ble_eq_true rfl) ?_
  intro p e s m below meth c hx hb hr hlocks hml hown hts hP hK hN hD hS ls hl
  have hl : lv_has ls 2 [(0, .ref h0), (1, .int x1)] := hl
  have hF := (fX6_cut_eq x1 v_done v_size v_answer v_looked).trans (fX6_cut_d.eq_1 x1 v_done v_size v_answer v_looked)
  refine lv_aload_n hx hb dX6_cut_0 rfl (lv_at hl 0 rfl) ?_
  refine va_get (D := D) hx hb hts inX6 hown hK hP 0 rfl rfl 9 (by decide) (hts _ kw482) (fun _ h9 => h9) rfl dX6_cut_1 ?_
  refine lv_if_eq (tgt := 19) hx hb dX6_cut_4 (by decide) (fun c_1 => ?_) (fun c_1 => ?_)
  · have hF := hF.trans (if_pos c_1)
    refine lv_iconst (v := (-1)) hx hb dX6_cut_19 (by decide) ?_
    exact wreti hx hb hr hlocks (by rw [hF]) (by rw [hF]; exact hP) hS dX6_cut_20
  · have hF := hF.trans (if_neg c_1)
    refine lv_iload_n hx hb dX6_cut_7 rfl (lv_at hl 1 rfl) ?_
    refine lv_iconst (v := 0) hx hb dX6_cut_8 (by decide) ?_
    refine lv_aload_n hx hb dX6_cut_9 rfl (lv_at hl 0 rfl) ?_
    refine va_get (D := D) hx hb hts inX6 hown hK hP 0 rfl rfl 22 (by decide) (hts _ kw495) (fun _ h9 => h9) rfl dX6_cut_10 ?_
    have hPc : va_P D vwCl [] _ := hP.sub [] rfl
    refine rback (va_runS (As := [.int x1, .int 0, .int v_size]) (rest := []) ⟨hx, hb, hml, hown, hts⟩ (ctX6_isIn l D cI cZ x1 0 v_size) ⟨(cB hts kw570 kw568 kw58 pmX6_isIn ⟨Nat.le_of_ble_eq_true rfl, Nat.le_of_ble_eq_true rfl⟩), hts _ kw569⟩ ⟨rPc_blind, rpre hPc hK hN⟩ rfl rfl hl.1 rfl (lv_room (Nat.le_of_ble_eq_true rfl)) dX6_cut_13 ⟨Nat.zero_le _, Nat.zero_le _⟩) ?_
    refine lv_if_ne (tgt := 21) hx hb dX6_cut_16 (by decide) (fun c_2 => ?_) (fun c_2 => ?_)
    · have hF := hF.trans (if_neg c_2)
      refine lv_aload_n hx hb dX6_cut_21 rfl (lv_at hl 0 rfl) ?_
      refine lv_iload_n hx hb dX6_cut_22 rfl (lv_at hl 1 rfl) ?_
      refine va_put (D := D) (v := .int x1) (ty := .int) hx hb hts inX6 tyX6 tyX6_ok nmX6 hown hK hP hD hS 0 rfl rfl 22 (by decide) (hts _ kw495) (fun _ h9 => h9) rfl (by decide +kernel) rfl rfl (Nat.le_of_ble_eq_true rfl) dX6_cut_23 (fun H locs hP hD hS => ?_)
      have hP : va_P D vwCl [(h0, .inr (6, [.int v_thrown, .ref h0_costs, .ref h0_factors, .ref h0_literals, .ref h0_begins, .ref h0_bounds, .int v_constraints, .int v_terms, .int v_begun, .int v_done, .int v_over, .int v_set, .int v_ones, .ref h0_trail, .ref h0_choice, .int v_depth, .int v_searchSet, .int v_searchOnes, .int v_best, .int v_bestOnes, .int v_made, .ref h0_log, .int x1, .int v_answer, .int v_looked, .int v_place, .int v_waiting, .ref h0_waitSet, .ref h0_waitOnes, .ref h0_waitDead]))] H := hP
      have hD : va_D _ [(h0, .inr (6, [.int v_thrown, .ref h0_costs, .ref h0_factors, .ref h0_literals, .ref h0_begins, .ref h0_bounds, .int v_constraints, .int v_terms, .int v_begun, .int v_done, .int v_over, .int v_set, .int v_ones, .ref h0_trail, .ref h0_choice, .int v_depth, .int v_searchSet, .int v_searchOnes, .int v_best, .int v_bestOnes, .int v_made, .ref h0_log, .int x1, .int v_answer, .int v_looked, .int v_place, .int v_waiting, .ref h0_waitSet, .ref h0_waitOnes, .ref h0_waitDead]))] := hD
      refine lv_aload_n hx hb dX6_cut_26 rfl (lv_at hl 0 rfl) ?_
      have hPc : va_P D vwCl [(h0, .inr (6, [.int v_thrown, .ref h0_costs, .ref h0_factors, .ref h0_literals, .ref h0_begins, .ref h0_bounds, .int v_constraints, .int v_terms, .int v_begun, .int v_done, .int v_over, .int v_set, .int v_ones, .ref h0_trail, .ref h0_choice, .int v_depth, .int v_searchSet, .int v_searchOnes, .int v_best, .int v_bestOnes, .int v_made, .ref h0_log, .int x1, .int v_answer, .int v_looked, .int v_place, .int v_waiting, .ref h0_waitSet, .ref h0_waitOnes, .ref h0_waitDead]))] _ := hP.sub [0] rfl
      refine wback (ws' := [(h0, .inr (6, [.int v_thrown, .ref h0_costs, .ref h0_factors, .ref h0_literals, .ref h0_begins, .ref h0_bounds, .int v_constraints, .int v_terms, .int v_begun, .int v_done, .int v_over, .int v_set, .int v_ones, .ref h0_trail, .ref h0_choice, .int v_depth, .int v_searchSet, .int v_searchOnes, .int v_best, .int v_bestOnes, .int v_made, .ref h0_log, .int x1, .int ((fX6_anew v_answer v_looked).1), .int ((fX6_anew v_answer v_looked).2), .int v_place, .int v_waiting, .ref h0_waitSet, .ref h0_waitOnes, .ref h0_waitDead]))]) [0] (va_runV (As := []) (rest := []) ⟨hx, hb, hml, hown, hts⟩ (ctX6_anew l D cI cZ h0 h0_costs h0_factors h0_literals h0_begins h0_bounds h0_trail h0_choice h0_log h0_waitSet h0_waitOnes h0_waitDead v_thrown v_constraints v_terms v_begun v_done v_over v_set v_ones v_depth v_searchSet v_searchOnes v_best v_bestOnes v_made x1 v_answer v_looked v_place v_waiting) ⟨(cB hts kw655 kw652 kw58 pmX6_anew ⟨Nat.le_of_ble_eq_true rfl, Nat.le_of_ble_eq_true rfl⟩), hts _ kw654, hts _ kw47⟩ ⟨wPc_blind, va_recv hK hP (ci := 6) (q0 := 0) rfl rfl, wpre hPc hK hN (hD.sub (ws' := [(h0, .inr (6, [.int v_thrown, .ref h0_costs, .ref h0_factors, .ref h0_literals, .ref h0_begins, .ref h0_bounds, .int v_constraints, .int v_terms, .int v_begun, .int v_done, .int v_over, .int v_set, .int v_ones, .ref h0_trail, .ref h0_choice, .int v_depth, .int v_searchSet, .int v_searchOnes, .int v_best, .int v_bestOnes, .int v_made, .ref h0_log, .int x1, .int v_answer, .int v_looked, .int v_place, .int v_waiting, .ref h0_waitSet, .ref h0_waitOnes, .ref h0_waitDead]))]) [0] (by decide) rfl)⟩ rfl rfl hl.1 rfl (lv_room (Nat.le_of_ble_eq_true rfl)) dX6_cut_27 ⟨Nat.zero_le _, Nat.zero_le _⟩) hP hD hS rfl rfl rfl rfl (fun H locs hP hD hS => ?_)
      refine lv_iconst (v := 0) hx hb dX6_cut_30 (by decide) ?_
      exact wreti hx hb hr hlocks (by rw [hF]) (by rw [hF]; exact hP) hS dX6_cut_31
    · have hF := hF.trans (if_pos c_2)
      refine lv_iconst (v := (-1)) hx hb dX6_cut_19 (by decide) ?_
      exact wreti hx hb hr hlocks (by rw [hF]) (by rw [hF]; exact hP) hS dX6_cut_20

-- LeastCostModel.steps
theorem pmX6_steps : mFit yX6_steps 0 := ⟨by decide +kernel, by decide +kernel, by decide +kernel⟩
noncomputable def fX6_steps_d (v_made : Int32) : Int32 :=
  v_made
theorem fX6_steps_ex : ∃ f : Int32 → Int32, ∀ (v_made : Int32), f v_made = fX6_steps_d v_made := ⟨fX6_steps_d, fun _ => rfl⟩
noncomputable def fX6_steps : Int32 → Int32 := Classical.choose fX6_steps_ex
theorem fX6_steps_eq (v_made : Int32) : fX6_steps v_made = fX6_steps_d v_made := Classical.choose_spec fX6_steps_ex v_made
set_option maxHeartbeats 1000000 in
set_option maxRecDepth 100000 in
theorem ctX6_steps (l : Launch) (D : va_G) (cI cZ : ClassId) (h0 h0_costs h0_factors h0_literals h0_begins h0_bounds h0_trail h0_choice h0_log h0_waitSet h0_waitOnes h0_waitDead : Nat) (v_thrown v_constraints v_terms v_begun v_done v_over v_set v_ones v_depth v_searchSet v_searchOnes v_best v_bestOnes v_made v_size v_answer v_looked v_place v_waiting : Int32) : Met l yX6_steps (gw yX6_steps cX6_steps 1 (some .int)) { frames := 0, cells := 0, slots := 0, locals := 0 } (rPc D cI cZ [.ref h0] [(h0, .inr (6, [.int v_thrown, .ref h0_costs, .ref h0_factors, .ref h0_literals, .ref h0_begins, .ref h0_bounds, .int v_constraints, .int v_terms, .int v_begun, .int v_done, .int v_over, .int v_set, .int v_ones, .ref h0_trail, .ref h0_choice, .int v_depth, .int v_searchSet, .int v_searchOnes, .int v_best, .int v_bestOnes, .int v_made, .ref h0_log, .int v_size, .int v_answer, .int v_looked, .int v_place, .int v_waiting, .ref h0_waitSet, .ref h0_waitOnes, .ref h0_waitDead]))]) (rQ (fX6_steps v_made)) 0 0 (fun _ => False) := by
  refine rMet (by decide) (Nat.le_of_ble_eq_true rfl) ?_
  intro p e s m below meth c hx hb hr hlocks hml hown hts hP hK hN ls hl
  have hl : lv_has ls 1 [(0, .ref h0)] := hl
  have hF := (fX6_steps_eq v_made).trans (fX6_steps_d.eq_1 v_made)
  refine lv_aload_n hx hb dX6_steps_0 rfl (lv_at hl 0 rfl) ?_
  refine va_get (D := D) hx hb hts inX6 hown hK hP 0 rfl rfl 20 (by decide) (hts _ kw493) (fun _ h9 => h9) rfl dX6_steps_1 ?_
  exact rreti hx hb hr hlocks hF.symm dX6_steps_4
