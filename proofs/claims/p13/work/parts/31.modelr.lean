-- LeastCostModel.slack
theorem pmX6_slack : mFit yX6_slack 1 := ⟨by decide +kernel, by decide +kernel, by decide +kernel⟩
noncomputable def fX6_slack_L15 (x1 : Int32) (v_set : Int32) (v_ones : Int32) (v_factors : Nat → Int32) (v_literals : Nat → Int32) (v_begins : Nat → Int32) (v_bounds : Nat → Int32) : Nat → Int32 → Int32 → Int32
  | 0, l2, l3 => 0
  | n + 1, l2, l3 => (if (v_begins (x1 + 1).toNatClampNeg) ≤ l3 then l2 else (if (fX6_isFalse (v_literals l3.toNatClampNeg) v_set v_ones) = 0 then fX6_slack_L15 x1 v_set v_ones v_factors v_literals v_begins v_bounds n (l2 + (v_factors l3.toNatClampNeg)) (l3 + 1) else fX6_slack_L15 x1 v_set v_ones v_factors v_literals v_begins v_bounds n l2 (l3 + 1)))
noncomputable def fX6_slack_d (x1 : Int32) (v_set : Int32) (v_ones : Int32) (v_factors : Nat → Int32) (v_literals : Nat → Int32) (v_begins : Nat → Int32) (v_bounds : Nat → Int32) : Int32 :=
  fX6_slack_L15 x1 v_set v_ones v_factors v_literals v_begins v_bounds 121 (-(v_bounds x1.toNatClampNeg)) (v_begins x1.toNatClampNeg)
theorem fX6_slack_ex : ∃ f : Int32 → Int32 → Int32 → (Nat → Int32) → (Nat → Int32) → (Nat → Int32) → (Nat → Int32) → Int32, ∀ (x1 : Int32) (v_set : Int32) (v_ones : Int32) (v_factors : Nat → Int32) (v_literals : Nat → Int32) (v_begins : Nat → Int32) (v_bounds : Nat → Int32), f x1 v_set v_ones v_factors v_literals v_begins v_bounds = fX6_slack_d x1 v_set v_ones v_factors v_literals v_begins v_bounds := ⟨fX6_slack_d, fun _ _ _ _ _ _ _ => rfl⟩
noncomputable def fX6_slack : Int32 → Int32 → Int32 → (Nat → Int32) → (Nat → Int32) → (Nat → Int32) → (Nat → Int32) → Int32 := Classical.choose fX6_slack_ex
theorem fX6_slack_eq (x1 : Int32) (v_set : Int32) (v_ones : Int32) (v_factors : Nat → Int32) (v_literals : Nat → Int32) (v_begins : Nat → Int32) (v_bounds : Nat → Int32) : fX6_slack x1 v_set v_ones v_factors v_literals v_begins v_bounds = fX6_slack_d x1 v_set v_ones v_factors v_literals v_begins v_bounds := Classical.choose_spec fX6_slack_ex x1 v_set v_ones v_factors v_literals v_begins v_bounds
set_option maxHeartbeats 1000000 in
set_option maxRecDepth 100000 in
theorem ctX6_slack (l : Launch) (D : va_G) (cI cZ : ClassId) (h0 h0_costs h0_factors h0_literals h0_begins h0_bounds h0_trail h0_choice h0_log h0_waitSet h0_waitOnes h0_waitDead : Nat) (x1 : Int32) (v_thrown v_constraints v_terms v_begun v_done v_over v_set v_ones v_depth v_searchSet v_searchOnes v_best v_bestOnes v_made v_size v_answer v_looked v_place v_waiting : Int32) (v_factors v_literals v_begins v_bounds : Nat → Int32) (hC : okCm v_begins x1) : Met l yX6_slack (gw yX6_slack cX6_slack 4 (some .int)) { frames := 2, cells := 0, slots := 0, locals := 43 } (rPc D cI cZ [.ref h0, .int x1] [(h0, .inr (6, [.int v_thrown, .ref h0_costs, .ref h0_factors, .ref h0_literals, .ref h0_begins, .ref h0_bounds, .int v_constraints, .int v_terms, .int v_begun, .int v_done, .int v_over, .int v_set, .int v_ones, .ref h0_trail, .ref h0_choice, .int v_depth, .int v_searchSet, .int v_searchOnes, .int v_best, .int v_bestOnes, .int v_made, .ref h0_log, .int v_size, .int v_answer, .int v_looked, .int v_place, .int v_waiting, .ref h0_waitSet, .ref h0_waitOnes, .ref h0_waitDead])), (h0_factors, .inl (cI, 120, .inl v_factors)), (h0_literals, .inl (cI, 120, .inl v_literals)), (h0_begins, .inl (cI, 22, .inl v_begins)), (h0_bounds, .inl (cI, 21, .inl v_bounds))]) (rQ (fX6_slack x1 v_set v_ones v_factors v_literals v_begins v_bounds)) 0 0 (fun _ => False) := by
  refine rMet (by decide) (Nat.le_of_ble_eq_true rfl) ?_
  intro p e s m below meth c hx hb hr hlocks hml hown hts hP hK hN ls hl
  have hl : lv_has ls 4 [(0, .ref h0), (1, .int x1)] := hl
  have hF := (fX6_slack_eq x1 v_set v_ones v_factors v_literals v_begins v_bounds).trans (fX6_slack_d.eq_1 x1 v_set v_ones v_factors v_literals v_begins v_bounds)
  obtain ⟨a, b, ea, eb, hab, hb120, i20, i21, i21s⟩ := hC
  refine lv_aload_n hx hb dX6_slack_0 rfl (lv_at hl 0 rfl) ?_
  refine va_get (D := D) hx hb hts inX6 hown hK hP 0 rfl rfl 5 (by decide) (hts _ kw478) (fun _ h9 => h9) rfl dX6_slack_1 ?_
  refine lv_iload_n hx hb dX6_slack_4 rfl (lv_at hl 1 rfl) ?_
  refine va_iald hx hb hK hP 4 0 rfl rfl i20 dX6_slack_5 ?_
  refine lv_ineg hx hb dX6_slack_6 ?_
  refine lv_istore_n (lv' := [(2, .int (-(v_bounds x1.toNatClampNeg))), (0, .ref h0), (1, .int x1)]) hx hb dX6_slack_7 rfl hl (by decide) rfl (fun ls hl => ?_)
  refine lv_aload_n hx hb dX6_slack_8 rfl (lv_at hl 1 rfl) ?_
  refine va_get (D := D) hx hb hts inX6 hown hK hP 0 rfl rfl 4 (by decide) (hts _ kw477) (fun _ h9 => h9) rfl dX6_slack_9 ?_
  refine lv_iload_n hx hb dX6_slack_12 rfl (lv_at hl 2 rfl) ?_
  refine va_iald hx hb hK hP 3 0 rfl rfl i21 dX6_slack_13 ?_
  refine lv_istore_n (lv' := [(3, .int (v_begins x1.toNatClampNeg)), (2, .int (-(v_bounds x1.toNatClampNeg))), (0, .ref h0), (1, .int x1)]) hx hb dX6_slack_14 rfl hl (by decide) rfl (fun ls hl => ?_)
  have loop15 : ∀ (n : Nat) (k : Nat) (l2 : Int32) (l3 : Int32) , (l3 = nI k ∧ k ≤ 120 ∧ 120 < k + n) → fX6_slack x1 v_set v_ones v_factors v_literals v_begins v_bounds = fX6_slack_L15 x1 v_set v_ones v_factors v_literals v_begins v_bounds n l2 l3 → ∀ ls : Array Slot, lv_has ls 4 [(2, .int l2), (3, .int l3), (0, .ref h0), (1, .int x1)] → W p l e { frames := 2, cells := 0, slots := 0, locals := 43 } s m [.ref h0, .int x1].toArray below meth c s.heap [] 0 0 (MQ below (rQ (fX6_slack x1 v_set v_ones v_factors v_literals v_begins v_bounds)) [.ref h0, .int x1].toArray s 0 0 (fun _ => False)) (F0 m 15 ls []) := by
    intro n
    induction n with
    | zero =>
      intro k l2 l3 hk hF
      exact (by obtain ⟨_, h2, h3⟩ := hk; exact absurd h3 (by omega))
    | succ n ih =>
      intro k l2 l3 hk hF ls hl
      have hF := hF.trans (fX6_slack_L15.eq_2 ..)
      obtain ⟨ek, hk1, hk2⟩ := hk
      refine lv_iload_n hx hb dX6_slack_15 rfl (lv_at hl 1 rfl) ?_
      refine lv_aload_n hx hb dX6_slack_16 rfl (lv_at hl 2 rfl) ?_
      refine va_get (D := D) hx hb hts inX6 hown hK hP 0 rfl rfl 4 (by decide) (hts _ kw477) (fun _ h9 => h9) rfl dX6_slack_17 ?_
      refine lv_iload_n hx hb dX6_slack_20 rfl (lv_at hl 3 rfl) ?_
      refine lv_iconst (v := 1) hx hb dX6_slack_21 (by decide) ?_
      refine lv_iadd hx hb dX6_slack_22 ?_
      refine va_iald hx hb hK hP 3 0 rfl rfl i21s dX6_slack_23 ?_
      refine lv_icmp_ge (tgt := 59) hx hb dX6_slack_24 (by decide) (fun c_1 => ?_) (fun c_1 => ?_)
      · have hF := hF.trans (if_pos c_1)
        refine lv_iload_n hx hb dX6_slack_59 rfl (lv_at hl 0 rfl) ?_
        exact rreti hx hb hr hlocks hF.symm dX6_slack_60
      · have hF := hF.trans (if_neg c_1)
        refine lv_aload_n hx hb dX6_slack_27 rfl (lv_at hl 2 rfl) ?_
        refine lv_aload_n hx hb dX6_slack_28 rfl (lv_at hl 2 rfl) ?_
        refine va_get (D := D) hx hb hts inX6 hown hK hP 0 rfl rfl 3 (by decide) (hts _ kw476) (fun _ h9 => h9) rfl dX6_slack_29 ?_
        refine lv_iload_n hx hb dX6_slack_32 rfl (lv_at hl 1 rfl) ?_
        refine va_iald hx hb hK hP 2 0 rfl rfl (k_in ek (by have := okC_lt ek eb hk1 (by assumption); omega) (by decide)) dX6_slack_33 ?_
        have hPc : va_P D vwCl [(h0, .inr (6, [.int v_thrown, .ref h0_costs, .ref h0_factors, .ref h0_literals, .ref h0_begins, .ref h0_bounds, .int v_constraints, .int v_terms, .int v_begun, .int v_done, .int v_over, .int v_set, .int v_ones, .ref h0_trail, .ref h0_choice, .int v_depth, .int v_searchSet, .int v_searchOnes, .int v_best, .int v_bestOnes, .int v_made, .ref h0_log, .int v_size, .int v_answer, .int v_looked, .int v_place, .int v_waiting, .ref h0_waitSet, .ref h0_waitOnes, .ref h0_waitDead]))] _ := hP.sub [0] rfl
        refine rback (va_runV (As := [.int (v_literals l3.toNatClampNeg)]) (rest := []) ⟨hx, hb, hml, hown, hts⟩ (ctX6_isFalse l D cI cZ h0 h0_costs h0_factors h0_literals h0_begins h0_bounds h0_trail h0_choice h0_log h0_waitSet h0_waitOnes h0_waitDead (v_literals l3.toNatClampNeg) v_thrown v_constraints v_terms v_begun v_done v_over v_set v_ones v_depth v_searchSet v_searchOnes v_best v_bestOnes v_made v_size v_answer v_looked v_place v_waiting) ⟨(cB hts kw611 kw608 kw58 pmX6_isFalse ⟨Nat.le_of_ble_eq_true rfl, Nat.le_of_ble_eq_true rfl⟩), hts _ kw610, hts _ kw41⟩ ⟨rPc_blind, va_recv hK hP (ci := 6) (q0 := 0) rfl rfl, rpre hPc hK hN⟩ rfl rfl hl.1 rfl (lv_room (Nat.le_of_ble_eq_true rfl)) dX6_slack_34 ⟨Nat.zero_le _, Nat.zero_le _⟩) ?_
        refine lv_if_eq (tgt := 44) hx hb dX6_slack_37 (by decide) (fun c_2 => ?_) (fun c_2 => ?_)
        · have hF := hF.trans (if_pos c_2)
          refine lv_iload_n hx hb dX6_slack_44 rfl (lv_at hl 0 rfl) ?_
          refine lv_aload_n hx hb dX6_slack_45 rfl (lv_at hl 2 rfl) ?_
          refine va_get (D := D) hx hb hts inX6 hown hK hP 0 rfl rfl 2 (by decide) (hts _ kw475) (fun _ h9 => h9) rfl dX6_slack_46 ?_
          refine lv_iload_n hx hb dX6_slack_49 rfl (lv_at hl 1 rfl) ?_
          refine va_iald hx hb hK hP 1 0 rfl rfl (k_in ek (by have := okC_lt ek eb hk1 (by assumption); omega) (by decide)) dX6_slack_50 ?_
          refine lv_iadd hx hb dX6_slack_51 ?_
          refine lv_istore_n (lv' := [(2, .int (l2 + (v_factors l3.toNatClampNeg))), (3, .int l3), (0, .ref h0), (1, .int x1)]) hx hb dX6_slack_52 rfl hl (by decide) rfl (fun ls hl => ?_)
          refine lv_iinc (v := l3 + 1) (lv' := [(3, .int (l3 + 1)), (2, .int (l2 + (v_factors l3.toNatClampNeg))), (0, .ref h0), (1, .int x1)]) hx hb dX6_slack_53 hl (k := 1) rfl rfl (by decide) rfl (fun ls hl => ?_)
          refine lv_goto (tgt := 15) hx hb dX6_slack_56 (by decide) ?_
          exact ih (k + 1) (l2 + (v_factors l3.toNatClampNeg)) (l3 + 1) ⟨k_s ek, by have := okC_lt ek eb hk1 (by assumption); omega, by omega⟩ hF ls (lv_sub hl [1, 0, 2, 3] rfl)
        · have hF := hF.trans (if_neg c_2)
          refine lv_iload_n hx hb dX6_slack_40 rfl (lv_at hl 0 rfl) ?_
          refine lv_goto (tgt := 52) hx hb dX6_slack_41 (by decide) ?_
          refine lv_istore_n (lv' := [(2, .int l2), (3, .int l3), (0, .ref h0), (1, .int x1)]) hx hb dX6_slack_52 rfl hl (by decide) rfl (fun ls hl => ?_)
          refine lv_iinc (v := l3 + 1) (lv' := [(3, .int (l3 + 1)), (2, .int l2), (0, .ref h0), (1, .int x1)]) hx hb dX6_slack_53 hl (k := 1) rfl rfl (by decide) rfl (fun ls hl => ?_)
          refine lv_goto (tgt := 15) hx hb dX6_slack_56 (by decide) ?_
          exact ih (k + 1) l2 (l3 + 1) ⟨k_s ek, by have := okC_lt ek eb hk1 (by assumption); omega, by omega⟩ hF ls (lv_sub hl [1, 0, 2, 3] rfl)
  exact loop15 121 a (-(v_bounds x1.toNatClampNeg)) (v_begins x1.toNatClampNeg) ⟨ea, by omega, by omega⟩ hF ls (lv_sub hl [1, 0, 2, 3] rfl)

-- LeastCostModel.cost
theorem pmX6_cost : mFit yX6_cost 0 := ⟨by decide +kernel, by decide +kernel, by decide +kernel⟩
noncomputable def fX6_cost_L4 (v_set : Int32) (v_ones : Int32) (v_costs : Nat → Int32) : Nat → Int32 → Int32 → Int32
  | 0, l1, l2 => 0
  | n + 1, l1, l2 => (if 16 < l2 then l1 else (if (fX6_isSet l2 v_set) = 0 then fX6_cost_L4 v_set v_ones v_costs n l1 (l2 + 1) else (if (fX6_isOne l2 v_ones) = 0 then fX6_cost_L4 v_set v_ones v_costs n l1 (l2 + 1) else fX6_cost_L4 v_set v_ones v_costs n (l1 + (v_costs l2.toNatClampNeg)) (l2 + 1))))
noncomputable def fX6_cost_d (v_set : Int32) (v_ones : Int32) (v_costs : Nat → Int32) : Int32 :=
  fX6_cost_L4 v_set v_ones v_costs 17 0 1
theorem fX6_cost_ex : ∃ f : Int32 → Int32 → (Nat → Int32) → Int32, ∀ (v_set : Int32) (v_ones : Int32) (v_costs : Nat → Int32), f v_set v_ones v_costs = fX6_cost_d v_set v_ones v_costs := ⟨fX6_cost_d, fun _ _ _ => rfl⟩
noncomputable def fX6_cost : Int32 → Int32 → (Nat → Int32) → Int32 := Classical.choose fX6_cost_ex
theorem fX6_cost_eq (v_set : Int32) (v_ones : Int32) (v_costs : Nat → Int32) : fX6_cost v_set v_ones v_costs = fX6_cost_d v_set v_ones v_costs := Classical.choose_spec fX6_cost_ex v_set v_ones v_costs
set_option maxHeartbeats 1000000 in
set_option maxRecDepth 100000 in
theorem ctX6_cost (l : Launch) (D : va_G) (cI cZ : ClassId) (h0 h0_costs h0_factors h0_literals h0_begins h0_bounds h0_trail h0_choice h0_log h0_waitSet h0_waitOnes h0_waitDead : Nat) (v_thrown v_constraints v_terms v_begun v_done v_over v_set v_ones v_depth v_searchSet v_searchOnes v_best v_bestOnes v_made v_size v_answer v_looked v_place v_waiting : Int32) (v_costs : Nat → Int32) : Met l yX6_cost (gw yX6_cost cX6_cost 3 (some .int)) { frames := 1, cells := 0, slots := 0, locals := 21 } (rPc D cI cZ [.ref h0] [(h0, .inr (6, [.int v_thrown, .ref h0_costs, .ref h0_factors, .ref h0_literals, .ref h0_begins, .ref h0_bounds, .int v_constraints, .int v_terms, .int v_begun, .int v_done, .int v_over, .int v_set, .int v_ones, .ref h0_trail, .ref h0_choice, .int v_depth, .int v_searchSet, .int v_searchOnes, .int v_best, .int v_bestOnes, .int v_made, .ref h0_log, .int v_size, .int v_answer, .int v_looked, .int v_place, .int v_waiting, .ref h0_waitSet, .ref h0_waitOnes, .ref h0_waitDead])), (h0_costs, .inl (cI, 17, .inl v_costs))]) (rQ (fX6_cost v_set v_ones v_costs)) 0 0 (fun _ => False) := by
  refine rMet (by decide) (Nat.le_of_ble_eq_true rfl) ?_
  intro p e s m below meth c hx hb hr hlocks hml hown hts hP hK hN ls hl
  have hl : lv_has ls 3 [(0, .ref h0)] := hl
  have hF := (fX6_cost_eq v_set v_ones v_costs).trans (fX6_cost_d.eq_1 v_set v_ones v_costs)
  refine lv_iconst (v := 0) hx hb dX6_cost_0 (by decide) ?_
  refine lv_istore_n (lv' := [(1, .int 0), (0, .ref h0)]) hx hb dX6_cost_1 rfl hl (by decide) rfl (fun ls hl => ?_)
  refine lv_iconst (v := 1) hx hb dX6_cost_2 (by decide) ?_
  refine lv_istore_n (lv' := [(2, .int 1), (1, .int 0), (0, .ref h0)]) hx hb dX6_cost_3 rfl hl (by decide) rfl (fun ls hl => ?_)
  have loop4 : ∀ (n : Nat) (k : Nat) (l1 : Int32) (l2 : Int32) , (l2 = nI k ∧ 1 ≤ k ∧ k ≤ 17 ∧ 17 < k + n) → fX6_cost v_set v_ones v_costs = fX6_cost_L4 v_set v_ones v_costs n l1 l2 → ∀ ls : Array Slot, lv_has ls 3 [(1, .int l1), (2, .int l2), (0, .ref h0)] → W p l e { frames := 1, cells := 0, slots := 0, locals := 21 } s m [.ref h0].toArray below meth c s.heap [] 0 0 (MQ below (rQ (fX6_cost v_set v_ones v_costs)) [.ref h0].toArray s 0 0 (fun _ => False)) (F0 m 4 ls []) := by
    intro n
    induction n with
    | zero =>
      intro k l1 l2 hk hF
      exact (by obtain ⟨_, _, h2, h3⟩ := hk; exact absurd h3 (by omega))
    | succ n ih =>
      intro k l1 l2 hk hF ls hl
      have hF := hF.trans (fX6_cost_L4.eq_2 ..)
      obtain ⟨ek, hk1, hk2, hk3⟩ := hk
      refine lv_iload_n hx hb dX6_cost_4 rfl (lv_at hl 1 rfl) ?_
      refine lv_bipush (v := 16) hx hb dX6_cost_5 (by decide) ?_
      refine lv_icmp_gt (tgt := 45) hx hb dX6_cost_7 (by decide) (fun c_1 => ?_) (fun c_1 => ?_)
      · have hF := hF.trans (if_pos c_1)
        refine lv_iload_n hx hb dX6_cost_45 rfl (lv_at hl 0 rfl) ?_
        exact rreti hx hb hr hlocks hF.symm dX6_cost_46
      · have hF := hF.trans (if_neg c_1)
        refine lv_aload_n hx hb dX6_cost_10 rfl (lv_at hl 2 rfl) ?_
        refine lv_iload_n hx hb dX6_cost_11 rfl (lv_at hl 1 rfl) ?_
        have hPc : va_P D vwCl [(h0, .inr (6, [.int v_thrown, .ref h0_costs, .ref h0_factors, .ref h0_literals, .ref h0_begins, .ref h0_bounds, .int v_constraints, .int v_terms, .int v_begun, .int v_done, .int v_over, .int v_set, .int v_ones, .ref h0_trail, .ref h0_choice, .int v_depth, .int v_searchSet, .int v_searchOnes, .int v_best, .int v_bestOnes, .int v_made, .ref h0_log, .int v_size, .int v_answer, .int v_looked, .int v_place, .int v_waiting, .ref h0_waitSet, .ref h0_waitOnes, .ref h0_waitDead]))] _ := hP.sub [0] rfl
        refine rback (va_runV (As := [.int l2]) (rest := []) ⟨hx, hb, hml, hown, hts⟩ (ctX6_isSet l D cI cZ h0 h0_costs h0_factors h0_literals h0_begins h0_bounds h0_trail h0_choice h0_log h0_waitSet h0_waitOnes h0_waitDead l2 v_thrown v_constraints v_terms v_begun v_done v_over v_set v_ones v_depth v_searchSet v_searchOnes v_best v_bestOnes v_made v_size v_answer v_looked v_place v_waiting) ⟨(cB hts kw599 kw596 kw58 pmX6_isSet ⟨Nat.le_of_ble_eq_true rfl, Nat.le_of_ble_eq_true rfl⟩), hts _ kw598, hts _ kw38⟩ ⟨rPc_blind, va_recv hK hP (ci := 6) (q0 := 0) rfl rfl, rpre hPc hK hN⟩ rfl rfl hl.1 rfl (lv_room (Nat.le_of_ble_eq_true rfl)) dX6_cost_12 ⟨Nat.zero_le _, Nat.zero_le _⟩) ?_
        refine lv_if_eq (tgt := 37) hx hb dX6_cost_15 (by decide) (fun c_2 => ?_) (fun c_2 => ?_)
        · have hF := hF.trans (if_pos c_2)
          refine lv_iload_n hx hb dX6_cost_37 rfl (lv_at hl 0 rfl) ?_
          refine lv_istore_n (lv' := [(1, .int l1), (2, .int l2), (0, .ref h0)]) hx hb dX6_cost_38 rfl hl (by decide) rfl (fun ls hl => ?_)
          refine lv_iinc (v := l2 + 1) (lv' := [(2, .int (l2 + 1)), (1, .int l1), (0, .ref h0)]) hx hb dX6_cost_39 hl (k := 1) rfl rfl (by decide) rfl (fun ls hl => ?_)
          refine lv_goto (tgt := 4) hx hb dX6_cost_42 (by decide) ?_
          exact ih (k + 1) l1 (l2 + 1) ⟨k_s ek, by omega, by have := k_16 ek hk2 (by assumption); omega, by omega⟩ hF ls (lv_sub hl [1, 0, 2] rfl)
        · have hF := hF.trans (if_neg c_2)
          refine lv_aload_n hx hb dX6_cost_18 rfl (lv_at hl 2 rfl) ?_
          refine lv_iload_n hx hb dX6_cost_19 rfl (lv_at hl 1 rfl) ?_
          have hPc : va_P D vwCl [(h0, .inr (6, [.int v_thrown, .ref h0_costs, .ref h0_factors, .ref h0_literals, .ref h0_begins, .ref h0_bounds, .int v_constraints, .int v_terms, .int v_begun, .int v_done, .int v_over, .int v_set, .int v_ones, .ref h0_trail, .ref h0_choice, .int v_depth, .int v_searchSet, .int v_searchOnes, .int v_best, .int v_bestOnes, .int v_made, .ref h0_log, .int v_size, .int v_answer, .int v_looked, .int v_place, .int v_waiting, .ref h0_waitSet, .ref h0_waitOnes, .ref h0_waitDead]))] _ := hP.sub [0] rfl
          refine rback (va_runV (As := [.int l2]) (rest := []) ⟨hx, hb, hml, hown, hts⟩ (ctX6_isOne l D cI cZ h0 h0_costs h0_factors h0_literals h0_begins h0_bounds h0_trail h0_choice h0_log h0_waitSet h0_waitOnes h0_waitDead l2 v_thrown v_constraints v_terms v_begun v_done v_over v_set v_ones v_depth v_searchSet v_searchOnes v_best v_bestOnes v_made v_size v_answer v_looked v_place v_waiting) ⟨(cB hts kw603 kw600 kw58 pmX6_isOne ⟨Nat.le_of_ble_eq_true rfl, Nat.le_of_ble_eq_true rfl⟩), hts _ kw602, hts _ kw39⟩ ⟨rPc_blind, va_recv hK hP (ci := 6) (q0 := 0) rfl rfl, rpre hPc hK hN⟩ rfl rfl hl.1 rfl (lv_room (Nat.le_of_ble_eq_true rfl)) dX6_cost_20 ⟨Nat.zero_le _, Nat.zero_le _⟩) ?_
          refine lv_if_eq (tgt := 37) hx hb dX6_cost_23 (by decide) (fun c_3 => ?_) (fun c_3 => ?_)
          · have hF := hF.trans (if_pos c_3)
            refine lv_iload_n hx hb dX6_cost_37 rfl (lv_at hl 0 rfl) ?_
            refine lv_istore_n (lv' := [(1, .int l1), (2, .int l2), (0, .ref h0)]) hx hb dX6_cost_38 rfl hl (by decide) rfl (fun ls hl => ?_)
            refine lv_iinc (v := l2 + 1) (lv' := [(2, .int (l2 + 1)), (1, .int l1), (0, .ref h0)]) hx hb dX6_cost_39 hl (k := 1) rfl rfl (by decide) rfl (fun ls hl => ?_)
            refine lv_goto (tgt := 4) hx hb dX6_cost_42 (by decide) ?_
            exact ih (k + 1) l1 (l2 + 1) ⟨k_s ek, by omega, by have := k_16 ek hk2 (by assumption); omega, by omega⟩ hF ls (lv_sub hl [1, 0, 2] rfl)
          · have hF := hF.trans (if_neg c_3)
            refine lv_iload_n hx hb dX6_cost_26 rfl (lv_at hl 0 rfl) ?_
            refine lv_aload_n hx hb dX6_cost_27 rfl (lv_at hl 2 rfl) ?_
            refine va_get (D := D) hx hb hts inX6 hown hK hP 0 rfl rfl 1 (by decide) (hts _ kw474) (fun _ h9 => h9) rfl dX6_cost_28 ?_
            refine lv_iload_n hx hb dX6_cost_31 rfl (lv_at hl 1 rfl) ?_
            refine va_iald hx hb hK hP 1 0 rfl rfl (k_in ek (by have := k_16 ek hk2 (by assumption); omega) (by decide)) dX6_cost_32 ?_
            refine lv_iadd hx hb dX6_cost_33 ?_
            refine lv_goto (tgt := 38) hx hb dX6_cost_34 (by decide) ?_
            refine lv_istore_n (lv' := [(1, .int (l1 + (v_costs l2.toNatClampNeg))), (2, .int l2), (0, .ref h0)]) hx hb dX6_cost_38 rfl hl (by decide) rfl (fun ls hl => ?_)
            refine lv_iinc (v := l2 + 1) (lv' := [(2, .int (l2 + 1)), (1, .int (l1 + (v_costs l2.toNatClampNeg))), (0, .ref h0)]) hx hb dX6_cost_39 hl (k := 1) rfl rfl (by decide) rfl (fun ls hl => ?_)
            refine lv_goto (tgt := 4) hx hb dX6_cost_42 (by decide) ?_
            exact ih (k + 1) (l1 + (v_costs l2.toNatClampNeg)) (l2 + 1) ⟨k_s ek, by omega, by have := k_16 ek hk2 (by assumption); omega, by omega⟩ hF ls (lv_sub hl [1, 0, 2] rfl)
  exact loop4 17 1 0 1 ⟨rfl, by omega, by omega, by omega⟩ hF ls (lv_sub hl [1, 0, 2] rfl)

-- LeastCostModel.isBroken
theorem pmX6_isBroken : mFit yX6_isBroken 2 := ⟨by decide +kernel, by decide +kernel, by decide +kernel⟩
noncomputable def fX6_isBroken_L22 (x1 : Int32) (x2 : Int32) (v_constraints : Int32) (v_set : Int32) (v_ones : Int32) (v_costs : Nat → Int32) (v_factors : Nat → Int32) (v_literals : Nat → Int32) (v_begins : Nat → Int32) (v_bounds : Nat → Int32) : Nat → Int32 → Int32 → Int32
  | 0, l3, l4 => 0
  | n + 1, l3, l4 => (if v_constraints ≤ l4 then l3 else (if l3 = 0 then (if 0 ≤ (fX6_slack l4 v_set v_ones v_factors v_literals v_begins v_bounds) then fX6_isBroken_L22 x1 x2 v_constraints v_set v_ones v_costs v_factors v_literals v_begins v_bounds n 0 (l4 + 1) else fX6_isBroken_L22 x1 x2 v_constraints v_set v_ones v_costs v_factors v_literals v_begins v_bounds n 1 (l4 + 1)) else fX6_isBroken_L22 x1 x2 v_constraints v_set v_ones v_costs v_factors v_literals v_begins v_bounds n 1 (l4 + 1)))
noncomputable def fX6_isBroken_d (x1 : Int32) (x2 : Int32) (v_constraints : Int32) (v_set : Int32) (v_ones : Int32) (v_costs : Nat → Int32) (v_factors : Nat → Int32) (v_literals : Nat → Int32) (v_begins : Nat → Int32) (v_bounds : Nat → Int32) : Int32 :=
  (if x1 = 0 then fX6_isBroken_L22 x1 x2 v_constraints v_set v_ones v_costs v_factors v_literals v_begins v_bounds 21 0 0 else (if 0 ≤ (x2 - (fX6_cost v_set v_ones v_costs)) then fX6_isBroken_L22 x1 x2 v_constraints v_set v_ones v_costs v_factors v_literals v_begins v_bounds 21 0 0 else fX6_isBroken_L22 x1 x2 v_constraints v_set v_ones v_costs v_factors v_literals v_begins v_bounds 21 1 0))
theorem fX6_isBroken_ex : ∃ f : Int32 → Int32 → Int32 → Int32 → Int32 → (Nat → Int32) → (Nat → Int32) → (Nat → Int32) → (Nat → Int32) → (Nat → Int32) → Int32, ∀ (x1 : Int32) (x2 : Int32) (v_constraints : Int32) (v_set : Int32) (v_ones : Int32) (v_costs : Nat → Int32) (v_factors : Nat → Int32) (v_literals : Nat → Int32) (v_begins : Nat → Int32) (v_bounds : Nat → Int32), f x1 x2 v_constraints v_set v_ones v_costs v_factors v_literals v_begins v_bounds = fX6_isBroken_d x1 x2 v_constraints v_set v_ones v_costs v_factors v_literals v_begins v_bounds := ⟨fX6_isBroken_d, fun _ _ _ _ _ _ _ _ _ _ => rfl⟩
noncomputable def fX6_isBroken : Int32 → Int32 → Int32 → Int32 → Int32 → (Nat → Int32) → (Nat → Int32) → (Nat → Int32) → (Nat → Int32) → (Nat → Int32) → Int32 := Classical.choose fX6_isBroken_ex
theorem fX6_isBroken_eq (x1 : Int32) (x2 : Int32) (v_constraints : Int32) (v_set : Int32) (v_ones : Int32) (v_costs : Nat → Int32) (v_factors : Nat → Int32) (v_literals : Nat → Int32) (v_begins : Nat → Int32) (v_bounds : Nat → Int32) : fX6_isBroken x1 x2 v_constraints v_set v_ones v_costs v_factors v_literals v_begins v_bounds = fX6_isBroken_d x1 x2 v_constraints v_set v_ones v_costs v_factors v_literals v_begins v_bounds := Classical.choose_spec fX6_isBroken_ex x1 x2 v_constraints v_set v_ones v_costs v_factors v_literals v_begins v_bounds
set_option maxHeartbeats 1000000 in
set_option maxRecDepth 100000 in
theorem ctX6_isBroken (l : Launch) (D : va_G) (cI cZ : ClassId) (h0 h0_costs h0_factors h0_literals h0_begins h0_bounds h0_trail h0_choice h0_log h0_waitSet h0_waitOnes h0_waitDead : Nat) (x1 : Int32) (x2 : Int32) (v_thrown v_constraints v_terms v_begun v_done v_over v_set v_ones v_depth v_searchSet v_searchOnes v_best v_bestOnes v_made v_size v_answer v_looked v_place v_waiting : Int32) (v_costs v_factors v_literals v_begins v_bounds : Nat → Int32) (hO : okPm v_begins v_constraints) : Met l yX6_isBroken (gw yX6_isBroken cX6_isBroken 5 (some .boolean)) { frames := 3, cells := 0, slots := 0, locals := 66 } (rPc D cI cZ [.ref h0, .int x1, .int x2] [(h0, .inr (6, [.int v_thrown, .ref h0_costs, .ref h0_factors, .ref h0_literals, .ref h0_begins, .ref h0_bounds, .int v_constraints, .int v_terms, .int v_begun, .int v_done, .int v_over, .int v_set, .int v_ones, .ref h0_trail, .ref h0_choice, .int v_depth, .int v_searchSet, .int v_searchOnes, .int v_best, .int v_bestOnes, .int v_made, .ref h0_log, .int v_size, .int v_answer, .int v_looked, .int v_place, .int v_waiting, .ref h0_waitSet, .ref h0_waitOnes, .ref h0_waitDead])), (h0_costs, .inl (cI, 17, .inl v_costs)), (h0_factors, .inl (cI, 120, .inl v_factors)), (h0_literals, .inl (cI, 120, .inl v_literals)), (h0_begins, .inl (cI, 22, .inl v_begins)), (h0_bounds, .inl (cI, 21, .inl v_bounds))]) (rQ (fX6_isBroken x1 x2 v_constraints v_set v_ones v_costs v_factors v_literals v_begins v_bounds)) 0 0 (fun _ => False) := by
  refine rMet (by decide) (Nat.le_of_ble_eq_true rfl) ?_
  intro p e s m below meth c hx hb hr hlocks hml hown hts hP hK hN ls hl
  have hl : lv_has ls 5 [(0, .ref h0), (1, .int x1), (2, .int x2)] := hl
  have hF := (fX6_isBroken_eq x1 x2 v_constraints v_set v_ones v_costs v_factors v_literals v_begins v_bounds).trans (fX6_isBroken_d.eq_1 x1 x2 v_constraints v_set v_ones v_costs v_factors v_literals v_begins v_bounds)
  obtain ⟨C, eC, hC20, hall⟩ := hO
  refine lv_iload_n hx hb dX6_isBroken_0 rfl (lv_at hl 1 rfl) ?_
  refine lv_if_eq (tgt := 17) hx hb dX6_isBroken_1 (by decide) (fun c_1 => ?_) (fun c_1 => ?_)
  · have hF := hF.trans (if_pos c_1)
    refine lv_iconst (v := 0) hx hb dX6_isBroken_17 (by decide) ?_
    refine lv_istore_n (lv' := [(3, .int 0), (0, .ref h0), (1, .int x1), (2, .int x2)]) hx hb dX6_isBroken_18 rfl hl (by decide) rfl (fun ls hl => ?_)
    refine lv_iconst (v := 0) hx hb dX6_isBroken_19 (by decide) ?_
    refine lv_istore (lv' := [(4, .int 0), (3, .int 0), (0, .ref h0), (1, .int x1), (2, .int x2)]) hx hb dX6_isBroken_20 hl (by decide) rfl (fun ls hl => ?_)
    have loop22 : ∀ (n : Nat) (k : Nat) (l3 : Int32) (l4 : Int32) , (l4 = nI k ∧ k ≤ 20 ∧ 20 < k + n) → (l3 = 0 ∨ l3 = 1) → fX6_isBroken x1 x2 v_constraints v_set v_ones v_costs v_factors v_literals v_begins v_bounds = fX6_isBroken_L22 x1 x2 v_constraints v_set v_ones v_costs v_factors v_literals v_begins v_bounds n l3 l4 → ∀ ls : Array Slot, lv_has ls 5 [(3, .int l3), (4, .int l4), (0, .ref h0), (1, .int x1), (2, .int x2)] → W p l e { frames := 3, cells := 0, slots := 0, locals := 66 } s m [.ref h0, .int x1, .int x2].toArray below meth c s.heap [] 0 0 (MQ below (rQ (fX6_isBroken x1 x2 v_constraints v_set v_ones v_costs v_factors v_literals v_begins v_bounds)) [.ref h0, .int x1, .int x2].toArray s 0 0 (fun _ => False)) (F0 m 22 ls []) := by
      intro n
      induction n with
      | zero =>
        intro k l3 l4 hk hz hF
        exact (by obtain ⟨_, h2, h3⟩ := hk; exact absurd h3 (by omega))
      | succ n ih =>
        intro k l3 l4 hk hz hF ls hl
        have hF := hF.trans (fX6_isBroken_L22.eq_2 ..)
        obtain ⟨ek, hk1, hk2⟩ := hk
        refine lv_iload hx hb dX6_isBroken_22 (lv_at hl 1 rfl) ?_
        refine lv_aload_n hx hb dX6_isBroken_24 rfl (lv_at hl 2 rfl) ?_
        refine va_get (D := D) hx hb hts inX6 hown hK hP 0 rfl rfl 6 (by decide) (hts _ kw479) (fun _ h9 => h9) rfl dX6_isBroken_25 ?_
        refine lv_icmp_ge (tgt := 56) hx hb dX6_isBroken_28 (by decide) (fun c_2 => ?_) (fun c_2 => ?_)
        · have hF := hF.trans (if_pos c_2)
          refine lv_iload_n hx hb dX6_isBroken_56 rfl (lv_at hl 0 rfl) ?_
          exact rretz hx hb hr hlocks hz hF.symm dX6_isBroken_57
        · have hF := hF.trans (if_neg c_2)
          refine lv_iload_n hx hb dX6_isBroken_31 rfl (lv_at hl 0 rfl) ?_
          refine lv_if_ne (tgt := 44) hx hb dX6_isBroken_32 (by decide) (fun c_3 => ?_) (fun c_3 => ?_)
          · have hF := hF.trans (if_neg c_3)
            refine lv_iconst (v := 1) hx hb dX6_isBroken_44 (by decide) ?_
            refine lv_goto (tgt := 49) hx hb dX6_isBroken_45 (by decide) ?_
            refine lv_istore_n (lv' := [(3, .int 1), (4, .int l4), (0, .ref h0), (1, .int x1), (2, .int x2)]) hx hb dX6_isBroken_49 rfl hl (by decide) rfl (fun ls hl => ?_)
            refine lv_iinc (v := l4 + 1) (lv' := [(4, .int (l4 + 1)), (3, .int 1), (0, .ref h0), (1, .int x1), (2, .int x2)]) hx hb dX6_isBroken_50 hl (k := 1) rfl rfl (by decide) rfl (fun ls hl => ?_)
            refine lv_goto (tgt := 22) hx hb dX6_isBroken_53 (by decide) ?_
            exact ih (k + 1) 1 (l4 + 1) ⟨k_s ek, by have := okC_lt20 ek eC hk1 (by assumption); omega, by omega⟩ (by first | exact Or.inl rfl | exact Or.inr rfl) hF ls (lv_sub hl [1, 0, 2, 3, 4] rfl)
          · have hF := hF.trans (if_pos c_3)
            refine lv_aload_n hx hb dX6_isBroken_35 rfl (lv_at hl 2 rfl) ?_
            refine lv_iload hx hb dX6_isBroken_36 (lv_at hl 1 rfl) ?_
            have hPc : va_P D vwCl [(h0, .inr (6, [.int v_thrown, .ref h0_costs, .ref h0_factors, .ref h0_literals, .ref h0_begins, .ref h0_bounds, .int v_constraints, .int v_terms, .int v_begun, .int v_done, .int v_over, .int v_set, .int v_ones, .ref h0_trail, .ref h0_choice, .int v_depth, .int v_searchSet, .int v_searchOnes, .int v_best, .int v_bestOnes, .int v_made, .ref h0_log, .int v_size, .int v_answer, .int v_looked, .int v_place, .int v_waiting, .ref h0_waitSet, .ref h0_waitOnes, .ref h0_waitDead])), (h0_factors, .inl (cI, 120, .inl v_factors)), (h0_literals, .inl (cI, 120, .inl v_literals)), (h0_begins, .inl (cI, 22, .inl v_begins)), (h0_bounds, .inl (cI, 21, .inl v_bounds))] _ := hP.sub [0, 2, 3, 4, 5] rfl
            refine rback (va_runV (As := [.int l4]) (rest := []) ⟨hx, hb, hml, hown, hts⟩ (ctX6_slack l D cI cZ h0 h0_costs h0_factors h0_literals h0_begins h0_bounds h0_trail h0_choice h0_log h0_waitSet h0_waitOnes h0_waitDead l4 v_thrown v_constraints v_terms v_begun v_done v_over v_set v_ones v_depth v_searchSet v_searchOnes v_best v_bestOnes v_made v_size v_answer v_looked v_place v_waiting v_factors v_literals v_begins v_bounds (by rw [ek]; exact hall k (okC_lt20 ek eC hk1 (by assumption)))) ⟨(cB hts kw607 kw604 kw58 pmX6_slack ⟨Nat.le_of_ble_eq_true rfl, Nat.le_of_ble_eq_true rfl⟩), hts _ kw606, hts _ kw40⟩ ⟨rPc_blind, va_recv hK hP (ci := 6) (q0 := 0) rfl rfl, rpre hPc hK hN⟩ rfl rfl hl.1 rfl (lv_room (Nat.le_of_ble_eq_true rfl)) dX6_isBroken_38 ⟨Nat.zero_le _, Nat.zero_le _⟩) ?_
            refine lv_if_ge (tgt := 48) hx hb dX6_isBroken_41 (by decide) (fun c_4 => ?_) (fun c_4 => ?_)
            · have hF := hF.trans (if_pos c_4)
              refine lv_iconst (v := 0) hx hb dX6_isBroken_48 (by decide) ?_
              refine lv_istore_n (lv' := [(3, .int 0), (4, .int l4), (0, .ref h0), (1, .int x1), (2, .int x2)]) hx hb dX6_isBroken_49 rfl hl (by decide) rfl (fun ls hl => ?_)
              refine lv_iinc (v := l4 + 1) (lv' := [(4, .int (l4 + 1)), (3, .int 0), (0, .ref h0), (1, .int x1), (2, .int x2)]) hx hb dX6_isBroken_50 hl (k := 1) rfl rfl (by decide) rfl (fun ls hl => ?_)
              refine lv_goto (tgt := 22) hx hb dX6_isBroken_53 (by decide) ?_
              exact ih (k + 1) 0 (l4 + 1) ⟨k_s ek, by have := okC_lt20 ek eC hk1 (by assumption); omega, by omega⟩ (by first | exact Or.inl rfl | exact Or.inr rfl) hF ls (lv_sub hl [1, 0, 2, 3, 4] rfl)
            · have hF := hF.trans (if_neg c_4)
              refine lv_iconst (v := 1) hx hb dX6_isBroken_44 (by decide) ?_
              refine lv_goto (tgt := 49) hx hb dX6_isBroken_45 (by decide) ?_
              refine lv_istore_n (lv' := [(3, .int 1), (4, .int l4), (0, .ref h0), (1, .int x1), (2, .int x2)]) hx hb dX6_isBroken_49 rfl hl (by decide) rfl (fun ls hl => ?_)
              refine lv_iinc (v := l4 + 1) (lv' := [(4, .int (l4 + 1)), (3, .int 1), (0, .ref h0), (1, .int x1), (2, .int x2)]) hx hb dX6_isBroken_50 hl (k := 1) rfl rfl (by decide) rfl (fun ls hl => ?_)
              refine lv_goto (tgt := 22) hx hb dX6_isBroken_53 (by decide) ?_
              exact ih (k + 1) 1 (l4 + 1) ⟨k_s ek, by have := okC_lt20 ek eC hk1 (by assumption); omega, by omega⟩ (by first | exact Or.inl rfl | exact Or.inr rfl) hF ls (lv_sub hl [1, 0, 2, 3, 4] rfl)
    exact loop22 21 0 0 0 ⟨rfl, by omega, by omega⟩ (by first | exact Or.inl rfl | exact Or.inr rfl) hF ls (lv_sub hl [1, 0, 2, 3, 4] rfl)
  · have hF := hF.trans (if_neg c_1)
    refine lv_iload_n hx hb dX6_isBroken_4 rfl (lv_at hl 2 rfl) ?_
    refine lv_aload_n hx hb dX6_isBroken_5 rfl (lv_at hl 0 rfl) ?_
    have hPc : va_P D vwCl [(h0, .inr (6, [.int v_thrown, .ref h0_costs, .ref h0_factors, .ref h0_literals, .ref h0_begins, .ref h0_bounds, .int v_constraints, .int v_terms, .int v_begun, .int v_done, .int v_over, .int v_set, .int v_ones, .ref h0_trail, .ref h0_choice, .int v_depth, .int v_searchSet, .int v_searchOnes, .int v_best, .int v_bestOnes, .int v_made, .ref h0_log, .int v_size, .int v_answer, .int v_looked, .int v_place, .int v_waiting, .ref h0_waitSet, .ref h0_waitOnes, .ref h0_waitDead])), (h0_costs, .inl (cI, 17, .inl v_costs))] _ := hP.sub [0, 1] rfl
    refine rback (va_runV (As := []) (rest := [.int x2]) ⟨hx, hb, hml, hown, hts⟩ (ctX6_cost l D cI cZ h0 h0_costs h0_factors h0_literals h0_begins h0_bounds h0_trail h0_choice h0_log h0_waitSet h0_waitOnes h0_waitDead v_thrown v_constraints v_terms v_begun v_done v_over v_set v_ones v_depth v_searchSet v_searchOnes v_best v_bestOnes v_made v_size v_answer v_looked v_place v_waiting v_costs) ⟨(cB hts kw595 kw592 kw58 pmX6_cost ⟨Nat.le_of_ble_eq_true rfl, Nat.le_of_ble_eq_true rfl⟩), hts _ kw594, hts _ kw37⟩ ⟨rPc_blind, va_recv hK hP (ci := 6) (q0 := 0) rfl rfl, rpre hPc hK hN⟩ rfl rfl hl.1 rfl (lv_room (Nat.le_of_ble_eq_true rfl)) dX6_isBroken_6 ⟨Nat.zero_le _, Nat.zero_le _⟩) ?_
    refine lv_isub hx hb dX6_isBroken_9 ?_
    refine lv_if_ge (tgt := 17) hx hb dX6_isBroken_10 (by decide) (fun c_5 => ?_) (fun c_5 => ?_)
    · have hF := hF.trans (if_pos c_5)
      refine lv_iconst (v := 0) hx hb dX6_isBroken_17 (by decide) ?_
      refine lv_istore_n (lv' := [(3, .int 0), (0, .ref h0), (1, .int x1), (2, .int x2)]) hx hb dX6_isBroken_18 rfl hl (by decide) rfl (fun ls hl => ?_)
      refine lv_iconst (v := 0) hx hb dX6_isBroken_19 (by decide) ?_
      refine lv_istore (lv' := [(4, .int 0), (3, .int 0), (0, .ref h0), (1, .int x1), (2, .int x2)]) hx hb dX6_isBroken_20 hl (by decide) rfl (fun ls hl => ?_)
      have loop22 : ∀ (n : Nat) (k : Nat) (l3 : Int32) (l4 : Int32) , (l4 = nI k ∧ k ≤ 20 ∧ 20 < k + n) → (l3 = 0 ∨ l3 = 1) → fX6_isBroken x1 x2 v_constraints v_set v_ones v_costs v_factors v_literals v_begins v_bounds = fX6_isBroken_L22 x1 x2 v_constraints v_set v_ones v_costs v_factors v_literals v_begins v_bounds n l3 l4 → ∀ ls : Array Slot, lv_has ls 5 [(3, .int l3), (4, .int l4), (0, .ref h0), (1, .int x1), (2, .int x2)] → W p l e { frames := 3, cells := 0, slots := 0, locals := 66 } s m [.ref h0, .int x1, .int x2].toArray below meth c s.heap [] 0 0 (MQ below (rQ (fX6_isBroken x1 x2 v_constraints v_set v_ones v_costs v_factors v_literals v_begins v_bounds)) [.ref h0, .int x1, .int x2].toArray s 0 0 (fun _ => False)) (F0 m 22 ls []) := by
        intro n
        induction n with
        | zero =>
          intro k l3 l4 hk hz hF
          exact (by obtain ⟨_, h2, h3⟩ := hk; exact absurd h3 (by omega))
        | succ n ih =>
          intro k l3 l4 hk hz hF ls hl
          have hF := hF.trans (fX6_isBroken_L22.eq_2 ..)
          obtain ⟨ek, hk1, hk2⟩ := hk
          refine lv_iload hx hb dX6_isBroken_22 (lv_at hl 1 rfl) ?_
          refine lv_aload_n hx hb dX6_isBroken_24 rfl (lv_at hl 2 rfl) ?_
          refine va_get (D := D) hx hb hts inX6 hown hK hP 0 rfl rfl 6 (by decide) (hts _ kw479) (fun _ h9 => h9) rfl dX6_isBroken_25 ?_
          refine lv_icmp_ge (tgt := 56) hx hb dX6_isBroken_28 (by decide) (fun c_2 => ?_) (fun c_2 => ?_)
          · have hF := hF.trans (if_pos c_2)
            refine lv_iload_n hx hb dX6_isBroken_56 rfl (lv_at hl 0 rfl) ?_
            exact rretz hx hb hr hlocks hz hF.symm dX6_isBroken_57
          · have hF := hF.trans (if_neg c_2)
            refine lv_iload_n hx hb dX6_isBroken_31 rfl (lv_at hl 0 rfl) ?_
            refine lv_if_ne (tgt := 44) hx hb dX6_isBroken_32 (by decide) (fun c_3 => ?_) (fun c_3 => ?_)
            · have hF := hF.trans (if_neg c_3)
              refine lv_iconst (v := 1) hx hb dX6_isBroken_44 (by decide) ?_
              refine lv_goto (tgt := 49) hx hb dX6_isBroken_45 (by decide) ?_
              refine lv_istore_n (lv' := [(3, .int 1), (4, .int l4), (0, .ref h0), (1, .int x1), (2, .int x2)]) hx hb dX6_isBroken_49 rfl hl (by decide) rfl (fun ls hl => ?_)
              refine lv_iinc (v := l4 + 1) (lv' := [(4, .int (l4 + 1)), (3, .int 1), (0, .ref h0), (1, .int x1), (2, .int x2)]) hx hb dX6_isBroken_50 hl (k := 1) rfl rfl (by decide) rfl (fun ls hl => ?_)
              refine lv_goto (tgt := 22) hx hb dX6_isBroken_53 (by decide) ?_
              exact ih (k + 1) 1 (l4 + 1) ⟨k_s ek, by have := okC_lt20 ek eC hk1 (by assumption); omega, by omega⟩ (by first | exact Or.inl rfl | exact Or.inr rfl) hF ls (lv_sub hl [1, 0, 2, 3, 4] rfl)
            · have hF := hF.trans (if_pos c_3)
              refine lv_aload_n hx hb dX6_isBroken_35 rfl (lv_at hl 2 rfl) ?_
              refine lv_iload hx hb dX6_isBroken_36 (lv_at hl 1 rfl) ?_
              have hPc : va_P D vwCl [(h0, .inr (6, [.int v_thrown, .ref h0_costs, .ref h0_factors, .ref h0_literals, .ref h0_begins, .ref h0_bounds, .int v_constraints, .int v_terms, .int v_begun, .int v_done, .int v_over, .int v_set, .int v_ones, .ref h0_trail, .ref h0_choice, .int v_depth, .int v_searchSet, .int v_searchOnes, .int v_best, .int v_bestOnes, .int v_made, .ref h0_log, .int v_size, .int v_answer, .int v_looked, .int v_place, .int v_waiting, .ref h0_waitSet, .ref h0_waitOnes, .ref h0_waitDead])), (h0_factors, .inl (cI, 120, .inl v_factors)), (h0_literals, .inl (cI, 120, .inl v_literals)), (h0_begins, .inl (cI, 22, .inl v_begins)), (h0_bounds, .inl (cI, 21, .inl v_bounds))] _ := hP.sub [0, 2, 3, 4, 5] rfl
              refine rback (va_runV (As := [.int l4]) (rest := []) ⟨hx, hb, hml, hown, hts⟩ (ctX6_slack l D cI cZ h0 h0_costs h0_factors h0_literals h0_begins h0_bounds h0_trail h0_choice h0_log h0_waitSet h0_waitOnes h0_waitDead l4 v_thrown v_constraints v_terms v_begun v_done v_over v_set v_ones v_depth v_searchSet v_searchOnes v_best v_bestOnes v_made v_size v_answer v_looked v_place v_waiting v_factors v_literals v_begins v_bounds (by rw [ek]; exact hall k (okC_lt20 ek eC hk1 (by assumption)))) ⟨(cB hts kw607 kw604 kw58 pmX6_slack ⟨Nat.le_of_ble_eq_true rfl, Nat.le_of_ble_eq_true rfl⟩), hts _ kw606, hts _ kw40⟩ ⟨rPc_blind, va_recv hK hP (ci := 6) (q0 := 0) rfl rfl, rpre hPc hK hN⟩ rfl rfl hl.1 rfl (lv_room (Nat.le_of_ble_eq_true rfl)) dX6_isBroken_38 ⟨Nat.zero_le _, Nat.zero_le _⟩) ?_
              refine lv_if_ge (tgt := 48) hx hb dX6_isBroken_41 (by decide) (fun c_4 => ?_) (fun c_4 => ?_)
              · have hF := hF.trans (if_pos c_4)
                refine lv_iconst (v := 0) hx hb dX6_isBroken_48 (by decide) ?_
                refine lv_istore_n (lv' := [(3, .int 0), (4, .int l4), (0, .ref h0), (1, .int x1), (2, .int x2)]) hx hb dX6_isBroken_49 rfl hl (by decide) rfl (fun ls hl => ?_)
                refine lv_iinc (v := l4 + 1) (lv' := [(4, .int (l4 + 1)), (3, .int 0), (0, .ref h0), (1, .int x1), (2, .int x2)]) hx hb dX6_isBroken_50 hl (k := 1) rfl rfl (by decide) rfl (fun ls hl => ?_)
                refine lv_goto (tgt := 22) hx hb dX6_isBroken_53 (by decide) ?_
                exact ih (k + 1) 0 (l4 + 1) ⟨k_s ek, by have := okC_lt20 ek eC hk1 (by assumption); omega, by omega⟩ (by first | exact Or.inl rfl | exact Or.inr rfl) hF ls (lv_sub hl [1, 0, 2, 3, 4] rfl)
              · have hF := hF.trans (if_neg c_4)
                refine lv_iconst (v := 1) hx hb dX6_isBroken_44 (by decide) ?_
                refine lv_goto (tgt := 49) hx hb dX6_isBroken_45 (by decide) ?_
                refine lv_istore_n (lv' := [(3, .int 1), (4, .int l4), (0, .ref h0), (1, .int x1), (2, .int x2)]) hx hb dX6_isBroken_49 rfl hl (by decide) rfl (fun ls hl => ?_)
                refine lv_iinc (v := l4 + 1) (lv' := [(4, .int (l4 + 1)), (3, .int 1), (0, .ref h0), (1, .int x1), (2, .int x2)]) hx hb dX6_isBroken_50 hl (k := 1) rfl rfl (by decide) rfl (fun ls hl => ?_)
                refine lv_goto (tgt := 22) hx hb dX6_isBroken_53 (by decide) ?_
                exact ih (k + 1) 1 (l4 + 1) ⟨k_s ek, by have := okC_lt20 ek eC hk1 (by assumption); omega, by omega⟩ (by first | exact Or.inl rfl | exact Or.inr rfl) hF ls (lv_sub hl [1, 0, 2, 3, 4] rfl)
      exact loop22 21 0 0 0 ⟨rfl, by omega, by omega⟩ (by first | exact Or.inl rfl | exact Or.inr rfl) hF ls (lv_sub hl [1, 0, 2, 3, 4] rfl)
    · have hF := hF.trans (if_neg c_5)
      refine lv_iconst (v := 1) hx hb dX6_isBroken_13 (by decide) ?_
      refine lv_goto (tgt := 18) hx hb dX6_isBroken_14 (by decide) ?_
      refine lv_istore_n (lv' := [(3, .int 1), (0, .ref h0), (1, .int x1), (2, .int x2)]) hx hb dX6_isBroken_18 rfl hl (by decide) rfl (fun ls hl => ?_)
      refine lv_iconst (v := 0) hx hb dX6_isBroken_19 (by decide) ?_
      refine lv_istore (lv' := [(4, .int 0), (3, .int 1), (0, .ref h0), (1, .int x1), (2, .int x2)]) hx hb dX6_isBroken_20 hl (by decide) rfl (fun ls hl => ?_)
      have loop22 : ∀ (n : Nat) (k : Nat) (l3 : Int32) (l4 : Int32) , (l4 = nI k ∧ k ≤ 20 ∧ 20 < k + n) → (l3 = 0 ∨ l3 = 1) → fX6_isBroken x1 x2 v_constraints v_set v_ones v_costs v_factors v_literals v_begins v_bounds = fX6_isBroken_L22 x1 x2 v_constraints v_set v_ones v_costs v_factors v_literals v_begins v_bounds n l3 l4 → ∀ ls : Array Slot, lv_has ls 5 [(3, .int l3), (4, .int l4), (0, .ref h0), (1, .int x1), (2, .int x2)] → W p l e { frames := 3, cells := 0, slots := 0, locals := 66 } s m [.ref h0, .int x1, .int x2].toArray below meth c s.heap [] 0 0 (MQ below (rQ (fX6_isBroken x1 x2 v_constraints v_set v_ones v_costs v_factors v_literals v_begins v_bounds)) [.ref h0, .int x1, .int x2].toArray s 0 0 (fun _ => False)) (F0 m 22 ls []) := by
        intro n
        induction n with
        | zero =>
          intro k l3 l4 hk hz hF
          exact (by obtain ⟨_, h2, h3⟩ := hk; exact absurd h3 (by omega))
        | succ n ih =>
          intro k l3 l4 hk hz hF ls hl
          have hF := hF.trans (fX6_isBroken_L22.eq_2 ..)
          obtain ⟨ek, hk1, hk2⟩ := hk
          refine lv_iload hx hb dX6_isBroken_22 (lv_at hl 1 rfl) ?_
          refine lv_aload_n hx hb dX6_isBroken_24 rfl (lv_at hl 2 rfl) ?_
          refine va_get (D := D) hx hb hts inX6 hown hK hP 0 rfl rfl 6 (by decide) (hts _ kw479) (fun _ h9 => h9) rfl dX6_isBroken_25 ?_
          refine lv_icmp_ge (tgt := 56) hx hb dX6_isBroken_28 (by decide) (fun c_2 => ?_) (fun c_2 => ?_)
          · have hF := hF.trans (if_pos c_2)
            refine lv_iload_n hx hb dX6_isBroken_56 rfl (lv_at hl 0 rfl) ?_
            exact rretz hx hb hr hlocks hz hF.symm dX6_isBroken_57
          · have hF := hF.trans (if_neg c_2)
            refine lv_iload_n hx hb dX6_isBroken_31 rfl (lv_at hl 0 rfl) ?_
            refine lv_if_ne (tgt := 44) hx hb dX6_isBroken_32 (by decide) (fun c_3 => ?_) (fun c_3 => ?_)
            · have hF := hF.trans (if_neg c_3)
              refine lv_iconst (v := 1) hx hb dX6_isBroken_44 (by decide) ?_
              refine lv_goto (tgt := 49) hx hb dX6_isBroken_45 (by decide) ?_
              refine lv_istore_n (lv' := [(3, .int 1), (4, .int l4), (0, .ref h0), (1, .int x1), (2, .int x2)]) hx hb dX6_isBroken_49 rfl hl (by decide) rfl (fun ls hl => ?_)
              refine lv_iinc (v := l4 + 1) (lv' := [(4, .int (l4 + 1)), (3, .int 1), (0, .ref h0), (1, .int x1), (2, .int x2)]) hx hb dX6_isBroken_50 hl (k := 1) rfl rfl (by decide) rfl (fun ls hl => ?_)
              refine lv_goto (tgt := 22) hx hb dX6_isBroken_53 (by decide) ?_
              exact ih (k + 1) 1 (l4 + 1) ⟨k_s ek, by have := okC_lt20 ek eC hk1 (by assumption); omega, by omega⟩ (by first | exact Or.inl rfl | exact Or.inr rfl) hF ls (lv_sub hl [1, 0, 2, 3, 4] rfl)
            · have hF := hF.trans (if_pos c_3)
              refine lv_aload_n hx hb dX6_isBroken_35 rfl (lv_at hl 2 rfl) ?_
              refine lv_iload hx hb dX6_isBroken_36 (lv_at hl 1 rfl) ?_
              have hPc : va_P D vwCl [(h0, .inr (6, [.int v_thrown, .ref h0_costs, .ref h0_factors, .ref h0_literals, .ref h0_begins, .ref h0_bounds, .int v_constraints, .int v_terms, .int v_begun, .int v_done, .int v_over, .int v_set, .int v_ones, .ref h0_trail, .ref h0_choice, .int v_depth, .int v_searchSet, .int v_searchOnes, .int v_best, .int v_bestOnes, .int v_made, .ref h0_log, .int v_size, .int v_answer, .int v_looked, .int v_place, .int v_waiting, .ref h0_waitSet, .ref h0_waitOnes, .ref h0_waitDead])), (h0_factors, .inl (cI, 120, .inl v_factors)), (h0_literals, .inl (cI, 120, .inl v_literals)), (h0_begins, .inl (cI, 22, .inl v_begins)), (h0_bounds, .inl (cI, 21, .inl v_bounds))] _ := hP.sub [0, 2, 3, 4, 5] rfl
              refine rback (va_runV (As := [.int l4]) (rest := []) ⟨hx, hb, hml, hown, hts⟩ (ctX6_slack l D cI cZ h0 h0_costs h0_factors h0_literals h0_begins h0_bounds h0_trail h0_choice h0_log h0_waitSet h0_waitOnes h0_waitDead l4 v_thrown v_constraints v_terms v_begun v_done v_over v_set v_ones v_depth v_searchSet v_searchOnes v_best v_bestOnes v_made v_size v_answer v_looked v_place v_waiting v_factors v_literals v_begins v_bounds (by rw [ek]; exact hall k (okC_lt20 ek eC hk1 (by assumption)))) ⟨(cB hts kw607 kw604 kw58 pmX6_slack ⟨Nat.le_of_ble_eq_true rfl, Nat.le_of_ble_eq_true rfl⟩), hts _ kw606, hts _ kw40⟩ ⟨rPc_blind, va_recv hK hP (ci := 6) (q0 := 0) rfl rfl, rpre hPc hK hN⟩ rfl rfl hl.1 rfl (lv_room (Nat.le_of_ble_eq_true rfl)) dX6_isBroken_38 ⟨Nat.zero_le _, Nat.zero_le _⟩) ?_
              refine lv_if_ge (tgt := 48) hx hb dX6_isBroken_41 (by decide) (fun c_4 => ?_) (fun c_4 => ?_)
              · have hF := hF.trans (if_pos c_4)
                refine lv_iconst (v := 0) hx hb dX6_isBroken_48 (by decide) ?_
                refine lv_istore_n (lv' := [(3, .int 0), (4, .int l4), (0, .ref h0), (1, .int x1), (2, .int x2)]) hx hb dX6_isBroken_49 rfl hl (by decide) rfl (fun ls hl => ?_)
                refine lv_iinc (v := l4 + 1) (lv' := [(4, .int (l4 + 1)), (3, .int 0), (0, .ref h0), (1, .int x1), (2, .int x2)]) hx hb dX6_isBroken_50 hl (k := 1) rfl rfl (by decide) rfl (fun ls hl => ?_)
                refine lv_goto (tgt := 22) hx hb dX6_isBroken_53 (by decide) ?_
                exact ih (k + 1) 0 (l4 + 1) ⟨k_s ek, by have := okC_lt20 ek eC hk1 (by assumption); omega, by omega⟩ (by first | exact Or.inl rfl | exact Or.inr rfl) hF ls (lv_sub hl [1, 0, 2, 3, 4] rfl)
              · have hF := hF.trans (if_neg c_4)
                refine lv_iconst (v := 1) hx hb dX6_isBroken_44 (by decide) ?_
                refine lv_goto (tgt := 49) hx hb dX6_isBroken_45 (by decide) ?_
                refine lv_istore_n (lv' := [(3, .int 1), (4, .int l4), (0, .ref h0), (1, .int x1), (2, .int x2)]) hx hb dX6_isBroken_49 rfl hl (by decide) rfl (fun ls hl => ?_)
                refine lv_iinc (v := l4 + 1) (lv' := [(4, .int (l4 + 1)), (3, .int 1), (0, .ref h0), (1, .int x1), (2, .int x2)]) hx hb dX6_isBroken_50 hl (k := 1) rfl rfl (by decide) rfl (fun ls hl => ?_)
                refine lv_goto (tgt := 22) hx hb dX6_isBroken_53 (by decide) ?_
                exact ih (k + 1) 1 (l4 + 1) ⟨k_s ek, by have := okC_lt20 ek eC hk1 (by assumption); omega, by omega⟩ (by first | exact Or.inl rfl | exact Or.inr rfl) hF ls (lv_sub hl [1, 0, 2, 3, 4] rfl)
      exact loop22 21 0 1 0 ⟨rfl, by omega, by omega⟩ (by first | exact Or.inl rfl | exact Or.inr rfl) hF ls (lv_sub hl [1, 0, 2, 3, 4] rfl)
