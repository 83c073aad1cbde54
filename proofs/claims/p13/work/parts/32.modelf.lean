-- LeastCostModel.forced
theorem pmX6_forced : mFit yX6_forced 2 := ⟨by decide +kernel, by decide +kernel, by decide +kernel⟩
noncomputable def fX6_forced_L111 (x1 : Int32) (x2 : Int32) (v_constraints : Int32) (v_set : Int32) (v_ones : Int32) (v_costs : Nat → Int32) (v_factors : Nat → Int32) (v_literals : Nat → Int32) (v_begins : Nat → Int32) (v_bounds : Nat → Int32) : Nat → Int32 → Int32
  | 0, l3 => 0
  | n + 1, l3 => (if 16 < l3 then 0 else (if x1 = 0 then 0 else (if (fX6_isSet l3 v_set) = 0 then (if (v_costs l3.toNatClampNeg) ≤ 0 then fX6_forced_L111 x1 x2 v_constraints v_set v_ones v_costs v_factors v_literals v_begins v_bounds n (l3 + 1) else (if (v_costs l3.toNatClampNeg) ≤ (x2 - (fX6_cost v_set v_ones v_costs)) then fX6_forced_L111 x1 x2 v_constraints v_set v_ones v_costs v_factors v_literals v_begins v_bounds n (l3 + 1) else -l3)) else fX6_forced_L111 x1 x2 v_constraints v_set v_ones v_costs v_factors v_literals v_begins v_bounds n (l3 + 1))))
noncomputable def fX6_forced_L25 (x1 : Int32) (x2 : Int32) (v_constraints : Int32) (v_set : Int32) (v_ones : Int32) (v_costs : Nat → Int32) (v_factors : Nat → Int32) (v_literals : Nat → Int32) (v_begins : Nat → Int32) (v_bounds : Nat → Int32) (l3 : Int32) (K : Int32 → Int32) : Nat → Int32 → Int32 → Int32
  | 0, l4, l5 => 0
  | n + 1, l4, l5 => (if (v_begins (l3 + 1).toNatClampNeg) ≤ l5 then K (l3 + 1) else (if 0 ≤ (v_literals l5.toNatClampNeg) then (if (fX6_isSet (v_literals l5.toNatClampNeg) v_set) = 0 then (if (v_factors l5.toNatClampNeg) ≤ l4 then fX6_forced_L25 x1 x2 v_constraints v_set v_ones v_costs v_factors v_literals v_begins v_bounds l3 K n l4 (l5 + 1) else v_literals l5.toNatClampNeg) else fX6_forced_L25 x1 x2 v_constraints v_set v_ones v_costs v_factors v_literals v_begins v_bounds l3 K n l4 (l5 + 1)) else (if (fX6_isSet (-(v_literals l5.toNatClampNeg)) v_set) = 0 then (if (v_factors l5.toNatClampNeg) ≤ l4 then fX6_forced_L25 x1 x2 v_constraints v_set v_ones v_costs v_factors v_literals v_begins v_bounds l3 K n l4 (l5 + 1) else v_literals l5.toNatClampNeg) else fX6_forced_L25 x1 x2 v_constraints v_set v_ones v_costs v_factors v_literals v_begins v_bounds l3 K n l4 (l5 + 1))))
noncomputable def fX6_forced_L2 (x1 : Int32) (x2 : Int32) (v_constraints : Int32) (v_set : Int32) (v_ones : Int32) (v_costs : Nat → Int32) (v_factors : Nat → Int32) (v_literals : Nat → Int32) (v_begins : Nat → Int32) (v_bounds : Nat → Int32) : Nat → Int32 → Int32
  | 0, l3 => 0
  | no + 1, l3 => (if v_constraints ≤ l3 then fX6_forced_L111 x1 x2 v_constraints v_set v_ones v_costs v_factors v_literals v_begins v_bounds 17 1 else fX6_forced_L25 x1 x2 v_constraints v_set v_ones v_costs v_factors v_literals v_begins v_bounds l3 (fun z0 => fX6_forced_L2 x1 x2 v_constraints v_set v_ones v_costs v_factors v_literals v_begins v_bounds no z0) 121 (fX6_slack l3 v_set v_ones v_factors v_literals v_begins v_bounds) (v_begins l3.toNatClampNeg))
noncomputable def fX6_forced_d (x1 : Int32) (x2 : Int32) (v_constraints : Int32) (v_set : Int32) (v_ones : Int32) (v_costs : Nat → Int32) (v_factors : Nat → Int32) (v_literals : Nat → Int32) (v_begins : Nat → Int32) (v_bounds : Nat → Int32) : Int32 :=
  fX6_forced_L2 x1 x2 v_constraints v_set v_ones v_costs v_factors v_literals v_begins v_bounds 21 0
theorem fX6_forced_ex : ∃ f : Int32 → Int32 → Int32 → Int32 → Int32 → (Nat → Int32) → (Nat → Int32) → (Nat → Int32) → (Nat → Int32) → (Nat → Int32) → Int32, ∀ (x1 : Int32) (x2 : Int32) (v_constraints : Int32) (v_set : Int32) (v_ones : Int32) (v_costs : Nat → Int32) (v_factors : Nat → Int32) (v_literals : Nat → Int32) (v_begins : Nat → Int32) (v_bounds : Nat → Int32), f x1 x2 v_constraints v_set v_ones v_costs v_factors v_literals v_begins v_bounds = fX6_forced_d x1 x2 v_constraints v_set v_ones v_costs v_factors v_literals v_begins v_bounds := ⟨fX6_forced_d, fun _ _ _ _ _ _ _ _ _ _ => rfl⟩
noncomputable def fX6_forced : Int32 → Int32 → Int32 → Int32 → Int32 → (Nat → Int32) → (Nat → Int32) → (Nat → Int32) → (Nat → Int32) → (Nat → Int32) → Int32 := Classical.choose fX6_forced_ex
theorem fX6_forced_eq (x1 : Int32) (x2 : Int32) (v_constraints : Int32) (v_set : Int32) (v_ones : Int32) (v_costs : Nat → Int32) (v_factors : Nat → Int32) (v_literals : Nat → Int32) (v_begins : Nat → Int32) (v_bounds : Nat → Int32) : fX6_forced x1 x2 v_constraints v_set v_ones v_costs v_factors v_literals v_begins v_bounds = fX6_forced_d x1 x2 v_constraints v_set v_ones v_costs v_factors v_literals v_begins v_bounds := Classical.choose_spec fX6_forced_ex x1 x2 v_constraints v_set v_ones v_costs v_factors v_literals v_begins v_bounds
set_option maxHeartbeats 1000000 in
set_option maxRecDepth 100000 in
theorem ctX6_forced (l : Launch) (D : va_G) (cI cZ : ClassId) (h0 h0_costs h0_factors h0_literals h0_begins h0_bounds h0_trail h0_choice h0_log h0_waitSet h0_waitOnes h0_waitDead : Nat) (x1 : Int32) (x2 : Int32) (v_thrown v_constraints v_terms v_begun v_done v_over v_set v_ones v_depth v_searchSet v_searchOnes v_best v_bestOnes v_made v_size v_answer v_looked v_place v_waiting : Int32) (v_costs v_factors v_literals v_begins v_bounds : Nat → Int32) (hO : okPm v_begins v_constraints) : Met l yX6_forced (gw yX6_forced cX6_forced 7 (some .int)) { frames := 3, cells := 0, slots := 0, locals := 66 } (rPc D cI cZ [.ref h0, .int x1, .int x2] [(h0, .inr (6, [.int v_thrown, .ref h0_costs, .ref h0_factors, .ref h0_literals, .ref h0_begins, .ref h0_bounds, .int v_constraints, .int v_terms, .int v_begun, .int v_done, .int v_over, .int v_set, .int v_ones, .ref h0_trail, .ref h0_choice, .int v_depth, .int v_searchSet, .int v_searchOnes, .int v_best, .int v_bestOnes, .int v_made, .ref h0_log, .int v_size, .int v_answer, .int v_looked, .int v_place, .int v_waiting, .ref h0_waitSet, .ref h0_waitOnes, .ref h0_waitDead])), (h0_costs, .inl (cI, 17, .inl v_costs)), (h0_factors, .inl (cI, 120, .inl v_factors)), (h0_literals, .inl (cI, 120, .inl v_literals)), (h0_begins, .inl (cI, 22, .inl v_begins)), (h0_bounds, .inl (cI, 21, .inl v_bounds))]) (rQ (fX6_forced x1 x2 v_constraints v_set v_ones v_costs v_factors v_literals v_begins v_bounds)) 0 0 (fun _ => False) := by
  refine rMet (by decide) (Nat.le_of_ble_eq_true rfl) ?_
  intro p e s m below meth c hx hb hr hlocks hml hown hts hP hK hN ls hl
  have hl : lv_has ls 7 [(0, .ref h0), (1, .int x1), (2, .int x2)] := hl
  have hF := (fX6_forced_eq x1 x2 v_constraints v_set v_ones v_costs v_factors v_literals v_begins v_bounds).trans (fX6_forced_d.eq_1 x1 x2 v_constraints v_set v_ones v_costs v_factors v_literals v_begins v_bounds)
  obtain ⟨C, eC, hC20, hall⟩ := hO
  refine lv_iconst (v := 0) hx hb dX6_forced_0 (by decide) ?_
  refine lv_istore_n (lv' := [(3, .int 0), (0, .ref h0), (1, .int x1), (2, .int x2)]) hx hb dX6_forced_1 rfl hl (by decide) rfl (fun ls hl => ?_)
  have loop2 : ∀ (no : Nat) (k : Nat) (l3 : Int32) , (l3 = nI k ∧ k ≤ 20 ∧ 20 < k + no) → fX6_forced x1 x2 v_constraints v_set v_ones v_costs v_factors v_literals v_begins v_bounds = fX6_forced_L2 x1 x2 v_constraints v_set v_ones v_costs v_factors v_literals v_begins v_bounds no l3 → ∀ ls : Array Slot, lv_has ls 7 [(3, .int l3), (0, .ref h0), (1, .int x1), (2, .int x2)] → W p l e { frames := 3, cells := 0, slots := 0, locals := 66 } s m [.ref h0, .int x1, .int x2].toArray below meth c s.heap [] 0 0 (MQ below (rQ (fX6_forced x1 x2 v_constraints v_set v_ones v_costs v_factors v_literals v_begins v_bounds)) [.ref h0, .int x1, .int x2].toArray s 0 0 (fun _ => False)) (F0 m 2 ls []) := by
    intro no
    induction no with
    | zero =>
      intro k l3 hk hF
      exact (by obtain ⟨_, h2, h3⟩ := hk; exact absurd h3 (by omega))
    | succ no iho =>
      intro k l3 hk hF ls hl
      have hF := hF.trans (fX6_forced_L2.eq_2 ..)
      obtain ⟨ek, hk1, hk2⟩ := hk
      refine lv_iload_n hx hb dX6_forced_2 rfl (lv_at hl 0 rfl) ?_
      refine lv_aload_n hx hb dX6_forced_3 rfl (lv_at hl 1 rfl) ?_
      refine va_get (D := D) hx hb hts inX6 hown hK hP 0 rfl rfl 6 (by decide) (hts _ kw479) (fun _ h9 => h9) rfl dX6_forced_4 ?_
      refine lv_icmp_ge (tgt := 109) hx hb dX6_forced_7 (by decide) (fun c_1 => ?_) (fun c_1 => ?_)
      · have hF := hF.trans (if_pos c_1)
        refine lv_iconst (v := 1) hx hb dX6_forced_109 (by decide) ?_
        refine lv_istore_n (lv' := [(3, .int 1), (0, .ref h0), (1, .int x1), (2, .int x2)]) hx hb dX6_forced_110 rfl hl (by decide) rfl (fun ls hl => ?_)
        have loop111 : ∀ (n : Nat) (v : Nat) (l3 : Int32) , (l3 = nI v ∧ 1 ≤ v ∧ v ≤ 17 ∧ 17 < v + n) → fX6_forced x1 x2 v_constraints v_set v_ones v_costs v_factors v_literals v_begins v_bounds = fX6_forced_L111 x1 x2 v_constraints v_set v_ones v_costs v_factors v_literals v_begins v_bounds n l3 → ∀ ls : Array Slot, lv_has ls 7 [(3, .int l3), (0, .ref h0), (1, .int x1), (2, .int x2)] → W p l e { frames := 3, cells := 0, slots := 0, locals := 66 } s m [.ref h0, .int x1, .int x2].toArray below meth c s.heap [] 0 0 (MQ below (rQ (fX6_forced x1 x2 v_constraints v_set v_ones v_costs v_factors v_literals v_begins v_bounds)) [.ref h0, .int x1, .int x2].toArray s 0 0 (fun _ => False)) (F0 m 111 ls []) := by
          intro n
          induction n with
          | zero =>
            intro v l3 hv hF
            exact (by obtain ⟨_, _, h2, h3⟩ := hv; exact absurd h3 (by omega))
          | succ n ih =>
            intro v l3 hv hF ls hl
            have hF := hF.trans (fX6_forced_L111.eq_2 ..)
            obtain ⟨ev, hv1, hv2, hv3⟩ := hv
            refine lv_iload_n hx hb dX6_forced_111 rfl (lv_at hl 0 rfl) ?_
            refine lv_bipush (v := 16) hx hb dX6_forced_112 (by decide) ?_
            refine lv_icmp_gt (tgt := 162) hx hb dX6_forced_114 (by decide) (fun c_2 => ?_) (fun c_2 => ?_)
            · have hF := hF.trans (if_pos c_2)
              refine lv_iconst (v := 0) hx hb dX6_forced_162 (by decide) ?_
              exact rreti hx hb hr hlocks hF.symm dX6_forced_163
            · have hF := hF.trans (if_neg c_2)
              refine lv_iload_n hx hb dX6_forced_117 rfl (lv_at hl 2 rfl) ?_
              refine lv_if_eq (tgt := 162) hx hb dX6_forced_118 (by decide) (fun c_3 => ?_) (fun c_3 => ?_)
              · have hF := hF.trans (if_pos c_3)
                refine lv_iconst (v := 0) hx hb dX6_forced_162 (by decide) ?_
                exact rreti hx hb hr hlocks hF.symm dX6_forced_163
              · have hF := hF.trans (if_neg c_3)
                refine lv_aload_n hx hb dX6_forced_121 rfl (lv_at hl 1 rfl) ?_
                refine lv_iload_n hx hb dX6_forced_122 rfl (lv_at hl 0 rfl) ?_
                have hPc : va_P D vwCl [(h0, .inr (6, [.int v_thrown, .ref h0_costs, .ref h0_factors, .ref h0_literals, .ref h0_begins, .ref h0_bounds, .int v_constraints, .int v_terms, .int v_begun, .int v_done, .int v_over, .int v_set, .int v_ones, .ref h0_trail, .ref h0_choice, .int v_depth, .int v_searchSet, .int v_searchOnes, .int v_best, .int v_bestOnes, .int v_made, .ref h0_log, .int v_size, .int v_answer, .int v_looked, .int v_place, .int v_waiting, .ref h0_waitSet, .ref h0_waitOnes, .ref h0_waitDead]))] _ := hP.sub [0] rfl
                refine rback (va_runV (As := [.int l3]) (rest := []) ⟨hx, hb, hml, hown, hts⟩ (ctX6_isSet l D cI cZ h0 h0_costs h0_factors h0_literals h0_begins h0_bounds h0_trail h0_choice h0_log h0_waitSet h0_waitOnes h0_waitDead l3 v_thrown v_constraints v_terms v_begun v_done v_over v_set v_ones v_depth v_searchSet v_searchOnes v_best v_bestOnes v_made v_size v_answer v_looked v_place v_waiting) ⟨(cB hts kw599 kw596 kw58 pmX6_isSet ⟨Nat.le_of_ble_eq_true rfl, Nat.le_of_ble_eq_true rfl⟩), hts _ kw598, hts _ kw38⟩ ⟨rPc_blind, va_recv hK hP (ci := 6) (q0 := 0) rfl rfl, rpre hPc hK hN⟩ rfl rfl hl.1 rfl (lv_room (Nat.le_of_ble_eq_true rfl)) dX6_forced_123 ⟨Nat.zero_le _, Nat.zero_le _⟩) ?_
                refine lv_if_ne (tgt := 156) hx hb dX6_forced_126 (by decide) (fun c_4 => ?_) (fun c_4 => ?_)
                · have hF := hF.trans (if_neg c_4)
                  refine lv_iinc (v := l3 + 1) (lv' := [(3, .int (l3 + 1)), (0, .ref h0), (1, .int x1), (2, .int x2)]) hx hb dX6_forced_156 hl (k := 0) rfl rfl (by decide) rfl (fun ls hl => ?_)
                  refine lv_goto (tgt := 111) hx hb dX6_forced_159 (by decide) ?_
                  exact ih (v + 1) (l3 + 1) ⟨k_s ev, by omega, by have := k_16 ev hv2 (by assumption); omega, by omega⟩ hF ls (lv_sub hl [0, 1, 2, 3] rfl)
                · have hF := hF.trans (if_pos c_4)
                  refine lv_aload_n hx hb dX6_forced_129 rfl (lv_at hl 1 rfl) ?_
                  refine va_get (D := D) hx hb hts inX6 hown hK hP 0 rfl rfl 1 (by decide) (hts _ kw474) (fun _ h9 => h9) rfl dX6_forced_130 ?_
                  refine lv_iload_n hx hb dX6_forced_133 rfl (lv_at hl 0 rfl) ?_
                  refine va_iald hx hb hK hP 1 0 rfl rfl (k_in ev (by have := k_16 ev hv2 (by assumption); omega) (by decide)) dX6_forced_134 ?_
                  refine lv_if_le (tgt := 156) hx hb dX6_forced_135 (by decide) (fun c_5 => ?_) (fun c_5 => ?_)
                  · have hF := hF.trans (if_pos c_5)
                    refine lv_iinc (v := l3 + 1) (lv' := [(3, .int (l3 + 1)), (0, .ref h0), (1, .int x1), (2, .int x2)]) hx hb dX6_forced_156 hl (k := 0) rfl rfl (by decide) rfl (fun ls hl => ?_)
                    refine lv_goto (tgt := 111) hx hb dX6_forced_159 (by decide) ?_
                    exact ih (v + 1) (l3 + 1) ⟨k_s ev, by omega, by have := k_16 ev hv2 (by assumption); omega, by omega⟩ hF ls (lv_sub hl [0, 1, 2, 3] rfl)
                  · have hF := hF.trans (if_neg c_5)
                    refine lv_aload_n hx hb dX6_forced_138 rfl (lv_at hl 1 rfl) ?_
                    refine va_get (D := D) hx hb hts inX6 hown hK hP 0 rfl rfl 1 (by decide) (hts _ kw474) (fun _ h9 => h9) rfl dX6_forced_139 ?_
                    refine lv_iload_n hx hb dX6_forced_142 rfl (lv_at hl 0 rfl) ?_
                    refine va_iald hx hb hK hP 1 0 rfl rfl (k_in ev (by have := k_16 ev hv2 (by assumption); omega) (by decide)) dX6_forced_143 ?_
                    refine lv_iload_n hx hb dX6_forced_144 rfl (lv_at hl 3 rfl) ?_
                    refine lv_aload_n hx hb dX6_forced_145 rfl (lv_at hl 1 rfl) ?_
                    have hPc : va_P D vwCl [(h0, .inr (6, [.int v_thrown, .ref h0_costs, .ref h0_factors, .ref h0_literals, .ref h0_begins, .ref h0_bounds, .int v_constraints, .int v_terms, .int v_begun, .int v_done, .int v_over, .int v_set, .int v_ones, .ref h0_trail, .ref h0_choice, .int v_depth, .int v_searchSet, .int v_searchOnes, .int v_best, .int v_bestOnes, .int v_made, .ref h0_log, .int v_size, .int v_answer, .int v_looked, .int v_place, .int v_waiting, .ref h0_waitSet, .ref h0_waitOnes, .ref h0_waitDead])), (h0_costs, .inl (cI, 17, .inl v_costs))] _ := hP.sub [0, 1] rfl
                    refine rback (va_runV (As := []) (rest := [.int x2, .int (v_costs l3.toNatClampNeg)]) ⟨hx, hb, hml, hown, hts⟩ (ctX6_cost l D cI cZ h0 h0_costs h0_factors h0_literals h0_begins h0_bounds h0_trail h0_choice h0_log h0_waitSet h0_waitOnes h0_waitDead v_thrown v_constraints v_terms v_begun v_done v_over v_set v_ones v_depth v_searchSet v_searchOnes v_best v_bestOnes v_made v_size v_answer v_looked v_place v_waiting v_costs) ⟨(cB hts kw595 kw592 kw58 pmX6_cost ⟨Nat.le_of_ble_eq_true rfl, Nat.le_of_ble_eq_true rfl⟩), hts _ kw594, hts _ kw37⟩ ⟨rPc_blind, va_recv hK hP (ci := 6) (q0 := 0) rfl rfl, rpre hPc hK hN⟩ rfl rfl hl.1 rfl (lv_room (Nat.le_of_ble_eq_true rfl)) dX6_forced_146 ⟨Nat.zero_le _, Nat.zero_le _⟩) ?_
                    refine lv_isub hx hb dX6_forced_149 ?_
                    refine lv_icmp_le (tgt := 156) hx hb dX6_forced_150 (by decide) (fun c_6 => ?_) (fun c_6 => ?_)
                    · have hF := hF.trans (if_pos c_6)
                      refine lv_iinc (v := l3 + 1) (lv' := [(3, .int (l3 + 1)), (0, .ref h0), (1, .int x1), (2, .int x2)]) hx hb dX6_forced_156 hl (k := 0) rfl rfl (by decide) rfl (fun ls hl => ?_)
                      refine lv_goto (tgt := 111) hx hb dX6_forced_159 (by decide) ?_
                      exact ih (v + 1) (l3 + 1) ⟨k_s ev, by omega, by have := k_16 ev hv2 (by assumption); omega, by omega⟩ hF ls (lv_sub hl [0, 1, 2, 3] rfl)
                    · have hF := hF.trans (if_neg c_6)
                      refine lv_iload_n hx hb dX6_forced_153 rfl (lv_at hl 0 rfl) ?_
                      refine lv_ineg hx hb dX6_forced_154 ?_
                      exact rreti hx hb hr hlocks hF.symm dX6_forced_155
        exact loop111 17 1 1 ⟨rfl, by omega, by omega, by omega⟩ hF ls (lv_sub hl [0, 1, 2, 3] rfl)
      · have hF := hF.trans (if_neg c_1)
        refine lv_aload_n hx hb dX6_forced_10 rfl (lv_at hl 1 rfl) ?_
        refine lv_iload_n hx hb dX6_forced_11 rfl (lv_at hl 0 rfl) ?_
        have hPc : va_P D vwCl [(h0, .inr (6, [.int v_thrown, .ref h0_costs, .ref h0_factors, .ref h0_literals, .ref h0_begins, .ref h0_bounds, .int v_constraints, .int v_terms, .int v_begun, .int v_done, .int v_over, .int v_set, .int v_ones, .ref h0_trail, .ref h0_choice, .int v_depth, .int v_searchSet, .int v_searchOnes, .int v_best, .int v_bestOnes, .int v_made, .ref h0_log, .int v_size, .int v_answer, .int v_looked, .int v_place, .int v_waiting, .ref h0_waitSet, .ref h0_waitOnes, .ref h0_waitDead])), (h0_factors, .inl (cI, 120, .inl v_factors)), (h0_literals, .inl (cI, 120, .inl v_literals)), (h0_begins, .inl (cI, 22, .inl v_begins)), (h0_bounds, .inl (cI, 21, .inl v_bounds))] _ := hP.sub [0, 2, 3, 4, 5] rfl
        refine rback (va_runV (As := [.int l3]) (rest := []) ⟨hx, hb, hml, hown, hts⟩ (ctX6_slack l D cI cZ h0 h0_costs h0_factors h0_literals h0_begins h0_bounds h0_trail h0_choice h0_log h0_waitSet h0_waitOnes h0_waitDead l3 v_thrown v_constraints v_terms v_begun v_done v_over v_set v_ones v_depth v_searchSet v_searchOnes v_best v_bestOnes v_made v_size v_answer v_looked v_place v_waiting v_factors v_literals v_begins v_bounds (by rw [ek]; exact hall k (okC_lt20 ek eC hk1 (by assumption)))) ⟨(cB hts kw607 kw604 kw58 pmX6_slack ⟨Nat.le_of_ble_eq_true rfl, Nat.le_of_ble_eq_true rfl⟩), hts _ kw606, hts _ kw40⟩ ⟨rPc_blind, va_recv hK hP (ci := 6) (q0 := 0) rfl rfl, rpre hPc hK hN⟩ rfl rfl hl.1 rfl (lv_room (Nat.le_of_ble_eq_true rfl)) dX6_forced_12 ⟨Nat.zero_le _, Nat.zero_le _⟩) ?_
        obtain ⟨a, b, ea, eb, hab, hb120, i20, i21, i21s⟩ : okCm v_begins l3 := by rw [ek]; exact hall k (okC_lt20 ek eC hk1 (by assumption))
        refine lv_istore (lv' := [(4, .int (fX6_slack l3 v_set v_ones v_factors v_literals v_begins v_bounds)), (3, .int l3), (0, .ref h0), (1, .int x1), (2, .int x2)]) hx hb dX6_forced_15 hl (by decide) rfl (fun ls hl => ?_)
        refine lv_aload_n hx hb dX6_forced_17 rfl (lv_at hl 2 rfl) ?_
        refine va_get (D := D) hx hb hts inX6 hown hK hP 0 rfl rfl 4 (by decide) (hts _ kw477) (fun _ h9 => h9) rfl dX6_forced_18 ?_
        refine lv_iload_n hx hb dX6_forced_21 rfl (lv_at hl 1 rfl) ?_
        refine va_iald hx hb hK hP 4 0 rfl rfl i21 dX6_forced_22 ?_
        refine lv_istore (lv' := [(5, .int (v_begins l3.toNatClampNeg)), (4, .int (fX6_slack l3 v_set v_ones v_factors v_literals v_begins v_bounds)), (3, .int l3), (0, .ref h0), (1, .int x1), (2, .int x2)]) hx hb dX6_forced_23 hl (by decide) rfl (fun ls hl => ?_)
        have loop25 : ∀ (n : Nat) (j : Nat) (l4 : Int32) (l5 : Int32) , (l5 = nI j ∧ j ≤ 120 ∧ 120 < j + n) → fX6_forced x1 x2 v_constraints v_set v_ones v_costs v_factors v_literals v_begins v_bounds = fX6_forced_L25 x1 x2 v_constraints v_set v_ones v_costs v_factors v_literals v_begins v_bounds l3 (fun z0 => fX6_forced_L2 x1 x2 v_constraints v_set v_ones v_costs v_factors v_literals v_begins v_bounds no z0) n l4 l5 → ∀ ls : Array Slot, lv_has ls 7 [(4, .int l4), (5, .int l5), (3, .int l3), (0, .ref h0), (1, .int x1), (2, .int x2)] → W p l e { frames := 3, cells := 0, slots := 0, locals := 66 } s m [.ref h0, .int x1, .int x2].toArray below meth c s.heap [] 0 0 (MQ below (rQ (fX6_forced x1 x2 v_constraints v_set v_ones v_costs v_factors v_literals v_begins v_bounds)) [.ref h0, .int x1, .int x2].toArray s 0 0 (fun _ => False)) (F0 m 25 ls []) := by
          intro n
          induction n with
          | zero =>
            intro j l4 l5 hj hF
            exact (by obtain ⟨_, h2, h3⟩ := hj; exact absurd h3 (by omega))
          | succ n ih =>
            intro j l4 l5 hj hF ls hl
            have hF := hF.trans (fX6_forced_L25.eq_2 ..)
            obtain ⟨ej, hj1, hj2⟩ := hj
            refine lv_iload hx hb dX6_forced_25 (lv_at hl 1 rfl) ?_
            refine lv_aload_n hx hb dX6_forced_27 rfl (lv_at hl 3 rfl) ?_
            refine va_get (D := D) hx hb hts inX6 hown hK hP 0 rfl rfl 4 (by decide) (hts _ kw477) (fun _ h9 => h9) rfl dX6_forced_28 ?_
            refine lv_iload_n hx hb dX6_forced_31 rfl (lv_at hl 2 rfl) ?_
            refine lv_iconst (v := 1) hx hb dX6_forced_32 (by decide) ?_
            refine lv_iadd hx hb dX6_forced_33 ?_
            refine va_iald hx hb hK hP 4 0 rfl rfl i21s dX6_forced_34 ?_
            refine lv_icmp_ge (tgt := 103) hx hb dX6_forced_35 (by decide) (fun c_7 => ?_) (fun c_7 => ?_)
            · have hF := hF.trans (if_pos c_7)
              refine lv_iinc (v := l3 + 1) (lv' := [(3, .int (l3 + 1)), (4, .int l4), (5, .int l5), (0, .ref h0), (1, .int x1), (2, .int x2)]) hx hb dX6_forced_103 hl (k := 2) rfl rfl (by decide) rfl (fun ls hl => ?_)
              refine lv_goto (tgt := 2) hx hb dX6_forced_106 (by decide) ?_
              exact iho (k + 1) (l3 + 1) ⟨k_s ek, by have := okC_lt20 ek eC hk1 c_1; omega, by omega⟩ hF ls (lv_sub hl [0, 3, 4, 5] rfl)
            · have hF := hF.trans (if_neg c_7)
              refine lv_aload_n hx hb dX6_forced_38 rfl (lv_at hl 3 rfl) ?_
              refine va_get (D := D) hx hb hts inX6 hown hK hP 0 rfl rfl 3 (by decide) (hts _ kw476) (fun _ h9 => h9) rfl dX6_forced_39 ?_
              refine lv_iload hx hb dX6_forced_42 (lv_at hl 1 rfl) ?_
              refine va_iald hx hb hK hP 3 0 rfl rfl (k_in ej (by have := okC_lt ej eb hj1 (by assumption); omega) (by decide)) dX6_forced_44 ?_
              refine lv_if_ge (tgt := 59) hx hb dX6_forced_45 (by decide) (fun c_8 => ?_) (fun c_8 => ?_)
              · have hF := hF.trans (if_pos c_8)
                refine lv_aload_n hx hb dX6_forced_59 rfl (lv_at hl 3 rfl) ?_
                refine va_get (D := D) hx hb hts inX6 hown hK hP 0 rfl rfl 3 (by decide) (hts _ kw476) (fun _ h9 => h9) rfl dX6_forced_60 ?_
                refine lv_iload hx hb dX6_forced_63 (lv_at hl 1 rfl) ?_
                refine va_iald hx hb hK hP 3 0 rfl rfl (k_in ej (by have := okC_lt ej eb hj1 (by assumption); omega) (by decide)) dX6_forced_65 ?_
                refine lv_istore (lv' := [(6, .int (v_literals l5.toNatClampNeg)), (4, .int l4), (5, .int l5), (3, .int l3), (0, .ref h0), (1, .int x1), (2, .int x2)]) hx hb dX6_forced_66 hl (by decide) rfl (fun ls hl => ?_)
                refine lv_aload_n hx hb dX6_forced_68 rfl (lv_at hl 4 rfl) ?_
                refine lv_iload hx hb dX6_forced_69 (lv_at hl 0 rfl) ?_
                have hPc : va_P D vwCl [(h0, .inr (6, [.int v_thrown, .ref h0_costs, .ref h0_factors, .ref h0_literals, .ref h0_begins, .ref h0_bounds, .int v_constraints, .int v_terms, .int v_begun, .int v_done, .int v_over, .int v_set, .int v_ones, .ref h0_trail, .ref h0_choice, .int v_depth, .int v_searchSet, .int v_searchOnes, .int v_best, .int v_bestOnes, .int v_made, .ref h0_log, .int v_size, .int v_answer, .int v_looked, .int v_place, .int v_waiting, .ref h0_waitSet, .ref h0_waitOnes, .ref h0_waitDead]))] _ := hP.sub [0] rfl
                refine rback (va_runV (As := [.int (v_literals l5.toNatClampNeg)]) (rest := []) ⟨hx, hb, hml, hown, hts⟩ (ctX6_isSet l D cI cZ h0 h0_costs h0_factors h0_literals h0_begins h0_bounds h0_trail h0_choice h0_log h0_waitSet h0_waitOnes h0_waitDead (v_literals l5.toNatClampNeg) v_thrown v_constraints v_terms v_begun v_done v_over v_set v_ones v_depth v_searchSet v_searchOnes v_best v_bestOnes v_made v_size v_answer v_looked v_place v_waiting) ⟨(cB hts kw599 kw596 kw58 pmX6_isSet ⟨Nat.le_of_ble_eq_true rfl, Nat.le_of_ble_eq_true rfl⟩), hts _ kw598, hts _ kw38⟩ ⟨rPc_blind, va_recv hK hP (ci := 6) (q0 := 0) rfl rfl, rpre hPc hK hN⟩ rfl rfl hl.1 rfl (lv_room (Nat.le_of_ble_eq_true rfl)) dX6_forced_71 ⟨Nat.zero_le _, Nat.zero_le _⟩) ?_
                refine lv_if_ne (tgt := 97) hx hb dX6_forced_74 (by decide) (fun c_9 => ?_) (fun c_9 => ?_)
                · have hF := hF.trans (if_neg c_9)
                  refine lv_iinc (v := l5 + 1) (lv' := [(5, .int (l5 + 1)), (6, .int (v_literals l5.toNatClampNeg)), (4, .int l4), (3, .int l3), (0, .ref h0), (1, .int x1), (2, .int x2)]) hx hb dX6_forced_97 hl (k := 2) rfl rfl (by decide) rfl (fun ls hl => ?_)
                  refine lv_goto (tgt := 25) hx hb dX6_forced_100 (by decide) ?_
                  exact ih (j + 1) l4 (l5 + 1) ⟨k_s ej, by have := okC_lt ej eb hj1 (by assumption); omega, by omega⟩ hF ls (lv_sub hl [2, 0, 3, 4, 5, 6] rfl)
                · have hF := hF.trans (if_pos c_9)
                  refine lv_aload_n hx hb dX6_forced_77 rfl (lv_at hl 4 rfl) ?_
                  refine va_get (D := D) hx hb hts inX6 hown hK hP 0 rfl rfl 2 (by decide) (hts _ kw475) (fun _ h9 => h9) rfl dX6_forced_78 ?_
                  refine lv_iload hx hb dX6_forced_81 (lv_at hl 2 rfl) ?_
                  refine va_iald hx hb hK hP 2 0 rfl rfl (k_in ej (by have := okC_lt ej eb hj1 (by assumption); omega) (by decide)) dX6_forced_83 ?_
                  refine lv_iload hx hb dX6_forced_84 (lv_at hl 1 rfl) ?_
                  refine lv_icmp_le (tgt := 97) hx hb dX6_forced_86 (by decide) (fun c_10 => ?_) (fun c_10 => ?_)
                  · have hF := hF.trans (if_pos c_10)
                    refine lv_iinc (v := l5 + 1) (lv' := [(5, .int (l5 + 1)), (6, .int (v_literals l5.toNatClampNeg)), (4, .int l4), (3, .int l3), (0, .ref h0), (1, .int x1), (2, .int x2)]) hx hb dX6_forced_97 hl (k := 2) rfl rfl (by decide) rfl (fun ls hl => ?_)
                    refine lv_goto (tgt := 25) hx hb dX6_forced_100 (by decide) ?_
                    exact ih (j + 1) l4 (l5 + 1) ⟨k_s ej, by have := okC_lt ej eb hj1 (by assumption); omega, by omega⟩ hF ls (lv_sub hl [2, 0, 3, 4, 5, 6] rfl)
                  · have hF := hF.trans (if_neg c_10)
                    refine lv_aload_n hx hb dX6_forced_89 rfl (lv_at hl 4 rfl) ?_
                    refine va_get (D := D) hx hb hts inX6 hown hK hP 0 rfl rfl 3 (by decide) (hts _ kw476) (fun _ h9 => h9) rfl dX6_forced_90 ?_
                    refine lv_iload hx hb dX6_forced_93 (lv_at hl 2 rfl) ?_
                    refine va_iald hx hb hK hP 3 0 rfl rfl (k_in ej (by have := okC_lt ej eb hj1 (by assumption); omega) (by decide)) dX6_forced_95 ?_
                    exact rreti hx hb hr hlocks hF.symm dX6_forced_96
              · have hF := hF.trans (if_neg c_8)
                refine lv_aload_n hx hb dX6_forced_48 rfl (lv_at hl 3 rfl) ?_
                refine va_get (D := D) hx hb hts inX6 hown hK hP 0 rfl rfl 3 (by decide) (hts _ kw476) (fun _ h9 => h9) rfl dX6_forced_49 ?_
                refine lv_iload hx hb dX6_forced_52 (lv_at hl 1 rfl) ?_
                refine va_iald hx hb hK hP 3 0 rfl rfl (k_in ej (by have := okC_lt ej eb hj1 (by assumption); omega) (by decide)) dX6_forced_54 ?_
                refine lv_ineg hx hb dX6_forced_55 ?_
                refine lv_goto (tgt := 66) hx hb dX6_forced_56 (by decide) ?_
                refine lv_istore (lv' := [(6, .int (-(v_literals l5.toNatClampNeg))), (4, .int l4), (5, .int l5), (3, .int l3), (0, .ref h0), (1, .int x1), (2, .int x2)]) hx hb dX6_forced_66 hl (by decide) rfl (fun ls hl => ?_)
                refine lv_aload_n hx hb dX6_forced_68 rfl (lv_at hl 4 rfl) ?_
                refine lv_iload hx hb dX6_forced_69 (lv_at hl 0 rfl) ?_
                have hPc : va_P D vwCl [(h0, .inr (6, [.int v_thrown, .ref h0_costs, .ref h0_factors, .ref h0_literals, .ref h0_begins, .ref h0_bounds, .int v_constraints, .int v_terms, .int v_begun, .int v_done, .int v_over, .int v_set, .int v_ones, .ref h0_trail, .ref h0_choice, .int v_depth, .int v_searchSet, .int v_searchOnes, .int v_best, .int v_bestOnes, .int v_made, .ref h0_log, .int v_size, .int v_answer, .int v_looked, .int v_place, .int v_waiting, .ref h0_waitSet, .ref h0_waitOnes, .ref h0_waitDead]))] _ := hP.sub [0] rfl
                refine rback (va_runV (As := [.int (-(v_literals l5.toNatClampNeg))]) (rest := []) ⟨hx, hb, hml, hown, hts⟩ (ctX6_isSet l D cI cZ h0 h0_costs h0_factors h0_literals h0_begins h0_bounds h0_trail h0_choice h0_log h0_waitSet h0_waitOnes h0_waitDead (-(v_literals l5.toNatClampNeg)) v_thrown v_constraints v_terms v_begun v_done v_over v_set v_ones v_depth v_searchSet v_searchOnes v_best v_bestOnes v_made v_size v_answer v_looked v_place v_waiting) ⟨(cB hts kw599 kw596 kw58 pmX6_isSet ⟨Nat.le_of_ble_eq_true rfl, Nat.le_of_ble_eq_true rfl⟩), hts _ kw598, hts _ kw38⟩ ⟨rPc_blind, va_recv hK hP (ci := 6) (q0 := 0) rfl rfl, rpre hPc hK hN⟩ rfl rfl hl.1 rfl (lv_room (Nat.le_of_ble_eq_true rfl)) dX6_forced_71 ⟨Nat.zero_le _, Nat.zero_le _⟩) ?_
                refine lv_if_ne (tgt := 97) hx hb dX6_forced_74 (by decide) (fun c_11 => ?_) (fun c_11 => ?_)
                · have hF := hF.trans (if_neg c_11)
                  refine lv_iinc (v := l5 + 1) (lv' := [(5, .int (l5 + 1)), (6, .int (-(v_literals l5.toNatClampNeg))), (4, .int l4), (3, .int l3), (0, .ref h0), (1, .int x1), (2, .int x2)]) hx hb dX6_forced_97 hl (k := 2) rfl rfl (by decide) rfl (fun ls hl => ?_)
                  refine lv_goto (tgt := 25) hx hb dX6_forced_100 (by decide) ?_
                  exact ih (j + 1) l4 (l5 + 1) ⟨k_s ej, by have := okC_lt ej eb hj1 (by assumption); omega, by omega⟩ hF ls (lv_sub hl [2, 0, 3, 4, 5, 6] rfl)
                · have hF := hF.trans (if_pos c_11)
                  refine lv_aload_n hx hb dX6_forced_77 rfl (lv_at hl 4 rfl) ?_
                  refine va_get (D := D) hx hb hts inX6 hown hK hP 0 rfl rfl 2 (by decide) (hts _ kw475) (fun _ h9 => h9) rfl dX6_forced_78 ?_
                  refine lv_iload hx hb dX6_forced_81 (lv_at hl 2 rfl) ?_
                  refine va_iald hx hb hK hP 2 0 rfl rfl (k_in ej (by have := okC_lt ej eb hj1 (by assumption); omega) (by decide)) dX6_forced_83 ?_
                  refine lv_iload hx hb dX6_forced_84 (lv_at hl 1 rfl) ?_
                  refine lv_icmp_le (tgt := 97) hx hb dX6_forced_86 (by decide) (fun c_12 => ?_) (fun c_12 => ?_)
                  · have hF := hF.trans (if_pos c_12)
                    refine lv_iinc (v := l5 + 1) (lv' := [(5, .int (l5 + 1)), (6, .int (-(v_literals l5.toNatClampNeg))), (4, .int l4), (3, .int l3), (0, .ref h0), (1, .int x1), (2, .int x2)]) hx hb dX6_forced_97 hl (k := 2) rfl rfl (by decide) rfl (fun ls hl => ?_)
                    refine lv_goto (tgt := 25) hx hb dX6_forced_100 (by decide) ?_
                    exact ih (j + 1) l4 (l5 + 1) ⟨k_s ej, by have := okC_lt ej eb hj1 (by assumption); omega, by omega⟩ hF ls (lv_sub hl [2, 0, 3, 4, 5, 6] rfl)
                  · have hF := hF.trans (if_neg c_12)
                    refine lv_aload_n hx hb dX6_forced_89 rfl (lv_at hl 4 rfl) ?_
                    refine va_get (D := D) hx hb hts inX6 hown hK hP 0 rfl rfl 3 (by decide) (hts _ kw476) (fun _ h9 => h9) rfl dX6_forced_90 ?_
                    refine lv_iload hx hb dX6_forced_93 (lv_at hl 2 rfl) ?_
                    refine va_iald hx hb hK hP 3 0 rfl rfl (k_in ej (by have := okC_lt ej eb hj1 (by assumption); omega) (by decide)) dX6_forced_95 ?_
                    exact rreti hx hb hr hlocks hF.symm dX6_forced_96
        exact loop25 121 a (fX6_slack l3 v_set v_ones v_factors v_literals v_begins v_bounds) (v_begins l3.toNatClampNeg) ⟨ea, by omega, by omega⟩ hF ls (lv_sub hl [1, 0, 2, 3, 4, 5] rfl)
  exact loop2 21 0 0 ⟨rfl, by omega, by omega⟩ hF ls (lv_sub hl [0, 1, 2, 3] rfl)

-- LeastCostModel.put
theorem pmX6_put : mFit yX6_put 2 := ⟨by decide +kernel, by decide +kernel, by decide +kernel⟩
noncomputable def fX6_put_d (x1 : Int32) (x2 : Int32) (v_set : Int32) (v_ones : Int32) : Int32 × Int32 :=
  (if x2 = 0 then (v_set ||| (1 <<< ((x1 - 1) &&& 31)), v_ones &&& ((1 <<< ((x1 - 1) &&& 31)) ^^^ (-1))) else (v_set ||| (1 <<< ((x1 - 1) &&& 31)), v_ones ||| (1 <<< ((x1 - 1) &&& 31))))
theorem fX6_put_ex : ∃ f : Int32 → Int32 → Int32 → Int32 → (Int32 × Int32), ∀ (x1 : Int32) (x2 : Int32) (v_set : Int32) (v_ones : Int32), f x1 x2 v_set v_ones = fX6_put_d x1 x2 v_set v_ones := ⟨fX6_put_d, fun _ _ _ _ => rfl⟩
noncomputable def fX6_put : Int32 → Int32 → Int32 → Int32 → (Int32 × Int32) := Classical.choose fX6_put_ex
theorem fX6_put_eq (x1 : Int32) (x2 : Int32) (v_set : Int32) (v_ones : Int32) : fX6_put x1 x2 v_set v_ones = fX6_put_d x1 x2 v_set v_ones := Classical.choose_spec fX6_put_ex x1 x2 v_set v_ones
set_option maxHeartbeats 1000000 in
set_option maxRecDepth 100000 in
theorem ctX6_put (l : Launch) (D : va_G) (cI cZ : ClassId) (h0 h0_costs h0_factors h0_literals h0_begins h0_bounds h0_trail h0_choice h0_log h0_waitSet h0_waitOnes h0_waitDead : Nat) (x1 : Int32) (x2 : Int32) (v_thrown v_constraints v_terms v_begun v_done v_over v_set v_ones v_depth v_searchSet v_searchOnes v_best v_bestOnes v_made v_size v_answer v_looked v_place v_waiting : Int32) : Met l yX6_put (gw yX6_put cX6_put 3 none) { frames := 0, cells := 0, slots := 0, locals := 0 } (wPc D cI cZ [.ref h0, .int x1, .int x2] [(h0, .inr (6, [.int v_thrown, .ref h0_costs, .ref h0_factors, .ref h0_literals, .ref h0_begins, .ref h0_bounds, .int v_constraints, .int v_terms, .int v_begun, .int v_done, .int v_over, .int v_set, .int v_ones, .ref h0_trail, .ref h0_choice, .int v_depth, .int v_searchSet, .int v_searchOnes, .int v_best, .int v_bestOnes, .int v_made, .ref h0_log, .int v_size, .int v_answer, .int v_looked, .int v_place, .int v_waiting, .ref h0_waitSet, .ref h0_waitOnes, .ref h0_waitDead]))]) (wQ D none [(h0, .inr (6, [.int v_thrown, .ref h0_costs, .ref h0_factors, .ref h0_literals, .ref h0_begins, .ref h0_bounds, .int v_constraints, .int v_terms, .int v_begun, .int v_done, .int v_over, .int v_set, .int v_ones, .ref h0_trail, .ref h0_choice, .int v_depth, .int v_searchSet, .int v_searchOnes, .int v_best, .int v_bestOnes, .int v_made, .ref h0_log, .int v_size, .int v_answer, .int v_looked, .int v_place, .int v_waiting, .ref h0_waitSet, .ref h0_waitOnes, .ref h0_waitDead]))] [(h0, .inr (6, [.int v_thrown, .ref h0_costs, .ref h0_factors, .ref h0_literals, .ref h0_begins, .ref h0_bounds, .int v_constraints, .int v_terms, .int v_begun, .int v_done, .int v_over, .int ((fX6_put x1 x2 v_set v_ones).1), .int ((fX6_put x1 x2 v_set v_ones).2), .ref h0_trail, .ref h0_choice, .int v_depth, .int v_searchSet, .int v_searchOnes, .int v_best, .int v_bestOnes, .int v_made, .ref h0_log, .int v_size, .int v_answer, .int v_looked, .int v_place, .int v_waiting, .ref h0_waitSet, .ref h0_waitOnes, .ref h0_waitDead]))]) 0 0 (aw [(h0, .inr (6, [.int v_thrown, .ref h0_costs, .ref h0_factors, .ref h0_literals, .ref h0_begins, .ref h0_bounds, .int v_constraints, .int v_terms, .int v_begun, .int v_done, .int v_over, .int v_set, .int v_ones, .ref h0_trail, .ref h0_choice, .int v_depth, .int v_searchSet, .int v_searchOnes, .int v_best, .int v_bestOnes, .int v_made, .ref h0_log, .int v_size, .int v_answer, .int v_looked, .int v_place, .int v_waiting, .ref h0_waitSet, .ref h0_waitOnes, .ref h0_waitDead]))]) := by
  refine wMet (by decide) (Nat.le_of_ble_eq_true rfl) ?_
  intro p e s m below meth c hx hb hr hlocks hml hown hts hP hK hN hD hS ls hl
  have hl : lv_has ls 3 [(0, .ref h0), (1, .int x1), (2, .int x2)] := hl
  have hF := (fX6_put_eq x1 x2 v_set v_ones).trans (fX6_put_d.eq_1 x1 x2 v_set v_ones)
  refine lv_aload_n hx hb dX6_put_0 rfl (lv_at hl 0 rfl) ?_
  refine lv_aload_n hx hb dX6_put_1 rfl (lv_at hl 0 rfl) ?_
  refine va_get (D := D) hx hb hts inX6 hown hK hP 0 rfl rfl 11 (by decide) (hts _ kw484) (fun _ h9 => h9) rfl dX6_put_2 ?_
  refine lv_iconst (v := 1) hx hb dX6_put_5 (by decide) ?_
  refine lv_iload_n hx hb dX6_put_6 rfl (lv_at hl 1 rfl) ?_
  refine lv_iconst (v := 1) hx hb dX6_put_7 (by decide) ?_
  refine lv_isub hx hb dX6_put_8 ?_
  refine lv_ishl hx hb dX6_put_9 ?_
  refine lv_ior hx hb dX6_put_10 ?_
  refine va_put (D := D) (v := .int (v_set ||| (1 <<< ((x1 - 1) &&& 31)))) (ty := .int) hx hb hts inX6 tyX6 tyX6_ok nmX6 hown hK hP hD hS 0 rfl rfl 11 (by decide) (hts _ kw484) (fun _ h9 => h9) rfl (by decide +kernel) rfl rfl (Nat.le_of_ble_eq_true rfl) dX6_put_11 (fun H locs hP hD hS => ?_)
  have hP : va_P D vwCl [(h0, .inr (6, [.int v_thrown, .ref h0_costs, .ref h0_factors, .ref h0_literals, .ref h0_begins, .ref h0_bounds, .int v_constraints, .int v_terms, .int v_begun, .int v_done, .int v_over, .int (v_set ||| (1 <<< ((x1 - 1) &&& 31))), .int v_ones, .ref h0_trail, .ref h0_choice, .int v_depth, .int v_searchSet, .int v_searchOnes, .int v_best, .int v_bestOnes, .int v_made, .ref h0_log, .int v_size, .int v_answer, .int v_looked, .int v_place, .int v_waiting, .ref h0_waitSet, .ref h0_waitOnes, .ref h0_waitDead]))] H := hP
  have hD : va_D _ [(h0, .inr (6, [.int v_thrown, .ref h0_costs, .ref h0_factors, .ref h0_literals, .ref h0_begins, .ref h0_bounds, .int v_constraints, .int v_terms, .int v_begun, .int v_done, .int v_over, .int (v_set ||| (1 <<< ((x1 - 1) &&& 31))), .int v_ones, .ref h0_trail, .ref h0_choice, .int v_depth, .int v_searchSet, .int v_searchOnes, .int v_best, .int v_bestOnes, .int v_made, .ref h0_log, .int v_size, .int v_answer, .int v_looked, .int v_place, .int v_waiting, .ref h0_waitSet, .ref h0_waitOnes, .ref h0_waitDead]))] := hD
  refine lv_aload_n hx hb dX6_put_14 rfl (lv_at hl 0 rfl) ?_
  refine lv_iload_n hx hb dX6_put_15 rfl (lv_at hl 2 rfl) ?_
  refine lv_if_eq (tgt := 32) hx hb dX6_put_16 (by decide) (fun c_1 => ?_) (fun c_1 => ?_)
  · have hF := hF.trans (if_pos c_1)
    refine lv_aload_n hx hb dX6_put_32 rfl (lv_at hl 0 rfl) ?_
    refine va_get (D := D) hx hb hts inX6 hown hK hP 0 rfl rfl 12 (by decide) (hts _ kw485) (fun _ h9 => h9) rfl dX6_put_33 ?_
    refine lv_iconst (v := 1) hx hb dX6_put_36 (by decide) ?_
    refine lv_iload_n hx hb dX6_put_37 rfl (lv_at hl 1 rfl) ?_
    refine lv_iconst (v := 1) hx hb dX6_put_38 (by decide) ?_
    refine lv_isub hx hb dX6_put_39 ?_
    refine lv_ishl hx hb dX6_put_40 ?_
    refine lv_iconst (v := (-1)) hx hb dX6_put_41 (by decide) ?_
    refine lv_ixor hx hb dX6_put_42 ?_
    refine lv_iand hx hb dX6_put_43 ?_
    refine va_put (D := D) (v := .int (v_ones &&& ((1 <<< ((x1 - 1) &&& 31)) ^^^ (-1)))) (ty := .int) hx hb hts inX6 tyX6 tyX6_ok nmX6 hown hK hP hD hS 0 rfl rfl 12 (by decide) (hts _ kw485) (fun _ h9 => h9) rfl (by decide +kernel) rfl rfl (Nat.le_of_ble_eq_true rfl) dX6_put_44 (fun H locs hP hD hS => ?_)
    have hP : va_P D vwCl [(h0, .inr (6, [.int v_thrown, .ref h0_costs, .ref h0_factors, .ref h0_literals, .ref h0_begins, .ref h0_bounds, .int v_constraints, .int v_terms, .int v_begun, .int v_done, .int v_over, .int (v_set ||| (1 <<< ((x1 - 1) &&& 31))), .int (v_ones &&& ((1 <<< ((x1 - 1) &&& 31)) ^^^ (-1))), .ref h0_trail, .ref h0_choice, .int v_depth, .int v_searchSet, .int v_searchOnes, .int v_best, .int v_bestOnes, .int v_made, .ref h0_log, .int v_size, .int v_answer, .int v_looked, .int v_place, .int v_waiting, .ref h0_waitSet, .ref h0_waitOnes, .ref h0_waitDead]))] H := hP
    have hD : va_D _ [(h0, .inr (6, [.int v_thrown, .ref h0_costs, .ref h0_factors, .ref h0_literals, .ref h0_begins, .ref h0_bounds, .int v_constraints, .int v_terms, .int v_begun, .int v_done, .int v_over, .int (v_set ||| (1 <<< ((x1 - 1) &&& 31))), .int (v_ones &&& ((1 <<< ((x1 - 1) &&& 31)) ^^^ (-1))), .ref h0_trail, .ref h0_choice, .int v_depth, .int v_searchSet, .int v_searchOnes, .int v_best, .int v_bestOnes, .int v_made, .ref h0_log, .int v_size, .int v_answer, .int v_looked, .int v_place, .int v_waiting, .ref h0_waitSet, .ref h0_waitOnes, .ref h0_waitDead]))] := hD
    exact wretv hx hb hr hlocks (by rw [hF]; exact hP) hS dX6_put_47
  · have hF := hF.trans (if_neg c_1)
    refine lv_aload_n hx hb dX6_put_19 rfl (lv_at hl 0 rfl) ?_
    refine va_get (D := D) hx hb hts inX6 hown hK hP 0 rfl rfl 12 (by decide) (hts _ kw485) (fun _ h9 => h9) rfl dX6_put_20 ?_
    refine lv_iconst (v := 1) hx hb dX6_put_23 (by decide) ?_
    refine lv_iload_n hx hb dX6_put_24 rfl (lv_at hl 1 rfl) ?_
    refine lv_iconst (v := 1) hx hb dX6_put_25 (by decide) ?_
    refine lv_isub hx hb dX6_put_26 ?_
    refine lv_ishl hx hb dX6_put_27 ?_
    refine lv_ior hx hb dX6_put_28 ?_
    refine lv_goto (tgt := 44) hx hb dX6_put_29 (by decide) ?_
    refine va_put (D := D) (v := .int (v_ones ||| (1 <<< ((x1 - 1) &&& 31)))) (ty := .int) hx hb hts inX6 tyX6 tyX6_ok nmX6 hown hK hP hD hS 0 rfl rfl 12 (by decide) (hts _ kw485) (fun _ h9 => h9) rfl (by decide +kernel) rfl rfl (Nat.le_of_ble_eq_true rfl) dX6_put_44 (fun H locs hP hD hS => ?_)
    have hP : va_P D vwCl [(h0, .inr (6, [.int v_thrown, .ref h0_costs, .ref h0_factors, .ref h0_literals, .ref h0_begins, .ref h0_bounds, .int v_constraints, .int v_terms, .int v_begun, .int v_done, .int v_over, .int (v_set ||| (1 <<< ((x1 - 1) &&& 31))), .int (v_ones ||| (1 <<< ((x1 - 1) &&& 31))), .ref h0_trail, .ref h0_choice, .int v_depth, .int v_searchSet, .int v_searchOnes, .int v_best, .int v_bestOnes, .int v_made, .ref h0_log, .int v_size, .int v_answer, .int v_looked, .int v_place, .int v_waiting, .ref h0_waitSet, .ref h0_waitOnes, .ref h0_waitDead]))] H := hP
    have hD : va_D _ [(h0, .inr (6, [.int v_thrown, .ref h0_costs, .ref h0_factors, .ref h0_literals, .ref h0_begins, .ref h0_bounds, .int v_constraints, .int v_terms, .int v_begun, .int v_done, .int v_over, .int (v_set ||| (1 <<< ((x1 - 1) &&& 31))), .int (v_ones ||| (1 <<< ((x1 - 1) &&& 31))), .ref h0_trail, .ref h0_choice, .int v_depth, .int v_searchSet, .int v_searchOnes, .int v_best, .int v_bestOnes, .int v_made, .ref h0_log, .int v_size, .int v_answer, .int v_looked, .int v_place, .int v_waiting, .ref h0_waitSet, .ref h0_waitOnes, .ref h0_waitDead]))] := hD
    exact wretv hx hb hr hlocks (by rw [hF]; exact hP) hS dX6_put_47

-- LeastCostModel.write
theorem pmX6_write : mFit yX6_write 1 := ⟨by decide +kernel, by decide +kernel, by decide +kernel⟩
noncomputable def fX6_write_d (x1 : Int32) (v_over : Int32) (v_size : Int32) (v_log : Nat → Int32) : Int32 × Int32 × Int32 × (Nat → Int32) :=
  (if v_size = 400 then (0, 1, v_size, v_log) else (1, v_over, v_size + 1, (upd v_log v_size.toNatClampNeg x1)))
theorem fX6_write_ex : ∃ f : Int32 → Int32 → Int32 → (Nat → Int32) → (Int32 × Int32 × Int32 × (Nat → Int32)), ∀ (x1 : Int32) (v_over : Int32) (v_size : Int32) (v_log : Nat → Int32), f x1 v_over v_size v_log = fX6_write_d x1 v_over v_size v_log := ⟨fX6_write_d, fun _ _ _ _ => rfl⟩
noncomputable def fX6_write : Int32 → Int32 → Int32 → (Nat → Int32) → (Int32 × Int32 × Int32 × (Nat → Int32)) := Classical.choose fX6_write_ex
theorem fX6_write_eq (x1 : Int32) (v_over : Int32) (v_size : Int32) (v_log : Nat → Int32) : fX6_write x1 v_over v_size v_log = fX6_write_d x1 v_over v_size v_log := Classical.choose_spec fX6_write_ex x1 v_over v_size v_log
set_option maxHeartbeats 1000000 in
set_option maxRecDepth 100000 in
theorem ctX6_write (l : Launch) (D : va_G) (cI cZ : ClassId) (h0 h0_costs h0_factors h0_literals h0_begins h0_bounds h0_trail h0_choice h0_log h0_waitSet h0_waitOnes h0_waitDead : Nat) (x1 : Int32) (v_thrown v_constraints v_terms v_begun v_done v_over v_set v_ones v_depth v_searchSet v_searchOnes v_best v_bestOnes v_made v_size v_answer v_looked v_place v_waiting : Int32) (v_log : Nat → Int32) (hL : okN 400 v_size) : Met l yX6_write (gw yX6_write cX6_write 2 (some .boolean)) { frames := 0, cells := 0, slots := 0, locals := 0 } (wPc D cI cZ [.ref h0, .int x1] [(h0, .inr (6, [.int v_thrown, .ref h0_costs, .ref h0_factors, .ref h0_literals, .ref h0_begins, .ref h0_bounds, .int v_constraints, .int v_terms, .int v_begun, .int v_done, .int v_over, .int v_set, .int v_ones, .ref h0_trail, .ref h0_choice, .int v_depth, .int v_searchSet, .int v_searchOnes, .int v_best, .int v_bestOnes, .int v_made, .ref h0_log, .int v_size, .int v_answer, .int v_looked, .int v_place, .int v_waiting, .ref h0_waitSet, .ref h0_waitOnes, .ref h0_waitDead])), (h0_log, .inl (cI, 401, .inl v_log))]) (wQ D (some (.int ((fX6_write x1 v_over v_size v_log).1))) [(h0, .inr (6, [.int v_thrown, .ref h0_costs, .ref h0_factors, .ref h0_literals, .ref h0_begins, .ref h0_bounds, .int v_constraints, .int v_terms, .int v_begun, .int v_done, .int v_over, .int v_set, .int v_ones, .ref h0_trail, .ref h0_choice, .int v_depth, .int v_searchSet, .int v_searchOnes, .int v_best, .int v_bestOnes, .int v_made, .ref h0_log, .int v_size, .int v_answer, .int v_looked, .int v_place, .int v_waiting, .ref h0_waitSet, .ref h0_waitOnes, .ref h0_waitDead])), (h0_log, .inl (cI, 401, .inl v_log))] [(h0, .inr (6, [.int v_thrown, .ref h0_costs, .ref h0_factors, .ref h0_literals, .ref h0_begins, .ref h0_bounds, .int v_constraints, .int v_terms, .int v_begun, .int v_done, .int ((fX6_write x1 v_over v_size v_log).2.1), .int v_set, .int v_ones, .ref h0_trail, .ref h0_choice, .int v_depth, .int v_searchSet, .int v_searchOnes, .int v_best, .int v_bestOnes, .int v_made, .ref h0_log, .int ((fX6_write x1 v_over v_size v_log).2.2.1), .int v_answer, .int v_looked, .int v_place, .int v_waiting, .ref h0_waitSet, .ref h0_waitOnes, .ref h0_waitDead])), (h0_log, .inl (cI, 401, .inl ((fX6_write x1 v_over v_size v_log).2.2.2)))]) 0 0 (aw [(h0, .inr (6, [.int v_thrown, .ref h0_costs, .ref h0_factors, .ref h0_literals, .ref h0_begins, .ref h0_bounds, .int v_constraints, .int v_terms, .int v_begun, .int v_done, .int v_over, .int v_set, .int v_ones, .ref h0_trail, .ref h0_choice, .int v_depth, .int v_searchSet, .int v_searchOnes, .int v_best, .int v_bestOnes, .int v_made, .ref h0_log, .int v_size, .int v_answer, .int v_looked, .int v_place, .int v_waiting, .ref h0_waitSet, .ref h0_waitOnes, .ref h0_waitDead])), (h0_log, .inl (cI, 401, .inl v_log))]) := by
  refine wMet (by decide) (Nat.le_of_ble_eq_true rfl) ?_
  intro p e s m below meth c hx hb hr hlocks hml hown hts hP hK hN hD hS ls hl
  have hl : lv_has ls 2 [(0, .ref h0), (1, .int x1)] := hl
  have hF := (fX6_write_eq x1 v_over v_size v_log).trans (fX6_write_d.eq_1 x1 v_over v_size v_log)
  refine lv_aload_n hx hb dX6_write_0 rfl (lv_at hl 0 rfl) ?_
  refine va_get (D := D) hx hb hts inX6 hown hK hP 0 rfl rfl 22 (by decide) (hts _ kw495) (fun _ h9 => h9) rfl dX6_write_1 ?_
  refine lv_sipush (v := 400) hx hb dX6_write_4 (by decide) ?_
  refine lv_icmp_ne (tgt := 17) hx hb dX6_write_7 (by decide) (fun c_1 => ?_) (fun c_1 => ?_)
  · have hF := hF.trans (if_neg c_1)
    refine lv_aload_n hx hb dX6_write_17 rfl (lv_at hl 0 rfl) ?_
    refine va_get (D := D) hx hb hts inX6 hown hK hP 0 rfl rfl 21 (by decide) (hts _ kw494) (fun _ h9 => h9) rfl dX6_write_18 ?_
    refine lv_aload_n hx hb dX6_write_21 rfl (lv_at hl 0 rfl) ?_
    refine va_get (D := D) hx hb hts inX6 hown hK hP 0 rfl rfl 22 (by decide) (hts _ kw495) (fun _ h9 => h9) rfl dX6_write_22 ?_
    refine lv_iload_n hx hb dX6_write_25 rfl (lv_at hl 1 rfl) ?_
    refine va_iast hx hb hK hP hD hS 1 0 rfl rfl (okN_inS hL (by decide) (by decide)) dX6_write_26 (fun H locs hP hD hS => ?_)
    have hP : va_P D vwCl [(h0, .inr (6, [.int v_thrown, .ref h0_costs, .ref h0_factors, .ref h0_literals, .ref h0_begins, .ref h0_bounds, .int v_constraints, .int v_terms, .int v_begun, .int v_done, .int v_over, .int v_set, .int v_ones, .ref h0_trail, .ref h0_choice, .int v_depth, .int v_searchSet, .int v_searchOnes, .int v_best, .int v_bestOnes, .int v_made, .ref h0_log, .int v_size, .int v_answer, .int v_looked, .int v_place, .int v_waiting, .ref h0_waitSet, .ref h0_waitOnes, .ref h0_waitDead])), (h0_log, .inl (cI, 401, .inl (upd v_log v_size.toNatClampNeg x1)))] H := hP
    have hD : va_D _ [(h0, .inr (6, [.int v_thrown, .ref h0_costs, .ref h0_factors, .ref h0_literals, .ref h0_begins, .ref h0_bounds, .int v_constraints, .int v_terms, .int v_begun, .int v_done, .int v_over, .int v_set, .int v_ones, .ref h0_trail, .ref h0_choice, .int v_depth, .int v_searchSet, .int v_searchOnes, .int v_best, .int v_bestOnes, .int v_made, .ref h0_log, .int v_size, .int v_answer, .int v_looked, .int v_place, .int v_waiting, .ref h0_waitSet, .ref h0_waitOnes, .ref h0_waitDead])), (h0_log, .inl (cI, 401, .inl (upd v_log v_size.toNatClampNeg x1)))] := hD
    refine lv_aload_n hx hb dX6_write_27 rfl (lv_at hl 0 rfl) ?_
    refine lv_dup hx hb dX6_write_28 rfl ?_
    refine va_get (D := D) hx hb hts inX6 hown hK hP 0 rfl rfl 22 (by decide) (hts _ kw495) (fun _ h9 => h9) rfl dX6_write_29 ?_
    refine lv_iconst (v := 1) hx hb dX6_write_32 (by decide) ?_
    refine lv_iadd hx hb dX6_write_33 ?_
    refine va_put (D := D) (v := .int (v_size + 1)) (ty := .int) hx hb hts inX6 tyX6 tyX6_ok nmX6 hown hK hP hD hS 0 rfl rfl 22 (by decide) (hts _ kw495) (fun _ h9 => h9) rfl (by decide +kernel) rfl rfl (Nat.le_of_ble_eq_true rfl) dX6_write_34 (fun H locs hP hD hS => ?_)
    have hP : va_P D vwCl [(h0, .inr (6, [.int v_thrown, .ref h0_costs, .ref h0_factors, .ref h0_literals, .ref h0_begins, .ref h0_bounds, .int v_constraints, .int v_terms, .int v_begun, .int v_done, .int v_over, .int v_set, .int v_ones, .ref h0_trail, .ref h0_choice, .int v_depth, .int v_searchSet, .int v_searchOnes, .int v_best, .int v_bestOnes, .int v_made, .ref h0_log, .int (v_size + 1), .int v_answer, .int v_looked, .int v_place, .int v_waiting, .ref h0_waitSet, .ref h0_waitOnes, .ref h0_waitDead])), (h0_log, .inl (cI, 401, .inl (upd v_log v_size.toNatClampNeg x1)))] H := hP
    have hD : va_D _ [(h0, .inr (6, [.int v_thrown, .ref h0_costs, .ref h0_factors, .ref h0_literals, .ref h0_begins, .ref h0_bounds, .int v_constraints, .int v_terms, .int v_begun, .int v_done, .int v_over, .int v_set, .int v_ones, .ref h0_trail, .ref h0_choice, .int v_depth, .int v_searchSet, .int v_searchOnes, .int v_best, .int v_bestOnes, .int v_made, .ref h0_log, .int (v_size + 1), .int v_answer, .int v_looked, .int v_place, .int v_waiting, .ref h0_waitSet, .ref h0_waitOnes, .ref h0_waitDead])), (h0_log, .inl (cI, 401, .inl (upd v_log v_size.toNatClampNeg x1)))] := hD
    refine lv_iconst (v := 1) hx hb dX6_write_37 (by decide) ?_
    exact wretz hx hb hr hlocks (Or.inr rfl) (by rw [hF]) (by rw [hF]; exact hP) hS dX6_write_38
  · have hF := hF.trans (if_pos c_1)
    refine lv_aload_n hx hb dX6_write_10 rfl (lv_at hl 0 rfl) ?_
    refine lv_iconst (v := 1) hx hb dX6_write_11 (by decide) ?_
    refine va_put (D := D) (v := .int 1) (ty := .boolean) hx hb hts inX6 tyX6 tyX6_ok nmX6 hown hK hP hD hS 0 rfl rfl 10 (by decide) (hts _ kw483) (fun _ h9 => h9) rfl (by decide +kernel) rfl rfl (Nat.le_of_ble_eq_true rfl) dX6_write_12 (fun H locs hP hD hS => ?_)
    have hP : va_P D vwCl [(h0, .inr (6, [.int v_thrown, .ref h0_costs, .ref h0_factors, .ref h0_literals, .ref h0_begins, .ref h0_bounds, .int v_constraints, .int v_terms, .int v_begun, .int v_done, .int 1, .int v_set, .int v_ones, .ref h0_trail, .ref h0_choice, .int v_depth, .int v_searchSet, .int v_searchOnes, .int v_best, .int v_bestOnes, .int v_made, .ref h0_log, .int v_size, .int v_answer, .int v_looked, .int v_place, .int v_waiting, .ref h0_waitSet, .ref h0_waitOnes, .ref h0_waitDead])), (h0_log, .inl (cI, 401, .inl v_log))] H := hP
    have hD : va_D _ [(h0, .inr (6, [.int v_thrown, .ref h0_costs, .ref h0_factors, .ref h0_literals, .ref h0_begins, .ref h0_bounds, .int v_constraints, .int v_terms, .int v_begun, .int v_done, .int 1, .int v_set, .int v_ones, .ref h0_trail, .ref h0_choice, .int v_depth, .int v_searchSet, .int v_searchOnes, .int v_best, .int v_bestOnes, .int v_made, .ref h0_log, .int v_size, .int v_answer, .int v_looked, .int v_place, .int v_waiting, .ref h0_waitSet, .ref h0_waitOnes, .ref h0_waitDead])), (h0_log, .inl (cI, 401, .inl v_log))] := hD
    refine lv_iconst (v := 0) hx hb dX6_write_15 (by decide) ?_
    exact wretz hx hb hr hlocks (Or.inl rfl) (by rw [hF]) (by rw [hF]; exact hP) hS dX6_write_16

-- LeastCostModel.lay
theorem pmX6_lay : mFit yX6_lay 3 := ⟨by decide +kernel, by decide +kernel, by decide +kernel⟩
noncomputable def fX6_lay_d (x1 : Int32) (x2 : Int32) (x3 : Int32) (v_set : Int32) (v_ones : Int32) (v_depth : Int32) (v_trail : Nat → Int32) (v_choice : Nat → Int32) : Int32 × Int32 × Int32 × (Nat → Int32) × (Nat → Int32) :=
  ((fX6_put x1 x2 v_set v_ones).1, (fX6_put x1 x2 v_set v_ones).2, v_depth + 1, (upd v_trail v_depth.toNatClampNeg x1), (upd v_choice v_depth.toNatClampNeg (vp_nar .boolean x3)))
theorem fX6_lay_ex : ∃ f : Int32 → Int32 → Int32 → Int32 → Int32 → Int32 → (Nat → Int32) → (Nat → Int32) → (Int32 × Int32 × Int32 × (Nat → Int32) × (Nat → Int32)), ∀ (x1 : Int32) (x2 : Int32) (x3 : Int32) (v_set : Int32) (v_ones : Int32) (v_depth : Int32) (v_trail : Nat → Int32) (v_choice : Nat → Int32), f x1 x2 x3 v_set v_ones v_depth v_trail v_choice = fX6_lay_d x1 x2 x3 v_set v_ones v_depth v_trail v_choice := ⟨fX6_lay_d, fun _ _ _ _ _ _ _ _ => rfl⟩
noncomputable def fX6_lay : Int32 → Int32 → Int32 → Int32 → Int32 → Int32 → (Nat → Int32) → (Nat → Int32) → (Int32 × Int32 × Int32 × (Nat → Int32) × (Nat → Int32)) := Classical.choose fX6_lay_ex
theorem fX6_lay_eq (x1 : Int32) (x2 : Int32) (x3 : Int32) (v_set : Int32) (v_ones : Int32) (v_depth : Int32) (v_trail : Nat → Int32) (v_choice : Nat → Int32) : fX6_lay x1 x2 x3 v_set v_ones v_depth v_trail v_choice = fX6_lay_d x1 x2 x3 v_set v_ones v_depth v_trail v_choice := Classical.choose_spec fX6_lay_ex x1 x2 x3 v_set v_ones v_depth v_trail v_choice
set_option maxHeartbeats 1000000 in
set_option maxRecDepth 100000 in
theorem ctX6_lay (l : Launch) (D : va_G) (cI cZ : ClassId) (h0 h0_costs h0_factors h0_literals h0_begins h0_bounds h0_trail h0_choice h0_log h0_waitSet h0_waitOnes h0_waitDead : Nat) (x1 : Int32) (x2 : Int32) (x3 : Int32) (v_thrown v_constraints v_terms v_begun v_done v_over v_set v_ones v_depth v_searchSet v_searchOnes v_best v_bestOnes v_made v_size v_answer v_looked v_place v_waiting : Int32) (v_trail v_choice : Nat → Int32) (hd : okN 15 v_depth) : Met l yX6_lay (gw yX6_lay cX6_lay 4 none) { frames := 1, cells := 0, slots := 0, locals := 22 } (wPc D cI cZ [.ref h0, .int x1, .int x2, .int x3] [(h0, .inr (6, [.int v_thrown, .ref h0_costs, .ref h0_factors, .ref h0_literals, .ref h0_begins, .ref h0_bounds, .int v_constraints, .int v_terms, .int v_begun, .int v_done, .int v_over, .int v_set, .int v_ones, .ref h0_trail, .ref h0_choice, .int v_depth, .int v_searchSet, .int v_searchOnes, .int v_best, .int v_bestOnes, .int v_made, .ref h0_log, .int v_size, .int v_answer, .int v_looked, .int v_place, .int v_waiting, .ref h0_waitSet, .ref h0_waitOnes, .ref h0_waitDead])), (h0_trail, .inl (cI, 16, .inl v_trail)), (h0_choice, .inl (cZ, 16, .inl v_choice))]) (wQ D none [(h0, .inr (6, [.int v_thrown, .ref h0_costs, .ref h0_factors, .ref h0_literals, .ref h0_begins, .ref h0_bounds, .int v_constraints, .int v_terms, .int v_begun, .int v_done, .int v_over, .int v_set, .int v_ones, .ref h0_trail, .ref h0_choice, .int v_depth, .int v_searchSet, .int v_searchOnes, .int v_best, .int v_bestOnes, .int v_made, .ref h0_log, .int v_size, .int v_answer, .int v_looked, .int v_place, .int v_waiting, .ref h0_waitSet, .ref h0_waitOnes, .ref h0_waitDead])), (h0_trail, .inl (cI, 16, .inl v_trail)), (h0_choice, .inl (cZ, 16, .inl v_choice))] [(h0, .inr (6, [.int v_thrown, .ref h0_costs, .ref h0_factors, .ref h0_literals, .ref h0_begins, .ref h0_bounds, .int v_constraints, .int v_terms, .int v_begun, .int v_done, .int v_over, .int ((fX6_lay x1 x2 x3 v_set v_ones v_depth v_trail v_choice).1), .int ((fX6_lay x1 x2 x3 v_set v_ones v_depth v_trail v_choice).2.1), .ref h0_trail, .ref h0_choice, .int ((fX6_lay x1 x2 x3 v_set v_ones v_depth v_trail v_choice).2.2.1), .int v_searchSet, .int v_searchOnes, .int v_best, .int v_bestOnes, .int v_made, .ref h0_log, .int v_size, .int v_answer, .int v_looked, .int v_place, .int v_waiting, .ref h0_waitSet, .ref h0_waitOnes, .ref h0_waitDead])), (h0_trail, .inl (cI, 16, .inl ((fX6_lay x1 x2 x3 v_set v_ones v_depth v_trail v_choice).2.2.2.1))), (h0_choice, .inl (cZ, 16, .inl ((fX6_lay x1 x2 x3 v_set v_ones v_depth v_trail v_choice).2.2.2.2)))]) 0 0 (aw [(h0, .inr (6, [.int v_thrown, .ref h0_costs, .ref h0_factors, .ref h0_literals, .ref h0_begins, .ref h0_bounds, .int v_constraints, .int v_terms, .int v_begun, .int v_done, .int v_over, .int v_set, .int v_ones, .ref h0_trail, .ref h0_choice, .int v_depth, .int v_searchSet, .int v_searchOnes, .int v_best, .int v_bestOnes, .int v_made, .ref h0_log, .int v_size, .int v_answer, .int v_looked, .int v_place, .int v_waiting, .ref h0_waitSet, .ref h0_waitOnes, .ref h0_waitDead])), (h0_trail, .inl (cI, 16, .inl v_trail)), (h0_choice, .inl (cZ, 16, .inl v_choice))]) := by
  refine wMet (by decide) (Nat.le_of_ble_eq_true rfl) ?_
  intro p e s m below meth c hx hb hr hlocks hml hown hts hP hK hN hD hS ls hl
  have hl : lv_has ls 4 [(0, .ref h0), (1, .int x1), (2, .int x2), (3, .int x3)] := hl
  have hF := (fX6_lay_eq x1 x2 x3 v_set v_ones v_depth v_trail v_choice).trans (fX6_lay_d.eq_1 x1 x2 x3 v_set v_ones v_depth v_trail v_choice)
  refine lv_aload_n hx hb dX6_lay_0 rfl (lv_at hl 0 rfl) ?_
  refine lv_iload_n hx hb dX6_lay_1 rfl (lv_at hl 1 rfl) ?_
  refine lv_iload_n hx hb dX6_lay_2 rfl (lv_at hl 2 rfl) ?_
  have hPc : va_P D vwCl [(h0, .inr (6, [.int v_thrown, .ref h0_costs, .ref h0_factors, .ref h0_literals, .ref h0_begins, .ref h0_bounds, .int v_constraints, .int v_terms, .int v_begun, .int v_done, .int v_over, .int v_set, .int v_ones, .ref h0_trail, .ref h0_choice, .int v_depth, .int v_searchSet, .int v_searchOnes, .int v_best, .int v_bestOnes, .int v_made, .ref h0_log, .int v_size, .int v_answer, .int v_looked, .int v_place, .int v_waiting, .ref h0_waitSet, .ref h0_waitOnes, .ref h0_waitDead]))] _ := hP.sub [0] rfl
  refine wback (ws' := [(h0, .inr (6, [.int v_thrown, .ref h0_costs, .ref h0_factors, .ref h0_literals, .ref h0_begins, .ref h0_bounds, .int v_constraints, .int v_terms, .int v_begun, .int v_done, .int v_over, .int ((fX6_put x1 x2 v_set v_ones).1), .int ((fX6_put x1 x2 v_set v_ones).2), .ref h0_trail, .ref h0_choice, .int v_depth, .int v_searchSet, .int v_searchOnes, .int v_best, .int v_bestOnes, .int v_made, .ref h0_log, .int v_size, .int v_answer, .int v_looked, .int v_place, .int v_waiting, .ref h0_waitSet, .ref h0_waitOnes, .ref h0_waitDead])), (h0_trail, .inl (cI, 16, .inl v_trail)), (h0_choice, .inl (cZ, 16, .inl v_choice))]) [0] (va_runV (As := [.int x1, .int x2]) (rest := []) ⟨hx, hb, hml, hown, hts⟩ (ctX6_put l D cI cZ h0 h0_costs h0_factors h0_literals h0_begins h0_bounds h0_trail h0_choice h0_log h0_waitSet h0_waitOnes h0_waitDead x1 x2 v_thrown v_constraints v_terms v_begun v_done v_over v_set v_ones v_depth v_searchSet v_searchOnes v_best v_bestOnes v_made v_size v_answer v_looked v_place v_waiting) ⟨(cB hts kw627 kw624 kw58 pmX6_put ⟨Nat.le_of_ble_eq_true rfl, Nat.le_of_ble_eq_true rfl⟩), hts _ kw626, hts _ kw45⟩ ⟨wPc_blind, va_recv hK hP (ci := 6) (q0 := 0) rfl rfl, wpre hPc hK hN (hD.sub (ws' := [(h0, .inr (6, [.int v_thrown, .ref h0_costs, .ref h0_factors, .ref h0_literals, .ref h0_begins, .ref h0_bounds, .int v_constraints, .int v_terms, .int v_begun, .int v_done, .int v_over, .int v_set, .int v_ones, .ref h0_trail, .ref h0_choice, .int v_depth, .int v_searchSet, .int v_searchOnes, .int v_best, .int v_bestOnes, .int v_made, .ref h0_log, .int v_size, .int v_answer, .int v_looked, .int v_place, .int v_waiting, .ref h0_waitSet, .ref h0_waitOnes, .ref h0_waitDead]))]) [0] (by decide) rfl)⟩ rfl rfl hl.1 rfl (lv_room (Nat.le_of_ble_eq_true rfl)) dX6_lay_3 ⟨Nat.zero_le _, Nat.zero_le _⟩) hP hD hS rfl rfl rfl rfl (fun H locs hP hD hS => ?_)
  refine lv_aload_n hx hb dX6_lay_6 rfl (lv_at hl 0 rfl) ?_
  refine va_get (D := D) hx hb hts inX6 hown hK hP 0 rfl rfl 13 (by decide) (hts _ kw486) (fun _ h9 => h9) rfl dX6_lay_7 ?_
  refine lv_aload_n hx hb dX6_lay_10 rfl (lv_at hl 0 rfl) ?_
  refine va_get (D := D) hx hb hts inX6 hown hK hP 0 rfl rfl 15 (by decide) (hts _ kw488) (fun _ h9 => h9) rfl dX6_lay_11 ?_
  refine lv_iload_n hx hb dX6_lay_14 rfl (lv_at hl 1 rfl) ?_
  refine va_iast hx hb hK hP hD hS 1 0 rfl rfl (okN_inS hd (by decide) (by decide)) dX6_lay_15 (fun H locs hP hD hS => ?_)
  have hP : va_P D vwCl [(h0, .inr (6, [.int v_thrown, .ref h0_costs, .ref h0_factors, .ref h0_literals, .ref h0_begins, .ref h0_bounds, .int v_constraints, .int v_terms, .int v_begun, .int v_done, .int v_over, .int ((fX6_put x1 x2 v_set v_ones).1), .int ((fX6_put x1 x2 v_set v_ones).2), .ref h0_trail, .ref h0_choice, .int v_depth, .int v_searchSet, .int v_searchOnes, .int v_best, .int v_bestOnes, .int v_made, .ref h0_log, .int v_size, .int v_answer, .int v_looked, .int v_place, .int v_waiting, .ref h0_waitSet, .ref h0_waitOnes, .ref h0_waitDead])), (h0_trail, .inl (cI, 16, .inl (upd v_trail v_depth.toNatClampNeg x1))), (h0_choice, .inl (cZ, 16, .inl v_choice))] H := hP
  have hD : va_D _ [(h0, .inr (6, [.int v_thrown, .ref h0_costs, .ref h0_factors, .ref h0_literals, .ref h0_begins, .ref h0_bounds, .int v_constraints, .int v_terms, .int v_begun, .int v_done, .int v_over, .int ((fX6_put x1 x2 v_set v_ones).1), .int ((fX6_put x1 x2 v_set v_ones).2), .ref h0_trail, .ref h0_choice, .int v_depth, .int v_searchSet, .int v_searchOnes, .int v_best, .int v_bestOnes, .int v_made, .ref h0_log, .int v_size, .int v_answer, .int v_looked, .int v_place, .int v_waiting, .ref h0_waitSet, .ref h0_waitOnes, .ref h0_waitDead])), (h0_trail, .inl (cI, 16, .inl (upd v_trail v_depth.toNatClampNeg x1))), (h0_choice, .inl (cZ, 16, .inl v_choice))] := hD
  refine lv_aload_n hx hb dX6_lay_16 rfl (lv_at hl 0 rfl) ?_
  refine va_get (D := D) hx hb hts inX6 hown hK hP 0 rfl rfl 14 (by decide) (hts _ kw487) (fun _ h9 => h9) rfl dX6_lay_17 ?_
  refine lv_aload_n hx hb dX6_lay_20 rfl (lv_at hl 0 rfl) ?_
  refine va_get (D := D) hx hb hts inX6 hown hK hP 0 rfl rfl 15 (by decide) (hts _ kw488) (fun _ h9 => h9) rfl dX6_lay_21 ?_
  refine lv_iload_n hx hb dX6_lay_24 rfl (lv_at hl 3 rfl) ?_
  refine va_zast hx hb hK hP hD hS 2 1 rfl rfl (okN_inS hd (by decide) (by decide)) dX6_lay_25 (fun H locs hP hD hS => ?_)
  have hP : va_P D vwCl [(h0, .inr (6, [.int v_thrown, .ref h0_costs, .ref h0_factors, .ref h0_literals, .ref h0_begins, .ref h0_bounds, .int v_constraints, .int v_terms, .int v_begun, .int v_done, .int v_over, .int ((fX6_put x1 x2 v_set v_ones).1), .int ((fX6_put x1 x2 v_set v_ones).2), .ref h0_trail, .ref h0_choice, .int v_depth, .int v_searchSet, .int v_searchOnes, .int v_best, .int v_bestOnes, .int v_made, .ref h0_log, .int v_size, .int v_answer, .int v_looked, .int v_place, .int v_waiting, .ref h0_waitSet, .ref h0_waitOnes, .ref h0_waitDead])), (h0_trail, .inl (cI, 16, .inl (upd v_trail v_depth.toNatClampNeg x1))), (h0_choice, .inl (cZ, 16, .inl (upd v_choice v_depth.toNatClampNeg (vp_nar .boolean x3))))] H := hP
  have hD : va_D _ [(h0, .inr (6, [.int v_thrown, .ref h0_costs, .ref h0_factors, .ref h0_literals, .ref h0_begins, .ref h0_bounds, .int v_constraints, .int v_terms, .int v_begun, .int v_done, .int v_over, .int ((fX6_put x1 x2 v_set v_ones).1), .int ((fX6_put x1 x2 v_set v_ones).2), .ref h0_trail, .ref h0_choice, .int v_depth, .int v_searchSet, .int v_searchOnes, .int v_best, .int v_bestOnes, .int v_made, .ref h0_log, .int v_size, .int v_answer, .int v_looked, .int v_place, .int v_waiting, .ref h0_waitSet, .ref h0_waitOnes, .ref h0_waitDead])), (h0_trail, .inl (cI, 16, .inl (upd v_trail v_depth.toNatClampNeg x1))), (h0_choice, .inl (cZ, 16, .inl (upd v_choice v_depth.toNatClampNeg (vp_nar .boolean x3))))] := hD
  refine lv_aload_n hx hb dX6_lay_26 rfl (lv_at hl 0 rfl) ?_
  refine lv_dup hx hb dX6_lay_27 rfl ?_
  refine va_get (D := D) hx hb hts inX6 hown hK hP 0 rfl rfl 15 (by decide) (hts _ kw488) (fun _ h9 => h9) rfl dX6_lay_28 ?_
  refine lv_iconst (v := 1) hx hb dX6_lay_31 (by decide) ?_
  refine lv_iadd hx hb dX6_lay_32 ?_
  refine va_put (D := D) (v := .int (v_depth + 1)) (ty := .int) hx hb hts inX6 tyX6 tyX6_ok nmX6 hown hK hP hD hS 0 rfl rfl 15 (by decide) (hts _ kw488) (fun _ h9 => h9) rfl (by decide +kernel) rfl rfl (Nat.le_of_ble_eq_true rfl) dX6_lay_33 (fun H locs hP hD hS => ?_)
  have hP : va_P D vwCl [(h0, .inr (6, [.int v_thrown, .ref h0_costs, .ref h0_factors, .ref h0_literals, .ref h0_begins, .ref h0_bounds, .int v_constraints, .int v_terms, .int v_begun, .int v_done, .int v_over, .int ((fX6_put x1 x2 v_set v_ones).1), .int ((fX6_put x1 x2 v_set v_ones).2), .ref h0_trail, .ref h0_choice, .int (v_depth + 1), .int v_searchSet, .int v_searchOnes, .int v_best, .int v_bestOnes, .int v_made, .ref h0_log, .int v_size, .int v_answer, .int v_looked, .int v_place, .int v_waiting, .ref h0_waitSet, .ref h0_waitOnes, .ref h0_waitDead])), (h0_trail, .inl (cI, 16, .inl (upd v_trail v_depth.toNatClampNeg x1))), (h0_choice, .inl (cZ, 16, .inl (upd v_choice v_depth.toNatClampNeg (vp_nar .boolean x3))))] H := hP
  have hD : va_D _ [(h0, .inr (6, [.int v_thrown, .ref h0_costs, .ref h0_factors, .ref h0_literals, .ref h0_begins, .ref h0_bounds, .int v_constraints, .int v_terms, .int v_begun, .int v_done, .int v_over, .int ((fX6_put x1 x2 v_set v_ones).1), .int ((fX6_put x1 x2 v_set v_ones).2), .ref h0_trail, .ref h0_choice, .int (v_depth + 1), .int v_searchSet, .int v_searchOnes, .int v_best, .int v_bestOnes, .int v_made, .ref h0_log, .int v_size, .int v_answer, .int v_looked, .int v_place, .int v_waiting, .ref h0_waitSet, .ref h0_waitOnes, .ref h0_waitDead])), (h0_trail, .inl (cI, 16, .inl (upd v_trail v_depth.toNatClampNeg x1))), (h0_choice, .inl (cZ, 16, .inl (upd v_choice v_depth.toNatClampNeg (vp_nar .boolean x3))))] := hD
  exact wretv hx hb hr hlocks (by rw [hF]; exact hP) hS dX6_lay_36

theorem okN_400 {x : Int32} (h : okN 400 x) (c : ¬ x = 400) : okN 400 (x + 1) := by
  obtain ⟨n, rfl, hn⟩ := h
  refine ⟨n + 1, nI_1 n, ?_⟩
  rcases Nat.lt_or_ge n 400 with h1 | h1
  · omega
  · exact absurd (show nI n = nI 400 by rw [show n = 400 by omega]) c

theorem okL_write {x1 : Int32} {v_over : Int32} {v_size : Int32} {v_log : Nat → Int32} (hL : okN 400 v_size) : okN 400 ((fX6_write x1 v_over v_size v_log).2.2.1) := by
  rw [fX6_write_eq]; unfold fX6_write_d
  split
  · exact hL
  · rename_i c; exact okN_400 hL c
