-- LeastCost$Problem.addTerm
theorem pmX2_addTerm : mFit yX2_addTerm 2 := ⟨by decide +kernel, by decide +kernel, by decide +kernel⟩
noncomputable def fX2_addTerm_d (x1 : Int32) (x2 : Int32) (v_terms : Int32) (v_constraints : Int32) (v_taken : Int32) (v_coefficients : Nat → Int32) (v_literals : Nat → Int32) (v_bits : Nat → Int32) : Int32 × Int32 × Int32 × (Nat → Int32) × (Nat → Int32) × (Nat → Int32) :=
  (if 20 ≤ v_constraints then (0, v_terms, v_taken, v_coefficients, v_literals, v_bits) else (if 120 ≤ v_terms then (0, v_terms, v_taken, v_coefficients, v_literals, v_bits) else (if (v_taken &&& (fX5_bitOf (fX5_variableOf x2))) = 0 then (1, v_terms + 1, v_taken ||| (fX5_bitOf (fX5_variableOf x2)), (upd v_coefficients v_terms.toNatClampNeg x1), (upd v_literals v_terms.toNatClampNeg x2), (upd v_bits v_terms.toNatClampNeg (fX5_bitOf (fX5_variableOf x2)))) else (0, v_terms, v_taken, v_coefficients, v_literals, v_bits))))
theorem fX2_addTerm_ex : ∃ f : Int32 → Int32 → Int32 → Int32 → Int32 → (Nat → Int32) → (Nat → Int32) → (Nat → Int32) → (Int32 × Int32 × Int32 × (Nat → Int32) × (Nat → Int32) × (Nat → Int32)), ∀ (x1 : Int32) (x2 : Int32) (v_terms : Int32) (v_constraints : Int32) (v_taken : Int32) (v_coefficients : Nat → Int32) (v_literals : Nat → Int32) (v_bits : Nat → Int32), f x1 x2 v_terms v_constraints v_taken v_coefficients v_literals v_bits = fX2_addTerm_d x1 x2 v_terms v_constraints v_taken v_coefficients v_literals v_bits := ⟨fX2_addTerm_d, fun _ _ _ _ _ _ _ _ => rfl⟩
noncomputable def fX2_addTerm : Int32 → Int32 → Int32 → Int32 → Int32 → (Nat → Int32) → (Nat → Int32) → (Nat → Int32) → (Int32 × Int32 × Int32 × (Nat → Int32) × (Nat → Int32) × (Nat → Int32)) := Classical.choose fX2_addTerm_ex
theorem fX2_addTerm_eq (x1 : Int32) (x2 : Int32) (v_terms : Int32) (v_constraints : Int32) (v_taken : Int32) (v_coefficients : Nat → Int32) (v_literals : Nat → Int32) (v_bits : Nat → Int32) : fX2_addTerm x1 x2 v_terms v_constraints v_taken v_coefficients v_literals v_bits = fX2_addTerm_d x1 x2 v_terms v_constraints v_taken v_coefficients v_literals v_bits := Classical.choose_spec fX2_addTerm_ex x1 x2 v_terms v_constraints v_taken v_coefficients v_literals v_bits
set_option maxHeartbeats 1000000 in
set_option maxRecDepth 100000 in
theorem ctX2_addTerm (l : Launch) (D : va_G) (cI cZ : ClassId) (h0 h0_costs h0_coefficients h0_literals h0_bits h0_firsts h0_bounds : Nat) (x1 : Int32) (x2 : Int32) (v_terms v_constraints v_taken : Int32) (v_coefficients v_literals v_bits : Nat → Int32) (hT : okN 120 v_terms) : Met l yX2_addTerm (gw yX2_addTerm cX2_addTerm 4 (some .boolean)) { frames := 1, cells := 0, slots := 0, locals := 20 } (wPc D cI cZ [.ref h0, .int x1, .int x2] [(h0, .inr (2, [.ref h0_costs, .ref h0_coefficients, .ref h0_literals, .ref h0_bits, .ref h0_firsts, .ref h0_bounds, .int v_terms, .int v_constraints, .int v_taken])), (h0_coefficients, .inl (cI, 120, .inl v_coefficients)), (h0_literals, .inl (cI, 120, .inl v_literals)), (h0_bits, .inl (cI, 120, .inl v_bits))]) (wQ D (some (.int ((fX2_addTerm x1 x2 v_terms v_constraints v_taken v_coefficients v_literals v_bits).1))) [(h0, .inr (2, [.ref h0_costs, .ref h0_coefficients, .ref h0_literals, .ref h0_bits, .ref h0_firsts, .ref h0_bounds, .int v_terms, .int v_constraints, .int v_taken])), (h0_coefficients, .inl (cI, 120, .inl v_coefficients)), (h0_literals, .inl (cI, 120, .inl v_literals)), (h0_bits, .inl (cI, 120, .inl v_bits))] [(h0, .inr (2, [.ref h0_costs, .ref h0_coefficients, .ref h0_literals, .ref h0_bits, .ref h0_firsts, .ref h0_bounds, .int ((fX2_addTerm x1 x2 v_terms v_constraints v_taken v_coefficients v_literals v_bits).2.1), .int v_constraints, .int ((fX2_addTerm x1 x2 v_terms v_constraints v_taken v_coefficients v_literals v_bits).2.2.1)])), (h0_coefficients, .inl (cI, 120, .inl ((fX2_addTerm x1 x2 v_terms v_constraints v_taken v_coefficients v_literals v_bits).2.2.2.1))), (h0_literals, .inl (cI, 120, .inl ((fX2_addTerm x1 x2 v_terms v_constraints v_taken v_coefficients v_literals v_bits).2.2.2.2.1))), (h0_bits, .inl (cI, 120, .inl ((fX2_addTerm x1 x2 v_terms v_constraints v_taken v_coefficients v_literals v_bits).2.2.2.2.2)))]) 0 0 (aw [(h0, .inr (2, [.ref h0_costs, .ref h0_coefficients, .ref h0_literals, .ref h0_bits, .ref h0_firsts, .ref h0_bounds, .int v_terms, .int v_constraints, .int v_taken])), (h0_coefficients, .inl (cI, 120, .inl v_coefficients)), (h0_literals, .inl (cI, 120, .inl v_literals)), (h0_bits, .inl (cI, 120, .inl v_bits))]) := by
  refine wMet (by decide) (Nat.le_of_ble_eq_true rfl) ?_
  intro p e s m below meth c hx hb hr hlocks hml hown hts hP hK hN hD hS ls hl
  have hl : lv_has ls 4 [(0, .ref h0), (1, .int x1), (2, .int x2)] := hl
  have hF := (fX2_addTerm_eq x1 x2 v_terms v_constraints v_taken v_coefficients v_literals v_bits).trans (fX2_addTerm_d.eq_1 x1 x2 v_terms v_constraints v_taken v_coefficients v_literals v_bits)
  refine lv_iload_n hx hb dX2_addTerm_0 rfl (lv_at hl 2 rfl) ?_
  have hPc : va_P D vwCl [] _ := hP.sub [] rfl
  refine rback (va_runSN (As := [.int x2]) (rest := []) ⟨hx, hb, hml, hown, hts⟩ (ctX5_variableOf l D cI cZ x2) ⟨(cN hts kw261 (hN _ kn19) kw52 pmX5_variableOf ⟨Nat.le_of_ble_eq_true rfl, Nat.le_of_ble_eq_true rfl⟩), hts _ kw260, trivial⟩ ⟨rPc_blind, rpre hPc hK hN⟩ rfl rfl hl.1 rfl (lv_room (Nat.le_of_ble_eq_true rfl)) dX2_addTerm_1 ⟨Nat.zero_le _, Nat.zero_le _⟩) ?_
  have hPc : va_P D vwCl [] _ := hP.sub [] rfl
  refine rback (va_runSN (As := [.int (fX5_variableOf x2)]) (rest := []) ⟨hx, hb, hml, hown, hts⟩ (ctX5_bitOf l D cI cZ (fX5_variableOf x2)) ⟨(cN hts kw269 (hN _ kn20) kw52 pmX5_bitOf ⟨Nat.le_of_ble_eq_true rfl, Nat.le_of_ble_eq_true rfl⟩), hts _ kw268, trivial⟩ ⟨rPc_blind, rpre hPc hK hN⟩ rfl rfl hl.1 rfl (lv_room (Nat.le_of_ble_eq_true rfl)) dX2_addTerm_4 ⟨Nat.zero_le _, Nat.zero_le _⟩) ?_
  refine lv_istore_n (lv' := [(3, .int (fX5_bitOf (fX5_variableOf x2))), (0, .ref h0), (1, .int x1), (2, .int x2)]) hx hb dX2_addTerm_7 rfl hl (by decide) rfl (fun ls hl => ?_)
  refine lv_aload_n hx hb dX2_addTerm_8 rfl (lv_at hl 1 rfl) ?_
  refine va_get (D := D) hx hb hts inX2 hown hK hP 0 rfl rfl 7 (by decide) (hts _ kw81) (fun _ h9 => h9) rfl dX2_addTerm_9 ?_
  refine lv_bipush (v := 20) hx hb dX2_addTerm_12 (by decide) ?_
  refine lv_icmp_ge (tgt := 35) hx hb dX2_addTerm_14 (by decide) (fun c_1 => ?_) (fun c_1 => ?_)
  · have hF := hF.trans (if_pos c_1)
    refine lv_iconst (v := 0) hx hb dX2_addTerm_35 (by decide) ?_
    exact wretz hx hb hr hlocks (Or.inl rfl) (by rw [hF]) (by rw [hF]; exact hP) hS dX2_addTerm_36
  · have hF := hF.trans (if_neg c_1)
    refine lv_aload_n hx hb dX2_addTerm_17 rfl (lv_at hl 1 rfl) ?_
    refine va_get (D := D) hx hb hts inX2 hown hK hP 0 rfl rfl 6 (by decide) (hts _ kw80) (fun _ h9 => h9) rfl dX2_addTerm_18 ?_
    refine lv_bipush (v := 120) hx hb dX2_addTerm_21 (by decide) ?_
    refine lv_icmp_ge (tgt := 35) hx hb dX2_addTerm_23 (by decide) (fun c_2 => ?_) (fun c_2 => ?_)
    · have hF := hF.trans (if_pos c_2)
      refine lv_iconst (v := 0) hx hb dX2_addTerm_35 (by decide) ?_
      exact wretz hx hb hr hlocks (Or.inl rfl) (by rw [hF]) (by rw [hF]; exact hP) hS dX2_addTerm_36
    · have hF := hF.trans (if_neg c_2)
      refine lv_aload_n hx hb dX2_addTerm_26 rfl (lv_at hl 1 rfl) ?_
      refine va_get (D := D) hx hb hts inX2 hown hK hP 0 rfl rfl 8 (by decide) (hts _ kw82) (fun _ h9 => h9) rfl dX2_addTerm_27 ?_
      refine lv_iload_n hx hb dX2_addTerm_30 rfl (lv_at hl 0 rfl) ?_
      refine lv_iand hx hb dX2_addTerm_31 ?_
      refine lv_if_eq (tgt := 37) hx hb dX2_addTerm_32 (by decide) (fun c_3 => ?_) (fun c_3 => ?_)
      · have hF := hF.trans (if_pos c_3)
        refine lv_aload_n hx hb dX2_addTerm_37 rfl (lv_at hl 1 rfl) ?_
        refine va_get (D := D) hx hb hts inX2 hown hK hP 0 rfl rfl 1 (by decide) (hts _ kw75) (fun _ h9 => h9) rfl dX2_addTerm_38 ?_
        refine lv_aload_n hx hb dX2_addTerm_41 rfl (lv_at hl 1 rfl) ?_
        refine va_get (D := D) hx hb hts inX2 hown hK hP 0 rfl rfl 6 (by decide) (hts _ kw80) (fun _ h9 => h9) rfl dX2_addTerm_42 ?_
        refine lv_iload_n hx hb dX2_addTerm_45 rfl (lv_at hl 2 rfl) ?_
        refine va_iast hx hb hK hP hD hS 1 0 rfl rfl (okN_in hT (by decide) (k_lt_of c_2)) dX2_addTerm_46 (fun H locs hP hD hS => ?_)
        have hP : va_P D vwCl [(h0, .inr (2, [.ref h0_costs, .ref h0_coefficients, .ref h0_literals, .ref h0_bits, .ref h0_firsts, .ref h0_bounds, .int v_terms, .int v_constraints, .int v_taken])), (h0_coefficients, .inl (cI, 120, .inl (upd v_coefficients v_terms.toNatClampNeg x1))), (h0_literals, .inl (cI, 120, .inl v_literals)), (h0_bits, .inl (cI, 120, .inl v_bits))] H := hP
        have hD : va_D _ [(h0, .inr (2, [.ref h0_costs, .ref h0_coefficients, .ref h0_literals, .ref h0_bits, .ref h0_firsts, .ref h0_bounds, .int v_terms, .int v_constraints, .int v_taken])), (h0_coefficients, .inl (cI, 120, .inl (upd v_coefficients v_terms.toNatClampNeg x1))), (h0_literals, .inl (cI, 120, .inl v_literals)), (h0_bits, .inl (cI, 120, .inl v_bits))] := hD
        refine lv_aload_n hx hb dX2_addTerm_47 rfl (lv_at hl 1 rfl) ?_
        refine va_get (D := D) hx hb hts inX2 hown hK hP 0 rfl rfl 2 (by decide) (hts _ kw76) (fun _ h9 => h9) rfl dX2_addTerm_48 ?_
        refine lv_aload_n hx hb dX2_addTerm_51 rfl (lv_at hl 1 rfl) ?_
        refine va_get (D := D) hx hb hts inX2 hown hK hP 0 rfl rfl 6 (by decide) (hts _ kw80) (fun _ h9 => h9) rfl dX2_addTerm_52 ?_
        refine lv_iload_n hx hb dX2_addTerm_55 rfl (lv_at hl 3 rfl) ?_
        refine va_iast hx hb hK hP hD hS 2 0 rfl rfl (okN_in hT (by decide) (k_lt_of c_2)) dX2_addTerm_56 (fun H locs hP hD hS => ?_)
        have hP : va_P D vwCl [(h0, .inr (2, [.ref h0_costs, .ref h0_coefficients, .ref h0_literals, .ref h0_bits, .ref h0_firsts, .ref h0_bounds, .int v_terms, .int v_constraints, .int v_taken])), (h0_coefficients, .inl (cI, 120, .inl (upd v_coefficients v_terms.toNatClampNeg x1))), (h0_literals, .inl (cI, 120, .inl (upd v_literals v_terms.toNatClampNeg x2))), (h0_bits, .inl (cI, 120, .inl v_bits))] H := hP
        have hD : va_D _ [(h0, .inr (2, [.ref h0_costs, .ref h0_coefficients, .ref h0_literals, .ref h0_bits, .ref h0_firsts, .ref h0_bounds, .int v_terms, .int v_constraints, .int v_taken])), (h0_coefficients, .inl (cI, 120, .inl (upd v_coefficients v_terms.toNatClampNeg x1))), (h0_literals, .inl (cI, 120, .inl (upd v_literals v_terms.toNatClampNeg x2))), (h0_bits, .inl (cI, 120, .inl v_bits))] := hD
        refine lv_aload_n hx hb dX2_addTerm_57 rfl (lv_at hl 1 rfl) ?_
        refine va_get (D := D) hx hb hts inX2 hown hK hP 0 rfl rfl 3 (by decide) (hts _ kw77) (fun _ h9 => h9) rfl dX2_addTerm_58 ?_
        refine lv_aload_n hx hb dX2_addTerm_61 rfl (lv_at hl 1 rfl) ?_
        refine va_get (D := D) hx hb hts inX2 hown hK hP 0 rfl rfl 6 (by decide) (hts _ kw80) (fun _ h9 => h9) rfl dX2_addTerm_62 ?_
        refine lv_iload_n hx hb dX2_addTerm_65 rfl (lv_at hl 0 rfl) ?_
        refine va_iast hx hb hK hP hD hS 3 0 rfl rfl (okN_in hT (by decide) (k_lt_of c_2)) dX2_addTerm_66 (fun H locs hP hD hS => ?_)
        have hP : va_P D vwCl [(h0, .inr (2, [.ref h0_costs, .ref h0_coefficients, .ref h0_literals, .ref h0_bits, .ref h0_firsts, .ref h0_bounds, .int v_terms, .int v_constraints, .int v_taken])), (h0_coefficients, .inl (cI, 120, .inl (upd v_coefficients v_terms.toNatClampNeg x1))), (h0_literals, .inl (cI, 120, .inl (upd v_literals v_terms.toNatClampNeg x2))), (h0_bits, .inl (cI, 120, .inl (upd v_bits v_terms.toNatClampNeg (fX5_bitOf (fX5_variableOf x2)))))] H := hP
        have hD : va_D _ [(h0, .inr (2, [.ref h0_costs, .ref h0_coefficients, .ref h0_literals, .ref h0_bits, .ref h0_firsts, .ref h0_bounds, .int v_terms, .int v_constraints, .int v_taken])), (h0_coefficients, .inl (cI, 120, .inl (upd v_coefficients v_terms.toNatClampNeg x1))), (h0_literals, .inl (cI, 120, .inl (upd v_literals v_terms.toNatClampNeg x2))), (h0_bits, .inl (cI, 120, .inl (upd v_bits v_terms.toNatClampNeg (fX5_bitOf (fX5_variableOf x2)))))] := hD
        refine lv_aload_n hx hb dX2_addTerm_67 rfl (lv_at hl 1 rfl) ?_
        refine lv_dup hx hb dX2_addTerm_68 rfl ?_
        refine va_get (D := D) hx hb hts inX2 hown hK hP 0 rfl rfl 6 (by decide) (hts _ kw80) (fun _ h9 => h9) rfl dX2_addTerm_69 ?_
        refine lv_iconst (v := 1) hx hb dX2_addTerm_72 (by decide) ?_
        refine lv_iadd hx hb dX2_addTerm_73 ?_
        refine va_put (D := D) (v := .int (v_terms + 1)) (ty := .int) hx hb hts inX2 tyX2 tyX2_ok nmX2 hown hK hP hD hS 0 rfl rfl 6 (by decide) (hts _ kw80) (fun _ h9 => h9) rfl (by decide +kernel) rfl rfl (Nat.le_of_ble_eq_true rfl) dX2_addTerm_74 (fun H locs hP hD hS => ?_)
        have hP : va_P D vwCl [(h0, .inr (2, [.ref h0_costs, .ref h0_coefficients, .ref h0_literals, .ref h0_bits, .ref h0_firsts, .ref h0_bounds, .int (v_terms + 1), .int v_constraints, .int v_taken])), (h0_coefficients, .inl (cI, 120, .inl (upd v_coefficients v_terms.toNatClampNeg x1))), (h0_literals, .inl (cI, 120, .inl (upd v_literals v_terms.toNatClampNeg x2))), (h0_bits, .inl (cI, 120, .inl (upd v_bits v_terms.toNatClampNeg (fX5_bitOf (fX5_variableOf x2)))))] H := hP
        have hD : va_D _ [(h0, .inr (2, [.ref h0_costs, .ref h0_coefficients, .ref h0_literals, .ref h0_bits, .ref h0_firsts, .ref h0_bounds, .int (v_terms + 1), .int v_constraints, .int v_taken])), (h0_coefficients, .inl (cI, 120, .inl (upd v_coefficients v_terms.toNatClampNeg x1))), (h0_literals, .inl (cI, 120, .inl (upd v_literals v_terms.toNatClampNeg x2))), (h0_bits, .inl (cI, 120, .inl (upd v_bits v_terms.toNatClampNeg (fX5_bitOf (fX5_variableOf x2)))))] := hD
        refine lv_aload_n hx hb dX2_addTerm_77 rfl (lv_at hl 1 rfl) ?_
        refine lv_dup hx hb dX2_addTerm_78 rfl ?_
        refine va_get (D := D) hx hb hts inX2 hown hK hP 0 rfl rfl 8 (by decide) (hts _ kw82) (fun _ h9 => h9) rfl dX2_addTerm_79 ?_
        refine lv_iload_n hx hb dX2_addTerm_82 rfl (lv_at hl 0 rfl) ?_
        refine lv_ior hx hb dX2_addTerm_83 ?_
        refine va_put (D := D) (v := .int (v_taken ||| (fX5_bitOf (fX5_variableOf x2)))) (ty := .int) hx hb hts inX2 tyX2 tyX2_ok nmX2 hown hK hP hD hS 0 rfl rfl 8 (by decide) (hts _ kw82) (fun _ h9 => h9) rfl (by decide +kernel) rfl rfl (Nat.le_of_ble_eq_true rfl) dX2_addTerm_84 (fun H locs hP hD hS => ?_)
        have hP : va_P D vwCl [(h0, .inr (2, [.ref h0_costs, .ref h0_coefficients, .ref h0_literals, .ref h0_bits, .ref h0_firsts, .ref h0_bounds, .int (v_terms + 1), .int v_constraints, .int (v_taken ||| (fX5_bitOf (fX5_variableOf x2)))])), (h0_coefficients, .inl (cI, 120, .inl (upd v_coefficients v_terms.toNatClampNeg x1))), (h0_literals, .inl (cI, 120, .inl (upd v_literals v_terms.toNatClampNeg x2))), (h0_bits, .inl (cI, 120, .inl (upd v_bits v_terms.toNatClampNeg (fX5_bitOf (fX5_variableOf x2)))))] H := hP
        have hD : va_D _ [(h0, .inr (2, [.ref h0_costs, .ref h0_coefficients, .ref h0_literals, .ref h0_bits, .ref h0_firsts, .ref h0_bounds, .int (v_terms + 1), .int v_constraints, .int (v_taken ||| (fX5_bitOf (fX5_variableOf x2)))])), (h0_coefficients, .inl (cI, 120, .inl (upd v_coefficients v_terms.toNatClampNeg x1))), (h0_literals, .inl (cI, 120, .inl (upd v_literals v_terms.toNatClampNeg x2))), (h0_bits, .inl (cI, 120, .inl (upd v_bits v_terms.toNatClampNeg (fX5_bitOf (fX5_variableOf x2)))))] := hD
        refine lv_iconst (v := 1) hx hb dX2_addTerm_87 (by decide) ?_
        exact wretz hx hb hr hlocks (Or.inr rfl) (by rw [hF]) (by rw [hF]; exact hP) hS dX2_addTerm_88
      · have hF := hF.trans (if_neg c_3)
        refine lv_iconst (v := 0) hx hb dX2_addTerm_35 (by decide) ?_
        exact wretz hx hb hr hlocks (Or.inl rfl) (by rw [hF]) (by rw [hF]; exact hP) hS dX2_addTerm_36

-- LeastCost$Problem.makeConstraint
theorem pmX2_makeConstraint : mFit yX2_makeConstraint 1 := ⟨by decide +kernel, by decide +kernel, by decide +kernel⟩
noncomputable def fX2_makeConstraint_d (x1 : Int32) (v_terms : Int32) (v_constraints : Int32) (v_taken : Int32) (v_firsts : Nat → Int32) (v_bounds : Nat → Int32) : Int32 × Int32 × Int32 × (Nat → Int32) × (Nat → Int32) :=
  (if v_constraints < 20 then (v_constraints, v_constraints + 1, 0, (upd v_firsts (v_constraints + 1).toNatClampNeg v_terms), (upd v_bounds v_constraints.toNatClampNeg x1)) else ((-1), v_constraints, v_taken, v_firsts, v_bounds))
theorem fX2_makeConstraint_ex : ∃ f : Int32 → Int32 → Int32 → Int32 → (Nat → Int32) → (Nat → Int32) → (Int32 × Int32 × Int32 × (Nat → Int32) × (Nat → Int32)), ∀ (x1 : Int32) (v_terms : Int32) (v_constraints : Int32) (v_taken : Int32) (v_firsts : Nat → Int32) (v_bounds : Nat → Int32), f x1 v_terms v_constraints v_taken v_firsts v_bounds = fX2_makeConstraint_d x1 v_terms v_constraints v_taken v_firsts v_bounds := ⟨fX2_makeConstraint_d, fun _ _ _ _ _ _ => rfl⟩
noncomputable def fX2_makeConstraint : Int32 → Int32 → Int32 → Int32 → (Nat → Int32) → (Nat → Int32) → (Int32 × Int32 × Int32 × (Nat → Int32) × (Nat → Int32)) := Classical.choose fX2_makeConstraint_ex
theorem fX2_makeConstraint_eq (x1 : Int32) (v_terms : Int32) (v_constraints : Int32) (v_taken : Int32) (v_firsts : Nat → Int32) (v_bounds : Nat → Int32) : fX2_makeConstraint x1 v_terms v_constraints v_taken v_firsts v_bounds = fX2_makeConstraint_d x1 v_terms v_constraints v_taken v_firsts v_bounds := Classical.choose_spec fX2_makeConstraint_ex x1 v_terms v_constraints v_taken v_firsts v_bounds
set_option maxHeartbeats 1000000 in
set_option maxRecDepth 100000 in
theorem ctX2_makeConstraint (l : Launch) (D : va_G) (cI cZ : ClassId) (h0 h0_costs h0_coefficients h0_literals h0_bits h0_firsts h0_bounds : Nat) (x1 : Int32) (v_terms v_constraints v_taken : Int32) (v_firsts v_bounds : Nat → Int32) (hCn : okN 20 v_constraints) : Met l yX2_makeConstraint (gw yX2_makeConstraint cX2_makeConstraint 3 (some .int)) { frames := 0, cells := 0, slots := 0, locals := 0 } (wPc D cI cZ [.ref h0, .int x1] [(h0, .inr (2, [.ref h0_costs, .ref h0_coefficients, .ref h0_literals, .ref h0_bits, .ref h0_firsts, .ref h0_bounds, .int v_terms, .int v_constraints, .int v_taken])), (h0_firsts, .inl (cI, 21, .inl v_firsts)), (h0_bounds, .inl (cI, 20, .inl v_bounds))]) (wQ D (some (.int ((fX2_makeConstraint x1 v_terms v_constraints v_taken v_firsts v_bounds).1))) [(h0, .inr (2, [.ref h0_costs, .ref h0_coefficients, .ref h0_literals, .ref h0_bits, .ref h0_firsts, .ref h0_bounds, .int v_terms, .int v_constraints, .int v_taken])), (h0_firsts, .inl (cI, 21, .inl v_firsts)), (h0_bounds, .inl (cI, 20, .inl v_bounds))] [(h0, .inr (2, [.ref h0_costs, .ref h0_coefficients, .ref h0_literals, .ref h0_bits, .ref h0_firsts, .ref h0_bounds, .int v_terms, .int ((fX2_makeConstraint x1 v_terms v_constraints v_taken v_firsts v_bounds).2.1), .int ((fX2_makeConstraint x1 v_terms v_constraints v_taken v_firsts v_bounds).2.2.1)])), (h0_firsts, .inl (cI, 21, .inl ((fX2_makeConstraint x1 v_terms v_constraints v_taken v_firsts v_bounds).2.2.2.1))), (h0_bounds, .inl (cI, 20, .inl ((fX2_makeConstraint x1 v_terms v_constraints v_taken v_firsts v_bounds).2.2.2.2)))]) 0 0 (aw [(h0, .inr (2, [.ref h0_costs, .ref h0_coefficients, .ref h0_literals, .ref h0_bits, .ref h0_firsts, .ref h0_bounds, .int v_terms, .int v_constraints, .int v_taken])), (h0_firsts, .inl (cI, 21, .inl v_firsts)), (h0_bounds, .inl (cI, 20, .inl v_bounds))]) := by
  refine wMet (by decide) (Nat.le_of_ble_eq_true rfl) ?_
  intro p e s m below meth c hx hb hr hlocks hml hown hts hP hK hN hD hS ls hl
  have hl : lv_has ls 3 [(0, .ref h0), (1, .int x1)] := hl
  have hF := (fX2_makeConstraint_eq x1 v_terms v_constraints v_taken v_firsts v_bounds).trans (fX2_makeConstraint_d.eq_1 x1 v_terms v_constraints v_taken v_firsts v_bounds)
  refine lv_aload_n hx hb dX2_makeConstraint_0 rfl (lv_at hl 0 rfl) ?_
  refine va_get (D := D) hx hb hts inX2 hown hK hP 0 rfl rfl 7 (by decide) (hts _ kw81) (fun _ h9 => h9) rfl dX2_makeConstraint_1 ?_
  refine lv_bipush (v := 20) hx hb dX2_makeConstraint_4 (by decide) ?_
  refine lv_icmp_lt (tgt := 11) hx hb dX2_makeConstraint_6 (by decide) (fun c_1 => ?_) (fun c_1 => ?_)
  · have hF := hF.trans (if_pos c_1)
    refine lv_aload_n hx hb dX2_makeConstraint_11 rfl (lv_at hl 0 rfl) ?_
    refine va_get (D := D) hx hb hts inX2 hown hK hP 0 rfl rfl 7 (by decide) (hts _ kw81) (fun _ h9 => h9) rfl dX2_makeConstraint_12 ?_
    refine lv_istore_n (lv' := [(2, .int v_constraints), (0, .ref h0), (1, .int x1)]) hx hb dX2_makeConstraint_15 rfl hl (by decide) rfl (fun ls hl => ?_)
    refine lv_aload_n hx hb dX2_makeConstraint_16 rfl (lv_at hl 1 rfl) ?_
    refine va_get (D := D) hx hb hts inX2 hown hK hP 0 rfl rfl 5 (by decide) (hts _ kw79) (fun _ h9 => h9) rfl dX2_makeConstraint_17 ?_
    refine lv_iload_n hx hb dX2_makeConstraint_20 rfl (lv_at hl 0 rfl) ?_
    refine lv_iload_n hx hb dX2_makeConstraint_21 rfl (lv_at hl 2 rfl) ?_
    refine va_iast hx hb hK hP hD hS 2 0 rfl rfl (okN_in hCn (by decide) c_1) dX2_makeConstraint_22 (fun H locs hP hD hS => ?_)
    have hP : va_P D vwCl [(h0, .inr (2, [.ref h0_costs, .ref h0_coefficients, .ref h0_literals, .ref h0_bits, .ref h0_firsts, .ref h0_bounds, .int v_terms, .int v_constraints, .int v_taken])), (h0_firsts, .inl (cI, 21, .inl v_firsts)), (h0_bounds, .inl (cI, 20, .inl (upd v_bounds v_constraints.toNatClampNeg x1)))] H := hP
    have hD : va_D _ [(h0, .inr (2, [.ref h0_costs, .ref h0_coefficients, .ref h0_literals, .ref h0_bits, .ref h0_firsts, .ref h0_bounds, .int v_terms, .int v_constraints, .int v_taken])), (h0_firsts, .inl (cI, 21, .inl v_firsts)), (h0_bounds, .inl (cI, 20, .inl (upd v_bounds v_constraints.toNatClampNeg x1)))] := hD
    refine lv_aload_n hx hb dX2_makeConstraint_23 rfl (lv_at hl 1 rfl) ?_
    refine lv_dup hx hb dX2_makeConstraint_24 rfl ?_
    refine va_get (D := D) hx hb hts inX2 hown hK hP 0 rfl rfl 7 (by decide) (hts _ kw81) (fun _ h9 => h9) rfl dX2_makeConstraint_25 ?_
    refine lv_iconst (v := 1) hx hb dX2_makeConstraint_28 (by decide) ?_
    refine lv_iadd hx hb dX2_makeConstraint_29 ?_
    refine va_put (D := D) (v := .int (v_constraints + 1)) (ty := .int) hx hb hts inX2 tyX2 tyX2_ok nmX2 hown hK hP hD hS 0 rfl rfl 7 (by decide) (hts _ kw81) (fun _ h9 => h9) rfl (by decide +kernel) rfl rfl (Nat.le_of_ble_eq_true rfl) dX2_makeConstraint_30 (fun H locs hP hD hS => ?_)
    have hP : va_P D vwCl [(h0, .inr (2, [.ref h0_costs, .ref h0_coefficients, .ref h0_literals, .ref h0_bits, .ref h0_firsts, .ref h0_bounds, .int v_terms, .int (v_constraints + 1), .int v_taken])), (h0_firsts, .inl (cI, 21, .inl v_firsts)), (h0_bounds, .inl (cI, 20, .inl (upd v_bounds v_constraints.toNatClampNeg x1)))] H := hP
    have hD : va_D _ [(h0, .inr (2, [.ref h0_costs, .ref h0_coefficients, .ref h0_literals, .ref h0_bits, .ref h0_firsts, .ref h0_bounds, .int v_terms, .int (v_constraints + 1), .int v_taken])), (h0_firsts, .inl (cI, 21, .inl v_firsts)), (h0_bounds, .inl (cI, 20, .inl (upd v_bounds v_constraints.toNatClampNeg x1)))] := hD
    refine lv_aload_n hx hb dX2_makeConstraint_33 rfl (lv_at hl 1 rfl) ?_
    refine va_get (D := D) hx hb hts inX2 hown hK hP 0 rfl rfl 4 (by decide) (hts _ kw78) (fun _ h9 => h9) rfl dX2_makeConstraint_34 ?_
    refine lv_aload_n hx hb dX2_makeConstraint_37 rfl (lv_at hl 1 rfl) ?_
    refine va_get (D := D) hx hb hts inX2 hown hK hP 0 rfl rfl 7 (by decide) (hts _ kw81) (fun _ h9 => h9) rfl dX2_makeConstraint_38 ?_
    refine lv_aload_n hx hb dX2_makeConstraint_41 rfl (lv_at hl 1 rfl) ?_
    refine va_get (D := D) hx hb hts inX2 hown hK hP 0 rfl rfl 6 (by decide) (hts _ kw80) (fun _ h9 => h9) rfl dX2_makeConstraint_42 ?_
    refine va_iast hx hb hK hP hD hS 1 0 rfl rfl (by obtain ⟨n, en, hn⟩ := hCn; rw [en] at c_1 ⊢; rw [nI_1]; exact vp_in_nI (by have := k_lt (m := 20) (by omega) (by decide) c_1; omega) (by decide)) dX2_makeConstraint_45 (fun H locs hP hD hS => ?_)
    have hP : va_P D vwCl [(h0, .inr (2, [.ref h0_costs, .ref h0_coefficients, .ref h0_literals, .ref h0_bits, .ref h0_firsts, .ref h0_bounds, .int v_terms, .int (v_constraints + 1), .int v_taken])), (h0_firsts, .inl (cI, 21, .inl (upd v_firsts (v_constraints + 1).toNatClampNeg v_terms))), (h0_bounds, .inl (cI, 20, .inl (upd v_bounds v_constraints.toNatClampNeg x1)))] H := hP
    have hD : va_D _ [(h0, .inr (2, [.ref h0_costs, .ref h0_coefficients, .ref h0_literals, .ref h0_bits, .ref h0_firsts, .ref h0_bounds, .int v_terms, .int (v_constraints + 1), .int v_taken])), (h0_firsts, .inl (cI, 21, .inl (upd v_firsts (v_constraints + 1).toNatClampNeg v_terms))), (h0_bounds, .inl (cI, 20, .inl (upd v_bounds v_constraints.toNatClampNeg x1)))] := hD
    refine lv_aload_n hx hb dX2_makeConstraint_46 rfl (lv_at hl 1 rfl) ?_
    refine lv_iconst (v := 0) hx hb dX2_makeConstraint_47 (by decide) ?_
    refine va_put (D := D) (v := .int 0) (ty := .int) hx hb hts inX2 tyX2 tyX2_ok nmX2 hown hK hP hD hS 0 rfl rfl 8 (by decide) (hts _ kw82) (fun _ h9 => h9) rfl (by decide +kernel) rfl rfl (Nat.le_of_ble_eq_true rfl) dX2_makeConstraint_48 (fun H locs hP hD hS => ?_)
    have hP : va_P D vwCl [(h0, .inr (2, [.ref h0_costs, .ref h0_coefficients, .ref h0_literals, .ref h0_bits, .ref h0_firsts, .ref h0_bounds, .int v_terms, .int (v_constraints + 1), .int 0])), (h0_firsts, .inl (cI, 21, .inl (upd v_firsts (v_constraints + 1).toNatClampNeg v_terms))), (h0_bounds, .inl (cI, 20, .inl (upd v_bounds v_constraints.toNatClampNeg x1)))] H := hP
    have hD : va_D _ [(h0, .inr (2, [.ref h0_costs, .ref h0_coefficients, .ref h0_literals, .ref h0_bits, .ref h0_firsts, .ref h0_bounds, .int v_terms, .int (v_constraints + 1), .int 0])), (h0_firsts, .inl (cI, 21, .inl (upd v_firsts (v_constraints + 1).toNatClampNeg v_terms))), (h0_bounds, .inl (cI, 20, .inl (upd v_bounds v_constraints.toNatClampNeg x1)))] := hD
    refine lv_iload_n hx hb dX2_makeConstraint_51 rfl (lv_at hl 0 rfl) ?_
    exact wreti hx hb hr hlocks (by rw [hF]) (by rw [hF]; exact hP) hS dX2_makeConstraint_52
  · have hF := hF.trans (if_neg c_1)
    refine lv_iconst (v := (-1)) hx hb dX2_makeConstraint_9 (by decide) ?_
    exact wreti hx hb hr hlocks (by rw [hF]) (by rw [hF]; exact hP) hS dX2_makeConstraint_10
