-- LeastCost$Problem.costOf
theorem pmX2_costOf : mFit yX2_costOf 1 := ⟨by decide +kernel, by decide +kernel, by decide +kernel⟩
noncomputable def fX2_costOf_L4 (x1 : Int32) (v_costs : Nat → Int32) : Nat → Int32 → Int32 → Int32
  | 0, l2, l3 => 0
  | n + 1, l2, l3 => (if 16 < l3 then l2 else fX2_costOf_L4 x1 v_costs n (l2 + (((x1 >>> ((l3 - 1) &&& 31)) &&& 1) * (v_costs l3.toNatClampNeg))) (l3 + 1))
noncomputable def fX2_costOf_d (x1 : Int32) (v_costs : Nat → Int32) : Int32 :=
  fX2_costOf_L4 x1 v_costs 17 0 1
theorem fX2_costOf_ex : ∃ f : Int32 → (Nat → Int32) → Int32, ∀ (x1 : Int32) (v_costs : Nat → Int32), f x1 v_costs = fX2_costOf_d x1 v_costs := ⟨fX2_costOf_d, fun _ _ => rfl⟩
noncomputable def fX2_costOf : Int32 → (Nat → Int32) → Int32 := Classical.choose fX2_costOf_ex
theorem fX2_costOf_eq (x1 : Int32) (v_costs : Nat → Int32) : fX2_costOf x1 v_costs = fX2_costOf_d x1 v_costs := Classical.choose_spec fX2_costOf_ex x1 v_costs
set_option maxHeartbeats 1000000 in
set_option maxRecDepth 100000 in
theorem ctX2_costOf (l : Launch) (D : va_G) (cI cZ : ClassId) (h0 h0_costs h0_coefficients h0_literals h0_bits h0_firsts h0_bounds : Nat) (x1 : Int32) (v_terms v_constraints v_taken : Int32) (v_costs : Nat → Int32) : Met l yX2_costOf (gw yX2_costOf cX2_costOf 4 (some .int)) { frames := 0, cells := 0, slots := 0, locals := 0 } (rPc D cI cZ [.ref h0, .int x1] [(h0, .inr (2, [.ref h0_costs, .ref h0_coefficients, .ref h0_literals, .ref h0_bits, .ref h0_firsts, .ref h0_bounds, .int v_terms, .int v_constraints, .int v_taken])), (h0_costs, .inl (cI, 17, .inl v_costs))]) (rQ (fX2_costOf x1 v_costs)) 0 0 (fun _ => False) := by
  refine rMet (by decide) (Nat.le_of_ble_eq_true rfl) ?_
  intro p e s m below meth c hx hb hr hlocks hml hown hts hP hK hN ls hl
  have hl : lv_has ls 4 [(0, .ref h0), (1, .int x1)] := hl
  have hF := (fX2_costOf_eq x1 v_costs).trans (fX2_costOf_d.eq_1 x1 v_costs)
  refine lv_iconst (v := 0) hx hb dX2_costOf_0 (by decide) ?_
  refine lv_istore_n (lv' := [(2, .int 0), (0, .ref h0), (1, .int x1)]) hx hb dX2_costOf_1 rfl hl (by decide) rfl (fun ls hl => ?_)
  refine lv_iconst (v := 1) hx hb dX2_costOf_2 (by decide) ?_
  refine lv_istore_n (lv' := [(3, .int 1), (2, .int 0), (0, .ref h0), (1, .int x1)]) hx hb dX2_costOf_3 rfl hl (by decide) rfl (fun ls hl => ?_)
  have loop4 : ∀ (n : Nat) (k : Nat) (l2 : Int32) (l3 : Int32) , (l3 = nI k ∧ 1 ≤ k ∧ k ≤ 17 ∧ 17 < k + n) → fX2_costOf x1 v_costs = fX2_costOf_L4 x1 v_costs n l2 l3 → ∀ ls : Array Slot, lv_has ls 4 [(2, .int l2), (3, .int l3), (0, .ref h0), (1, .int x1)] → W p l e { frames := 0, cells := 0, slots := 0, locals := 0 } s m [.ref h0, .int x1].toArray below meth c s.heap [] 0 0 (MQ below (rQ (fX2_costOf x1 v_costs)) [.ref h0, .int x1].toArray s 0 0 (fun _ => False)) (F0 m 4 ls []) := by
    intro n
    induction n with
    | zero =>
      intro k l2 l3 hk hF
      exact (by obtain ⟨_, _, h2, h3⟩ := hk; exact absurd h3 (by omega))
    | succ n ih =>
      intro k l2 l3 hk hF ls hl
      have hF := hF.trans (fX2_costOf_L4.eq_2 ..)
      obtain ⟨ek, hk1, hk2, hk3⟩ := hk
      refine lv_iload_n hx hb dX2_costOf_4 rfl (lv_at hl 1 rfl) ?_
      refine lv_bipush (v := 16) hx hb dX2_costOf_5 (by decide) ?_
      refine lv_icmp_gt (tgt := 33) hx hb dX2_costOf_7 (by decide) (fun c_1 => ?_) (fun c_1 => ?_)
      · have hF := hF.trans (if_pos c_1)
        refine lv_iload_n hx hb dX2_costOf_33 rfl (lv_at hl 0 rfl) ?_
        exact rreti hx hb hr hlocks hF.symm dX2_costOf_34
      · have hF := hF.trans (if_neg c_1)
        refine lv_iload_n hx hb dX2_costOf_10 rfl (lv_at hl 0 rfl) ?_
        refine lv_iload_n hx hb dX2_costOf_11 rfl (lv_at hl 3 rfl) ?_
        refine lv_iload_n hx hb dX2_costOf_12 rfl (lv_at hl 1 rfl) ?_
        refine lv_iconst (v := 1) hx hb dX2_costOf_13 (by decide) ?_
        refine lv_isub hx hb dX2_costOf_14 ?_
        refine lv_ishr hx hb dX2_costOf_15 ?_
        refine lv_iconst (v := 1) hx hb dX2_costOf_16 (by decide) ?_
        refine lv_iand hx hb dX2_costOf_17 ?_
        refine lv_aload_n hx hb dX2_costOf_18 rfl (lv_at hl 2 rfl) ?_
        refine va_get (D := D) hx hb hts inX2 hown hK hP 0 rfl rfl 0 (by decide) (hts _ kw73) (fun _ h9 => h9) rfl dX2_costOf_19 ?_
        refine lv_iload_n hx hb dX2_costOf_22 rfl (lv_at hl 1 rfl) ?_
        refine va_iald hx hb hK hP 1 0 rfl rfl (k_in ek (by have := k_16 ek hk2 c_1; omega) (by decide)) dX2_costOf_23 ?_
        refine lv_imul hx hb dX2_costOf_24 ?_
        refine lv_iadd hx hb dX2_costOf_25 ?_
        refine lv_istore_n (lv' := [(2, .int (l2 + (((x1 >>> ((l3 - 1) &&& 31)) &&& 1) * (v_costs l3.toNatClampNeg)))), (3, .int l3), (0, .ref h0), (1, .int x1)]) hx hb dX2_costOf_26 rfl hl (by decide) rfl (fun ls hl => ?_)
        refine lv_iinc (v := l3 + 1) (lv' := [(3, .int (l3 + 1)), (2, .int (l2 + (((x1 >>> ((l3 - 1) &&& 31)) &&& 1) * (v_costs l3.toNatClampNeg)))), (0, .ref h0), (1, .int x1)]) hx hb dX2_costOf_27 hl (k := 1) rfl rfl (by decide) rfl (fun ls hl => ?_)
        refine lv_goto (tgt := 4) hx hb dX2_costOf_30 (by decide) ?_
        exact ih (k + 1) (l2 + (((x1 >>> ((l3 - 1) &&& 31)) &&& 1) * (v_costs l3.toNatClampNeg))) (l3 + 1) ⟨k_s ek, by omega, by have := k_16 ek hk2 c_1; omega, by omega⟩ hF ls (lv_sub hl [1, 0, 2, 3] rfl)
  exact loop4 17 1 0 1 ⟨rfl, by omega, by omega, by omega⟩ hF ls (lv_sub hl [1, 0, 2, 3] rfl)

-- LeastCost$Problem.slackOf
theorem pmX2_slackOf : mFit yX2_slackOf 2 := ⟨by decide +kernel, by decide +kernel, by decide +kernel⟩
noncomputable def fX2_slackOf_L10 (x1 : Int32) (v_coefficients : Nat → Int32) (v_literals : Nat → Int32) (v_bits : Nat → Int32) (v_firsts : Nat → Int32) (v_bounds : Nat → Int32) (v2_ones : Int32) (v2_zeros : Int32) : Nat → Int32 → Int32 → Int32
  | 0, l3, l4 => 0
  | n + 1, l3, l4 => (if (v_firsts (x1 + 1).toNatClampNeg) ≤ l4 then l3 - (v_bounds x1.toNatClampNeg) else (if (v_literals l4.toNatClampNeg) ≤ 0 then (if (v2_ones &&& (v_bits l4.toNatClampNeg)) = 0 then fX2_slackOf_L10 x1 v_coefficients v_literals v_bits v_firsts v_bounds v2_ones v2_zeros n (l3 + (v_coefficients l4.toNatClampNeg)) (l4 + 1) else fX2_slackOf_L10 x1 v_coefficients v_literals v_bits v_firsts v_bounds v2_ones v2_zeros n l3 (l4 + 1)) else (if (v2_zeros &&& (v_bits l4.toNatClampNeg)) = 0 then fX2_slackOf_L10 x1 v_coefficients v_literals v_bits v_firsts v_bounds v2_ones v2_zeros n (l3 + (v_coefficients l4.toNatClampNeg)) (l4 + 1) else fX2_slackOf_L10 x1 v_coefficients v_literals v_bits v_firsts v_bounds v2_ones v2_zeros n l3 (l4 + 1))))
noncomputable def fX2_slackOf_d (x1 : Int32) (v_coefficients : Nat → Int32) (v_literals : Nat → Int32) (v_bits : Nat → Int32) (v_firsts : Nat → Int32) (v_bounds : Nat → Int32) (v2_ones : Int32) (v2_zeros : Int32) : Int32 :=
  fX2_slackOf_L10 x1 v_coefficients v_literals v_bits v_firsts v_bounds v2_ones v2_zeros 121 0 (v_firsts x1.toNatClampNeg)
theorem fX2_slackOf_ex : ∃ f : Int32 → (Nat → Int32) → (Nat → Int32) → (Nat → Int32) → (Nat → Int32) → (Nat → Int32) → Int32 → Int32 → Int32, ∀ (x1 : Int32) (v_coefficients : Nat → Int32) (v_literals : Nat → Int32) (v_bits : Nat → Int32) (v_firsts : Nat → Int32) (v_bounds : Nat → Int32) (v2_ones : Int32) (v2_zeros : Int32), f x1 v_coefficients v_literals v_bits v_firsts v_bounds v2_ones v2_zeros = fX2_slackOf_d x1 v_coefficients v_literals v_bits v_firsts v_bounds v2_ones v2_zeros := ⟨fX2_slackOf_d, fun _ _ _ _ _ _ _ _ => rfl⟩
noncomputable def fX2_slackOf : Int32 → (Nat → Int32) → (Nat → Int32) → (Nat → Int32) → (Nat → Int32) → (Nat → Int32) → Int32 → Int32 → Int32 := Classical.choose fX2_slackOf_ex
theorem fX2_slackOf_eq (x1 : Int32) (v_coefficients : Nat → Int32) (v_literals : Nat → Int32) (v_bits : Nat → Int32) (v_firsts : Nat → Int32) (v_bounds : Nat → Int32) (v2_ones : Int32) (v2_zeros : Int32) : fX2_slackOf x1 v_coefficients v_literals v_bits v_firsts v_bounds v2_ones v2_zeros = fX2_slackOf_d x1 v_coefficients v_literals v_bits v_firsts v_bounds v2_ones v2_zeros := Classical.choose_spec fX2_slackOf_ex x1 v_coefficients v_literals v_bits v_firsts v_bounds v2_ones v2_zeros
set_option maxHeartbeats 1000000 in
set_option maxRecDepth 100000 in
theorem ctX2_slackOf (l : Launch) (D : va_G) (cI cZ : ClassId) (h0 h0_costs h0_coefficients h0_literals h0_bits h0_firsts h0_bounds h2 : Nat) (x1 : Int32) (v_terms v_constraints v_taken v2_ones v2_zeros : Int32) (v_coefficients v_literals v_bits v_firsts v_bounds : Nat → Int32) (hC : okC v_firsts x1) : Met l yX2_slackOf (gw yX2_slackOf cX2_slackOf 6 (some .int)) { frames := 0, cells := 0, slots := 0, locals := 0 } (rPc D cI cZ [.ref h0, .int x1, .ref h2] [(h0, .inr (2, [.ref h0_costs, .ref h0_coefficients, .ref h0_literals, .ref h0_bits, .ref h0_firsts, .ref h0_bounds, .int v_terms, .int v_constraints, .int v_taken])), (h0_coefficients, .inl (cI, 120, .inl v_coefficients)), (h0_literals, .inl (cI, 120, .inl v_literals)), (h0_bits, .inl (cI, 120, .inl v_bits)), (h0_firsts, .inl (cI, 21, .inl v_firsts)), (h0_bounds, .inl (cI, 20, .inl v_bounds)), (h2, .inr (4, [.int v2_ones, .int v2_zeros]))]) (rQ (fX2_slackOf x1 v_coefficients v_literals v_bits v_firsts v_bounds v2_ones v2_zeros)) 0 0 (fun _ => False) := by
  refine rMet (by decide) (Nat.le_of_ble_eq_true rfl) ?_
  intro p e s m below meth c hx hb hr hlocks hml hown hts hP hK hN ls hl
  have hl : lv_has ls 6 [(0, .ref h0), (1, .int x1), (2, .ref h2)] := hl
  have hF := (fX2_slackOf_eq x1 v_coefficients v_literals v_bits v_firsts v_bounds v2_ones v2_zeros).trans (fX2_slackOf_d.eq_1 x1 v_coefficients v_literals v_bits v_firsts v_bounds v2_ones v2_zeros)
  obtain ⟨a, b, ea, eb, hab, hb120, i20, i21, i21s⟩ := hC
  refine lv_iconst (v := 0) hx hb dX2_slackOf_0 (by decide) ?_
  refine lv_istore_n (lv' := [(3, .int 0), (0, .ref h0), (1, .int x1), (2, .ref h2)]) hx hb dX2_slackOf_1 rfl hl (by decide) rfl (fun ls hl => ?_)
  refine lv_aload_n hx hb dX2_slackOf_2 rfl (lv_at hl 1 rfl) ?_
  refine va_get (D := D) hx hb hts inX2 hown hK hP 0 rfl rfl 4 (by decide) (hts _ kw78) (fun _ h9 => h9) rfl dX2_slackOf_3 ?_
  refine lv_iload_n hx hb dX2_slackOf_6 rfl (lv_at hl 2 rfl) ?_
  refine va_iald hx hb hK hP 4 0 rfl rfl i21 dX2_slackOf_7 ?_
  refine lv_istore (lv' := [(4, .int (v_firsts x1.toNatClampNeg)), (3, .int 0), (0, .ref h0), (1, .int x1), (2, .ref h2)]) hx hb dX2_slackOf_8 hl (by decide) rfl (fun ls hl => ?_)
  have loop10 : ∀ (n : Nat) (k : Nat) (l3 : Int32) (l4 : Int32) , (l4 = nI k ∧ k ≤ 120 ∧ 120 < k + n) → fX2_slackOf x1 v_coefficients v_literals v_bits v_firsts v_bounds v2_ones v2_zeros = fX2_slackOf_L10 x1 v_coefficients v_literals v_bits v_firsts v_bounds v2_ones v2_zeros n l3 l4 → ∀ ls : Array Slot, lv_has ls 6 [(3, .int l3), (4, .int l4), (0, .ref h0), (1, .int x1), (2, .ref h2)] → W p l e { frames := 0, cells := 0, slots := 0, locals := 0 } s m [.ref h0, .int x1, .ref h2].toArray below meth c s.heap [] 0 0 (MQ below (rQ (fX2_slackOf x1 v_coefficients v_literals v_bits v_firsts v_bounds v2_ones v2_zeros)) [.ref h0, .int x1, .ref h2].toArray s 0 0 (fun _ => False)) (F0 m 10 ls []) := by
    intro n
    induction n with
    | zero =>
      intro k l3 l4 hk hF
      exact (by obtain ⟨_, h2, h3⟩ := hk; exact absurd h3 (by omega))
    | succ n ih =>
      intro k l3 l4 hk hF ls hl
      have hF := hF.trans (fX2_slackOf_L10.eq_2 ..)
      obtain ⟨ek, hk1, hk2⟩ := hk
      refine lv_iload hx hb dX2_slackOf_10 (lv_at hl 1 rfl) ?_
      refine lv_aload_n hx hb dX2_slackOf_12 rfl (lv_at hl 2 rfl) ?_
      refine va_get (D := D) hx hb hts inX2 hown hK hP 0 rfl rfl 4 (by decide) (hts _ kw78) (fun _ h9 => h9) rfl dX2_slackOf_13 ?_
      refine lv_iload_n hx hb dX2_slackOf_16 rfl (lv_at hl 3 rfl) ?_
      refine lv_iconst (v := 1) hx hb dX2_slackOf_17 (by decide) ?_
      refine lv_iadd hx hb dX2_slackOf_18 ?_
      refine va_iald hx hb hK hP 4 0 rfl rfl i21s dX2_slackOf_19 ?_
      refine lv_icmp_ge (tgt := 75) hx hb dX2_slackOf_20 (by decide) (fun c_1 => ?_) (fun c_1 => ?_)
      · have hF := hF.trans (if_pos c_1)
        refine lv_iload_n hx hb dX2_slackOf_75 rfl (lv_at hl 0 rfl) ?_
        refine lv_aload_n hx hb dX2_slackOf_76 rfl (lv_at hl 2 rfl) ?_
        refine va_get (D := D) hx hb hts inX2 hown hK hP 0 rfl rfl 5 (by decide) (hts _ kw79) (fun _ h9 => h9) rfl dX2_slackOf_77 ?_
        refine lv_iload_n hx hb dX2_slackOf_80 rfl (lv_at hl 3 rfl) ?_
        refine va_iald hx hb hK hP 5 0 rfl rfl i20 dX2_slackOf_81 ?_
        refine lv_isub hx hb dX2_slackOf_82 ?_
        exact rreti hx hb hr hlocks hF.symm dX2_slackOf_83
      · have hF := hF.trans (if_neg c_1)
        refine lv_aload_n hx hb dX2_slackOf_23 rfl (lv_at hl 2 rfl) ?_
        refine va_get (D := D) hx hb hts inX2 hown hK hP 0 rfl rfl 2 (by decide) (hts _ kw76) (fun _ h9 => h9) rfl dX2_slackOf_24 ?_
        refine lv_iload hx hb dX2_slackOf_27 (lv_at hl 1 rfl) ?_
        refine va_iald hx hb hK hP 2 0 rfl rfl (k_in ek (by have := okC_lt ek eb hk1 c_1; omega) (by decide)) dX2_slackOf_29 ?_
        refine lv_if_le (tgt := 40) hx hb dX2_slackOf_30 (by decide) (fun c_2 => ?_) (fun c_2 => ?_)
        · have hF := hF.trans (if_pos c_2)
          refine lv_aload_n hx hb dX2_slackOf_40 rfl (lv_at hl 4 rfl) ?_
          refine va_getN (D := D) hx hb hts inX4 hown hK hP 6 rfl rfl 0 (by decide) (va_Nw.use (nwl_tab _ kn7) (hN _ kn7)) (fun _ h9 => h9) rfl dX2_slackOf_41 ?_
          refine lv_istore (lv' := [(5, .int v2_ones), (3, .int l3), (4, .int l4), (0, .ref h0), (1, .int x1), (2, .ref h2)]) hx hb dX2_slackOf_44 hl (by decide) rfl (fun ls hl => ?_)
          refine lv_iload hx hb dX2_slackOf_46 (lv_at hl 0 rfl) ?_
          refine lv_aload_n hx hb dX2_slackOf_48 rfl (lv_at hl 3 rfl) ?_
          refine va_get (D := D) hx hb hts inX2 hown hK hP 0 rfl rfl 3 (by decide) (hts _ kw77) (fun _ h9 => h9) rfl dX2_slackOf_49 ?_
          refine lv_iload hx hb dX2_slackOf_52 (lv_at hl 2 rfl) ?_
          refine va_iald hx hb hK hP 3 0 rfl rfl (k_in ek (by have := okC_lt ek eb hk1 c_1; omega) (by decide)) dX2_slackOf_54 ?_
          refine lv_iand hx hb dX2_slackOf_55 ?_
          refine lv_if_ne (tgt := 69) hx hb dX2_slackOf_56 (by decide) (fun c_3 => ?_) (fun c_3 => ?_)
          · have hF := hF.trans (if_neg c_3)
            refine lv_iinc (v := l4 + 1) (lv' := [(4, .int (l4 + 1)), (5, .int v2_ones), (3, .int l3), (0, .ref h0), (1, .int x1), (2, .ref h2)]) hx hb dX2_slackOf_69 hl (k := 2) rfl rfl (by decide) rfl (fun ls hl => ?_)
            refine lv_goto (tgt := 10) hx hb dX2_slackOf_72 (by decide) ?_
            exact ih (k + 1) l3 (l4 + 1) ⟨k_s ek, by have := okC_lt ek eb hk1 c_1; omega, by omega⟩ hF ls (lv_sub hl [2, 0, 3, 4, 5] rfl)
          · have hF := hF.trans (if_pos c_3)
            refine lv_iload_n hx hb dX2_slackOf_59 rfl (lv_at hl 1 rfl) ?_
            refine lv_aload_n hx hb dX2_slackOf_60 rfl (lv_at hl 3 rfl) ?_
            refine va_get (D := D) hx hb hts inX2 hown hK hP 0 rfl rfl 1 (by decide) (hts _ kw75) (fun _ h9 => h9) rfl dX2_slackOf_61 ?_
            refine lv_iload hx hb dX2_slackOf_64 (lv_at hl 2 rfl) ?_
            refine va_iald hx hb hK hP 1 0 rfl rfl (k_in ek (by have := okC_lt ek eb hk1 c_1; omega) (by decide)) dX2_slackOf_66 ?_
            refine lv_iadd hx hb dX2_slackOf_67 ?_
            refine lv_istore_n (lv' := [(3, .int (l3 + (v_coefficients l4.toNatClampNeg))), (5, .int v2_ones), (4, .int l4), (0, .ref h0), (1, .int x1), (2, .ref h2)]) hx hb dX2_slackOf_68 rfl hl (by decide) rfl (fun ls hl => ?_)
            refine lv_iinc (v := l4 + 1) (lv' := [(4, .int (l4 + 1)), (3, .int (l3 + (v_coefficients l4.toNatClampNeg))), (5, .int v2_ones), (0, .ref h0), (1, .int x1), (2, .ref h2)]) hx hb dX2_slackOf_69 hl (k := 2) rfl rfl (by decide) rfl (fun ls hl => ?_)
            refine lv_goto (tgt := 10) hx hb dX2_slackOf_72 (by decide) ?_
            exact ih (k + 1) (l3 + (v_coefficients l4.toNatClampNeg)) (l4 + 1) ⟨k_s ek, by have := okC_lt ek eb hk1 c_1; omega, by omega⟩ hF ls (lv_sub hl [1, 0, 3, 4, 5] rfl)
        · have hF := hF.trans (if_neg c_2)
          refine lv_aload_n hx hb dX2_slackOf_33 rfl (lv_at hl 4 rfl) ?_
          refine va_getN (D := D) hx hb hts inX4 hown hK hP 6 rfl rfl 1 (by decide) (va_Nw.use (nwl_tab _ kn10) (hN _ kn10)) (fun _ h9 => h9) rfl dX2_slackOf_34 ?_
          refine lv_goto (tgt := 44) hx hb dX2_slackOf_37 (by decide) ?_
          refine lv_istore (lv' := [(5, .int v2_zeros), (3, .int l3), (4, .int l4), (0, .ref h0), (1, .int x1), (2, .ref h2)]) hx hb dX2_slackOf_44 hl (by decide) rfl (fun ls hl => ?_)
          refine lv_iload hx hb dX2_slackOf_46 (lv_at hl 0 rfl) ?_
          refine lv_aload_n hx hb dX2_slackOf_48 rfl (lv_at hl 3 rfl) ?_
          refine va_get (D := D) hx hb hts inX2 hown hK hP 0 rfl rfl 3 (by decide) (hts _ kw77) (fun _ h9 => h9) rfl dX2_slackOf_49 ?_
          refine lv_iload hx hb dX2_slackOf_52 (lv_at hl 2 rfl) ?_
          refine va_iald hx hb hK hP 3 0 rfl rfl (k_in ek (by have := okC_lt ek eb hk1 c_1; omega) (by decide)) dX2_slackOf_54 ?_
          refine lv_iand hx hb dX2_slackOf_55 ?_
          refine lv_if_ne (tgt := 69) hx hb dX2_slackOf_56 (by decide) (fun c_4 => ?_) (fun c_4 => ?_)
          · have hF := hF.trans (if_neg c_4)
            refine lv_iinc (v := l4 + 1) (lv' := [(4, .int (l4 + 1)), (5, .int v2_zeros), (3, .int l3), (0, .ref h0), (1, .int x1), (2, .ref h2)]) hx hb dX2_slackOf_69 hl (k := 2) rfl rfl (by decide) rfl (fun ls hl => ?_)
            refine lv_goto (tgt := 10) hx hb dX2_slackOf_72 (by decide) ?_
            exact ih (k + 1) l3 (l4 + 1) ⟨k_s ek, by have := okC_lt ek eb hk1 c_1; omega, by omega⟩ hF ls (lv_sub hl [2, 0, 3, 4, 5] rfl)
          · have hF := hF.trans (if_pos c_4)
            refine lv_iload_n hx hb dX2_slackOf_59 rfl (lv_at hl 1 rfl) ?_
            refine lv_aload_n hx hb dX2_slackOf_60 rfl (lv_at hl 3 rfl) ?_
            refine va_get (D := D) hx hb hts inX2 hown hK hP 0 rfl rfl 1 (by decide) (hts _ kw75) (fun _ h9 => h9) rfl dX2_slackOf_61 ?_
            refine lv_iload hx hb dX2_slackOf_64 (lv_at hl 2 rfl) ?_
            refine va_iald hx hb hK hP 1 0 rfl rfl (k_in ek (by have := okC_lt ek eb hk1 c_1; omega) (by decide)) dX2_slackOf_66 ?_
            refine lv_iadd hx hb dX2_slackOf_67 ?_
            refine lv_istore_n (lv' := [(3, .int (l3 + (v_coefficients l4.toNatClampNeg))), (5, .int v2_zeros), (4, .int l4), (0, .ref h0), (1, .int x1), (2, .ref h2)]) hx hb dX2_slackOf_68 rfl hl (by decide) rfl (fun ls hl => ?_)
            refine lv_iinc (v := l4 + 1) (lv' := [(4, .int (l4 + 1)), (3, .int (l3 + (v_coefficients l4.toNatClampNeg))), (5, .int v2_zeros), (0, .ref h0), (1, .int x1), (2, .ref h2)]) hx hb dX2_slackOf_69 hl (k := 2) rfl rfl (by decide) rfl (fun ls hl => ?_)
            refine lv_goto (tgt := 10) hx hb dX2_slackOf_72 (by decide) ?_
            exact ih (k + 1) (l3 + (v_coefficients l4.toNatClampNeg)) (l4 + 1) ⟨k_s ek, by have := okC_lt ek eb hk1 c_1; omega, by omega⟩ hF ls (lv_sub hl [1, 0, 3, 4, 5] rfl)
  exact loop10 121 a 0 (v_firsts x1.toNatClampNeg) ⟨ea, by omega, by omega⟩ hF ls (lv_sub hl [1, 0, 2, 3, 4] rfl)

-- LeastCost$Problem.limitSlack
theorem pmX2_limitSlack : mFit yX2_limitSlack 2 := ⟨by decide +kernel, by decide +kernel, by decide +kernel⟩
noncomputable def fX2_limitSlack_d (x2 : Int32) (v_costs : Nat → Int32) (v1_ones : Int32) : Int32 :=
  x2 - (fX2_costOf v1_ones v_costs)
theorem fX2_limitSlack_ex : ∃ f : Int32 → (Nat → Int32) → Int32 → Int32, ∀ (x2 : Int32) (v_costs : Nat → Int32) (v1_ones : Int32), f x2 v_costs v1_ones = fX2_limitSlack_d x2 v_costs v1_ones := ⟨fX2_limitSlack_d, fun _ _ _ => rfl⟩
noncomputable def fX2_limitSlack : Int32 → (Nat → Int32) → Int32 → Int32 := Classical.choose fX2_limitSlack_ex
theorem fX2_limitSlack_eq (x2 : Int32) (v_costs : Nat → Int32) (v1_ones : Int32) : fX2_limitSlack x2 v_costs v1_ones = fX2_limitSlack_d x2 v_costs v1_ones := Classical.choose_spec fX2_limitSlack_ex x2 v_costs v1_ones
set_option maxHeartbeats 1000000 in
set_option maxRecDepth 100000 in
theorem ctX2_limitSlack (l : Launch) (D : va_G) (cI cZ : ClassId) (h0 h0_costs h0_coefficients h0_literals h0_bits h0_firsts h0_bounds h1 : Nat) (x2 : Int32) (v_terms v_constraints v_taken v1_ones v1_zeros : Int32) (v_costs : Nat → Int32) : Met l yX2_limitSlack (gw yX2_limitSlack cX2_limitSlack 3 (some .int)) { frames := 1, cells := 0, slots := 0, locals := 23 } (rPc D cI cZ [.ref h0, .ref h1, .int x2] [(h0, .inr (2, [.ref h0_costs, .ref h0_coefficients, .ref h0_literals, .ref h0_bits, .ref h0_firsts, .ref h0_bounds, .int v_terms, .int v_constraints, .int v_taken])), (h0_costs, .inl (cI, 17, .inl v_costs)), (h1, .inr (4, [.int v1_ones, .int v1_zeros]))]) (rQ (fX2_limitSlack x2 v_costs v1_ones)) 0 0 (fun _ => False) := by
  refine rMet (by decide) (Nat.le_of_ble_eq_true rfl) ?_
  intro p e s m below meth c hx hb hr hlocks hml hown hts hP hK hN ls hl
  have hl : lv_has ls 3 [(0, .ref h0), (1, .ref h1), (2, .int x2)] := hl
  have hF := (fX2_limitSlack_eq x2 v_costs v1_ones).trans (fX2_limitSlack_d.eq_1 x2 v_costs v1_ones)
  refine lv_iload_n hx hb dX2_limitSlack_0 rfl (lv_at hl 2 rfl) ?_
  refine lv_aload_n hx hb dX2_limitSlack_1 rfl (lv_at hl 0 rfl) ?_
  refine lv_aload_n hx hb dX2_limitSlack_2 rfl (lv_at hl 1 rfl) ?_
  refine va_getN (D := D) hx hb hts inX4 hown hK hP 2 rfl rfl 0 (by decide) (va_Nw.use (nwl_tab _ kn7) (hN _ kn7)) (fun _ h9 => h9) rfl dX2_limitSlack_3 ?_
  have hPc : va_P D vwCl [(h0, .inr (2, [.ref h0_costs, .ref h0_coefficients, .ref h0_literals, .ref h0_bits, .ref h0_firsts, .ref h0_bounds, .int v_terms, .int v_constraints, .int v_taken])), (h0_costs, .inl (cI, 17, .inl v_costs))] _ := hP.sub [0, 1] rfl
  refine rback (va_runV (As := [.int v1_ones]) (rest := [.int x2]) ⟨hx, hb, hml, hown, hts⟩ (ctX2_costOf l D cI cZ h0 h0_costs h0_coefficients h0_literals h0_bits h0_firsts h0_bounds v1_ones v_terms v_constraints v_taken v_costs) ⟨(cB hts kw310 kw307 kw53 pmX2_costOf ⟨Nat.le_of_ble_eq_true rfl, Nat.le_of_ble_eq_true rfl⟩), hts _ kw309, hts _ kw7⟩ ⟨rPc_blind, va_recv hK hP (ci := 2) (q0 := 0) rfl rfl, rpre hPc hK hN⟩ rfl rfl hl.1 rfl (lv_room (Nat.le_of_ble_eq_true rfl)) dX2_limitSlack_6 ⟨Nat.zero_le _, Nat.zero_le _⟩) ?_
  refine lv_isub hx hb dX2_limitSlack_9 ?_
  exact rreti hx hb hr hlocks hF.symm dX2_limitSlack_10

-- LeastCost$Problem.isBroken
theorem pmX2_isBroken : mFit yX2_isBroken 2 := ⟨by decide +kernel, by decide +kernel, by decide +kernel⟩
noncomputable def fX2_isBroken_L2 (x2 : Int32) (v_constraints : Int32) (v_costs : Nat → Int32) (v_coefficients : Nat → Int32) (v_literals : Nat → Int32) (v_bits : Nat → Int32) (v_firsts : Nat → Int32) (v_bounds : Nat → Int32) (v1_ones : Int32) (v1_zeros : Int32) : Nat → Int32 → Int32
  | 0, l3 => 0
  | n + 1, l3 => (if v_constraints ≤ l3 then (if 0 ≤ (fX2_limitSlack x2 v_costs v1_ones) then 0 else 1) else (if 0 ≤ (fX2_slackOf l3 v_coefficients v_literals v_bits v_firsts v_bounds v1_ones v1_zeros) then fX2_isBroken_L2 x2 v_constraints v_costs v_coefficients v_literals v_bits v_firsts v_bounds v1_ones v1_zeros n (l3 + 1) else 1))
noncomputable def fX2_isBroken_d (x2 : Int32) (v_constraints : Int32) (v_costs : Nat → Int32) (v_coefficients : Nat → Int32) (v_literals : Nat → Int32) (v_bits : Nat → Int32) (v_firsts : Nat → Int32) (v_bounds : Nat → Int32) (v1_ones : Int32) (v1_zeros : Int32) : Int32 :=
  fX2_isBroken_L2 x2 v_constraints v_costs v_coefficients v_literals v_bits v_firsts v_bounds v1_ones v1_zeros 21 0
theorem fX2_isBroken_ex : ∃ f : Int32 → Int32 → (Nat → Int32) → (Nat → Int32) → (Nat → Int32) → (Nat → Int32) → (Nat → Int32) → (Nat → Int32) → Int32 → Int32 → Int32, ∀ (x2 : Int32) (v_constraints : Int32) (v_costs : Nat → Int32) (v_coefficients : Nat → Int32) (v_literals : Nat → Int32) (v_bits : Nat → Int32) (v_firsts : Nat → Int32) (v_bounds : Nat → Int32) (v1_ones : Int32) (v1_zeros : Int32), f x2 v_constraints v_costs v_coefficients v_literals v_bits v_firsts v_bounds v1_ones v1_zeros = fX2_isBroken_d x2 v_constraints v_costs v_coefficients v_literals v_bits v_firsts v_bounds v1_ones v1_zeros := ⟨fX2_isBroken_d, fun _ _ _ _ _ _ _ _ _ _ => rfl⟩
noncomputable def fX2_isBroken : Int32 → Int32 → (Nat → Int32) → (Nat → Int32) → (Nat → Int32) → (Nat → Int32) → (Nat → Int32) → (Nat → Int32) → Int32 → Int32 → Int32 := Classical.choose fX2_isBroken_ex
theorem fX2_isBroken_eq (x2 : Int32) (v_constraints : Int32) (v_costs : Nat → Int32) (v_coefficients : Nat → Int32) (v_literals : Nat → Int32) (v_bits : Nat → Int32) (v_firsts : Nat → Int32) (v_bounds : Nat → Int32) (v1_ones : Int32) (v1_zeros : Int32) : fX2_isBroken x2 v_constraints v_costs v_coefficients v_literals v_bits v_firsts v_bounds v1_ones v1_zeros = fX2_isBroken_d x2 v_constraints v_costs v_coefficients v_literals v_bits v_firsts v_bounds v1_ones v1_zeros := Classical.choose_spec fX2_isBroken_ex x2 v_constraints v_costs v_coefficients v_literals v_bits v_firsts v_bounds v1_ones v1_zeros
set_option maxHeartbeats 1000000 in
set_option maxRecDepth 100000 in
theorem ctX2_isBroken (l : Launch) (D : va_G) (cI cZ : ClassId) (h0 h0_costs h0_coefficients h0_literals h0_bits h0_firsts h0_bounds h1 : Nat) (x2 : Int32) (v_terms v_constraints v_taken v1_ones v1_zeros : Int32) (v_costs v_coefficients v_literals v_bits v_firsts v_bounds : Nat → Int32) (hO : okP v_firsts v_constraints) : Met l yX2_isBroken (gw yX2_isBroken cX2_isBroken 4 (some .boolean)) { frames := 2, cells := 0, slots := 0, locals := 45 } (rPc D cI cZ [.ref h0, .ref h1, .int x2] [(h0, .inr (2, [.ref h0_costs, .ref h0_coefficients, .ref h0_literals, .ref h0_bits, .ref h0_firsts, .ref h0_bounds, .int v_terms, .int v_constraints, .int v_taken])), (h0_costs, .inl (cI, 17, .inl v_costs)), (h0_coefficients, .inl (cI, 120, .inl v_coefficients)), (h0_literals, .inl (cI, 120, .inl v_literals)), (h0_bits, .inl (cI, 120, .inl v_bits)), (h0_firsts, .inl (cI, 21, .inl v_firsts)), (h0_bounds, .inl (cI, 20, .inl v_bounds)), (h1, .inr (4, [.int v1_ones, .int v1_zeros]))]) (rQ (fX2_isBroken x2 v_constraints v_costs v_coefficients v_literals v_bits v_firsts v_bounds v1_ones v1_zeros)) 0 0 (fun _ => False) := by
  refine rMet (by decide) (Nat.le_of_ble_eq_true rfl) ?_
  intro p e s m below meth c hx hb hr hlocks hml hown hts hP hK hN ls hl
  have hl : lv_has ls 4 [(0, .ref h0), (1, .ref h1), (2, .int x2)] := hl
  have hF := (fX2_isBroken_eq x2 v_constraints v_costs v_coefficients v_literals v_bits v_firsts v_bounds v1_ones v1_zeros).trans (fX2_isBroken_d.eq_1 x2 v_constraints v_costs v_coefficients v_literals v_bits v_firsts v_bounds v1_ones v1_zeros)
  obtain ⟨C, eC, hC20, hall⟩ := hO
  refine lv_iconst (v := 0) hx hb dX2_isBroken_0 (by decide) ?_
  refine lv_istore_n (lv' := [(3, .int 0), (0, .ref h0), (1, .ref h1), (2, .int x2)]) hx hb dX2_isBroken_1 rfl hl (by decide) rfl (fun ls hl => ?_)
  have loop2 : ∀ (n : Nat) (k : Nat) (l3 : Int32) , (l3 = nI k ∧ k ≤ 20 ∧ 20 < k + n) → fX2_isBroken x2 v_constraints v_costs v_coefficients v_literals v_bits v_firsts v_bounds v1_ones v1_zeros = fX2_isBroken_L2 x2 v_constraints v_costs v_coefficients v_literals v_bits v_firsts v_bounds v1_ones v1_zeros n l3 → ∀ ls : Array Slot, lv_has ls 4 [(3, .int l3), (0, .ref h0), (1, .ref h1), (2, .int x2)] → W p l e { frames := 2, cells := 0, slots := 0, locals := 45 } s m [.ref h0, .ref h1, .int x2].toArray below meth c s.heap [] 0 0 (MQ below (rQ (fX2_isBroken x2 v_constraints v_costs v_coefficients v_literals v_bits v_firsts v_bounds v1_ones v1_zeros)) [.ref h0, .ref h1, .int x2].toArray s 0 0 (fun _ => False)) (F0 m 2 ls []) := by
    intro n
    induction n with
    | zero =>
      intro k l3 hk hF
      exact (by obtain ⟨_, h2, h3⟩ := hk; exact absurd h3 (by omega))
    | succ n ih =>
      intro k l3 hk hF ls hl
      have hF := hF.trans (fX2_isBroken_L2.eq_2 ..)
      obtain ⟨ek, hk1, hk2⟩ := hk
      refine lv_iload_n hx hb dX2_isBroken_2 rfl (lv_at hl 0 rfl) ?_
      refine lv_aload_n hx hb dX2_isBroken_3 rfl (lv_at hl 1 rfl) ?_
      refine va_get (D := D) hx hb hts inX2 hown hK hP 0 rfl rfl 7 (by decide) (hts _ kw81) (fun _ h9 => h9) rfl dX2_isBroken_4 ?_
      refine lv_icmp_ge (tgt := 27) hx hb dX2_isBroken_7 (by decide) (fun c_1 => ?_) (fun c_1 => ?_)
      · have hF := hF.trans (if_pos c_1)
        refine lv_aload_n hx hb dX2_isBroken_27 rfl (lv_at hl 1 rfl) ?_
        refine lv_aload_n hx hb dX2_isBroken_28 rfl (lv_at hl 2 rfl) ?_
        refine lv_iload_n hx hb dX2_isBroken_29 rfl (lv_at hl 3 rfl) ?_
        have hPc : va_P D vwCl [(h0, .inr (2, [.ref h0_costs, .ref h0_coefficients, .ref h0_literals, .ref h0_bits, .ref h0_firsts, .ref h0_bounds, .int v_terms, .int v_constraints, .int v_taken])), (h0_costs, .inl (cI, 17, .inl v_costs)), (h1, .inr (4, [.int v1_ones, .int v1_zeros]))] _ := hP.sub [0, 1, 7] rfl
        refine rback (va_runV (As := [.ref h1, .int x2]) (rest := []) ⟨hx, hb, hml, hown, hts⟩ (ctX2_limitSlack l D cI cZ h0 h0_costs h0_coefficients h0_literals h0_bits h0_firsts h0_bounds h1 x2 v_terms v_constraints v_taken v1_ones v1_zeros v_costs) ⟨(cB hts kw306 kw303 kw53 pmX2_limitSlack ⟨Nat.le_of_ble_eq_true rfl, Nat.le_of_ble_eq_true rfl⟩), hts _ kw305, hts _ kw6⟩ ⟨rPc_blind, va_recv hK hP (ci := 2) (q0 := 0) rfl rfl, rpre hPc hK hN⟩ rfl rfl hl.1 rfl (lv_room (Nat.le_of_ble_eq_true rfl)) dX2_isBroken_30 ⟨Nat.zero_le _, Nat.zero_le _⟩) ?_
        refine lv_if_ge (tgt := 40) hx hb dX2_isBroken_33 (by decide) (fun c_2 => ?_) (fun c_2 => ?_)
        · have hF := hF.trans (if_pos c_2)
          refine lv_iconst (v := 0) hx hb dX2_isBroken_40 (by decide) ?_
          exact rretz hx hb hr hlocks (Or.inl rfl) hF.symm dX2_isBroken_41
        · have hF := hF.trans (if_neg c_2)
          refine lv_iconst (v := 1) hx hb dX2_isBroken_36 (by decide) ?_
          refine lv_goto (tgt := 41) hx hb dX2_isBroken_37 (by decide) ?_
          exact rretz hx hb hr hlocks (Or.inr rfl) hF.symm dX2_isBroken_41
      · have hF := hF.trans (if_neg c_1)
        refine lv_aload_n hx hb dX2_isBroken_10 rfl (lv_at hl 1 rfl) ?_
        refine lv_iload_n hx hb dX2_isBroken_11 rfl (lv_at hl 0 rfl) ?_
        refine lv_aload_n hx hb dX2_isBroken_12 rfl (lv_at hl 2 rfl) ?_
        have hPc : va_P D vwCl [(h0, .inr (2, [.ref h0_costs, .ref h0_coefficients, .ref h0_literals, .ref h0_bits, .ref h0_firsts, .ref h0_bounds, .int v_terms, .int v_constraints, .int v_taken])), (h0_coefficients, .inl (cI, 120, .inl v_coefficients)), (h0_literals, .inl (cI, 120, .inl v_literals)), (h0_bits, .inl (cI, 120, .inl v_bits)), (h0_firsts, .inl (cI, 21, .inl v_firsts)), (h0_bounds, .inl (cI, 20, .inl v_bounds)), (h1, .inr (4, [.int v1_ones, .int v1_zeros]))] _ := hP.sub [0, 2, 3, 4, 5, 6, 7] rfl
        refine rback (va_runV (As := [.int l3, .ref h1]) (rest := []) ⟨hx, hb, hml, hown, hts⟩ (ctX2_slackOf l D cI cZ h0 h0_costs h0_coefficients h0_literals h0_bits h0_firsts h0_bounds h1 l3 v_terms v_constraints v_taken v1_ones v1_zeros v_coefficients v_literals v_bits v_firsts v_bounds (by rw [ek]; exact hall k (okC_lt20 ek eC hk1 c_1))) ⟨(cB hts kw302 kw299 kw53 pmX2_slackOf ⟨Nat.le_of_ble_eq_true rfl, Nat.le_of_ble_eq_true rfl⟩), hts _ kw301, hts _ kw5⟩ ⟨rPc_blind, va_recv hK hP (ci := 2) (q0 := 0) rfl rfl, rpre hPc hK hN⟩ rfl rfl hl.1 rfl (lv_room (Nat.le_of_ble_eq_true rfl)) dX2_isBroken_13 ⟨Nat.zero_le _, Nat.zero_le _⟩) ?_
        refine lv_if_ge (tgt := 21) hx hb dX2_isBroken_16 (by decide) (fun c_3 => ?_) (fun c_3 => ?_)
        · have hF := hF.trans (if_pos c_3)
          refine lv_iinc (v := l3 + 1) (lv' := [(3, .int (l3 + 1)), (0, .ref h0), (1, .ref h1), (2, .int x2)]) hx hb dX2_isBroken_21 hl (k := 0) rfl rfl (by decide) rfl (fun ls hl => ?_)
          refine lv_goto (tgt := 2) hx hb dX2_isBroken_24 (by decide) ?_
          exact ih (k + 1) (l3 + 1) ⟨k_s ek, by have := okC_lt20 ek eC hk1 c_1; omega, by omega⟩ hF ls (lv_sub hl [0, 1, 2, 3] rfl)
        · have hF := hF.trans (if_neg c_3)
          refine lv_iconst (v := 1) hx hb dX2_isBroken_19 (by decide) ?_
          exact rretz hx hb hr hlocks (Or.inr rfl) hF.symm dX2_isBroken_20
  exact loop2 21 0 0 ⟨rfl, by omega, by omega⟩ hF ls (lv_sub hl [0, 1, 2, 3] rfl)

-- LeastCost$Problem.forcedBy
theorem pmX2_forcedBy : mFit yX2_forcedBy 2 := ⟨by decide +kernel, by decide +kernel, by decide +kernel⟩
noncomputable def fX2_forcedBy_L26 (x1 : Int32) (v_coefficients : Nat → Int32) (v_literals : Nat → Int32) (v_bits : Nat → Int32) (v_firsts : Nat → Int32) (v_bounds : Nat → Int32) (v2_ones : Int32) (v2_zeros : Int32) : Nat → Int32 → Int32 → Int32 → Int32
  | 0, l3, l4, l5 => 0
  | n + 1, l3, l4, l5 => (if (v_firsts (x1 + 1).toNatClampNeg) ≤ l5 then 0 else (if (v_coefficients l5.toNatClampNeg) ≤ l3 then fX2_forcedBy_L26 x1 v_coefficients v_literals v_bits v_firsts v_bounds v2_ones v2_zeros n l3 l4 (l5 + 1) else (if (l4 &&& (v_bits l5.toNatClampNeg)) = 0 then v_literals l5.toNatClampNeg else fX2_forcedBy_L26 x1 v_coefficients v_literals v_bits v_firsts v_bounds v2_ones v2_zeros n l3 l4 (l5 + 1))))
noncomputable def fX2_forcedBy_d (x1 : Int32) (v_coefficients : Nat → Int32) (v_literals : Nat → Int32) (v_bits : Nat → Int32) (v_firsts : Nat → Int32) (v_bounds : Nat → Int32) (v2_ones : Int32) (v2_zeros : Int32) : Int32 :=
  fX2_forcedBy_L26 x1 v_coefficients v_literals v_bits v_firsts v_bounds v2_ones v2_zeros 121 (fX2_slackOf x1 v_coefficients v_literals v_bits v_firsts v_bounds v2_ones v2_zeros) (v2_ones ||| v2_zeros) (v_firsts x1.toNatClampNeg)
theorem fX2_forcedBy_ex : ∃ f : Int32 → (Nat → Int32) → (Nat → Int32) → (Nat → Int32) → (Nat → Int32) → (Nat → Int32) → Int32 → Int32 → Int32, ∀ (x1 : Int32) (v_coefficients : Nat → Int32) (v_literals : Nat → Int32) (v_bits : Nat → Int32) (v_firsts : Nat → Int32) (v_bounds : Nat → Int32) (v2_ones : Int32) (v2_zeros : Int32), f x1 v_coefficients v_literals v_bits v_firsts v_bounds v2_ones v2_zeros = fX2_forcedBy_d x1 v_coefficients v_literals v_bits v_firsts v_bounds v2_ones v2_zeros := ⟨fX2_forcedBy_d, fun _ _ _ _ _ _ _ _ => rfl⟩
noncomputable def fX2_forcedBy : Int32 → (Nat → Int32) → (Nat → Int32) → (Nat → Int32) → (Nat → Int32) → (Nat → Int32) → Int32 → Int32 → Int32 := Classical.choose fX2_forcedBy_ex
theorem fX2_forcedBy_eq (x1 : Int32) (v_coefficients : Nat → Int32) (v_literals : Nat → Int32) (v_bits : Nat → Int32) (v_firsts : Nat → Int32) (v_bounds : Nat → Int32) (v2_ones : Int32) (v2_zeros : Int32) : fX2_forcedBy x1 v_coefficients v_literals v_bits v_firsts v_bounds v2_ones v2_zeros = fX2_forcedBy_d x1 v_coefficients v_literals v_bits v_firsts v_bounds v2_ones v2_zeros := Classical.choose_spec fX2_forcedBy_ex x1 v_coefficients v_literals v_bits v_firsts v_bounds v2_ones v2_zeros
set_option maxHeartbeats 1000000 in
set_option maxRecDepth 100000 in
theorem ctX2_forcedBy (l : Launch) (D : va_G) (cI cZ : ClassId) (h0 h0_costs h0_coefficients h0_literals h0_bits h0_firsts h0_bounds h2 : Nat) (x1 : Int32) (v_terms v_constraints v_taken v2_ones v2_zeros : Int32) (v_coefficients v_literals v_bits v_firsts v_bounds : Nat → Int32) (hC : okC v_firsts x1) : Met l yX2_forcedBy (gw yX2_forcedBy cX2_forcedBy 6 (some .int)) { frames := 1, cells := 0, slots := 0, locals := 25 } (rPc D cI cZ [.ref h0, .int x1, .ref h2] [(h0, .inr (2, [.ref h0_costs, .ref h0_coefficients, .ref h0_literals, .ref h0_bits, .ref h0_firsts, .ref h0_bounds, .int v_terms, .int v_constraints, .int v_taken])), (h0_coefficients, .inl (cI, 120, .inl v_coefficients)), (h0_literals, .inl (cI, 120, .inl v_literals)), (h0_bits, .inl (cI, 120, .inl v_bits)), (h0_firsts, .inl (cI, 21, .inl v_firsts)), (h0_bounds, .inl (cI, 20, .inl v_bounds)), (h2, .inr (4, [.int v2_ones, .int v2_zeros]))]) (rQ (fX2_forcedBy x1 v_coefficients v_literals v_bits v_firsts v_bounds v2_ones v2_zeros)) 0 0 (fun _ => False) := by
  refine rMet (by decide) (Nat.le_of_ble_eq_true rfl) ?_
  intro p e s m below meth c hx hb hr hlocks hml hown hts hP hK hN ls hl
  have hl : lv_has ls 6 [(0, .ref h0), (1, .int x1), (2, .ref h2)] := hl
  have hF := (fX2_forcedBy_eq x1 v_coefficients v_literals v_bits v_firsts v_bounds v2_ones v2_zeros).trans (fX2_forcedBy_d.eq_1 x1 v_coefficients v_literals v_bits v_firsts v_bounds v2_ones v2_zeros)
  obtain ⟨a, b, ea, eb, hab, hb120, i20, i21, i21s⟩ := hC
  refine lv_aload_n hx hb dX2_forcedBy_0 rfl (lv_at hl 0 rfl) ?_
  refine lv_iload_n hx hb dX2_forcedBy_1 rfl (lv_at hl 1 rfl) ?_
  refine lv_aload_n hx hb dX2_forcedBy_2 rfl (lv_at hl 2 rfl) ?_
  have hPc : va_P D vwCl [(h0, .inr (2, [.ref h0_costs, .ref h0_coefficients, .ref h0_literals, .ref h0_bits, .ref h0_firsts, .ref h0_bounds, .int v_terms, .int v_constraints, .int v_taken])), (h0_coefficients, .inl (cI, 120, .inl v_coefficients)), (h0_literals, .inl (cI, 120, .inl v_literals)), (h0_bits, .inl (cI, 120, .inl v_bits)), (h0_firsts, .inl (cI, 21, .inl v_firsts)), (h0_bounds, .inl (cI, 20, .inl v_bounds)), (h2, .inr (4, [.int v2_ones, .int v2_zeros]))] _ := hP.sub [0, 1, 2, 3, 4, 5, 6] rfl
  refine rback (va_runV (As := [.int x1, .ref h2]) (rest := []) ⟨hx, hb, hml, hown, hts⟩ (ctX2_slackOf l D cI cZ h0 h0_costs h0_coefficients h0_literals h0_bits h0_firsts h0_bounds h2 x1 v_terms v_constraints v_taken v2_ones v2_zeros v_coefficients v_literals v_bits v_firsts v_bounds ⟨a, b, ea, eb, hab, hb120, i20, i21, i21s⟩) ⟨(cB hts kw302 kw299 kw53 pmX2_slackOf ⟨Nat.le_of_ble_eq_true rfl, Nat.le_of_ble_eq_true rfl⟩), hts _ kw301, hts _ kw5⟩ ⟨rPc_blind, va_recv hK hP (ci := 2) (q0 := 0) rfl rfl, rpre hPc hK hN⟩ rfl rfl hl.1 rfl (lv_room (Nat.le_of_ble_eq_true rfl)) dX2_forcedBy_3 ⟨Nat.zero_le _, Nat.zero_le _⟩) ?_
  refine lv_istore_n (lv' := [(3, .int (fX2_slackOf x1 v_coefficients v_literals v_bits v_firsts v_bounds v2_ones v2_zeros)), (0, .ref h0), (1, .int x1), (2, .ref h2)]) hx hb dX2_forcedBy_6 rfl hl (by decide) rfl (fun ls hl => ?_)
  refine lv_aload_n hx hb dX2_forcedBy_7 rfl (lv_at hl 3 rfl) ?_
  refine va_getN (D := D) hx hb hts inX4 hown hK hP 6 rfl rfl 0 (by decide) (va_Nw.use (nwl_tab _ kn7) (hN _ kn7)) (fun _ h9 => h9) rfl dX2_forcedBy_8 ?_
  refine lv_aload_n hx hb dX2_forcedBy_11 rfl (lv_at hl 3 rfl) ?_
  refine va_getN (D := D) hx hb hts inX4 hown hK hP 6 rfl rfl 1 (by decide) (va_Nw.use (nwl_tab _ kn10) (hN _ kn10)) (fun _ h9 => h9) rfl dX2_forcedBy_12 ?_
  refine lv_ior hx hb dX2_forcedBy_15 ?_
  refine lv_istore (lv' := [(4, .int (v2_ones ||| v2_zeros)), (3, .int (fX2_slackOf x1 v_coefficients v_literals v_bits v_firsts v_bounds v2_ones v2_zeros)), (0, .ref h0), (1, .int x1), (2, .ref h2)]) hx hb dX2_forcedBy_16 hl (by decide) rfl (fun ls hl => ?_)
  refine lv_aload_n hx hb dX2_forcedBy_18 rfl (lv_at hl 2 rfl) ?_
  refine va_get (D := D) hx hb hts inX2 hown hK hP 0 rfl rfl 4 (by decide) (hts _ kw78) (fun _ h9 => h9) rfl dX2_forcedBy_19 ?_
  refine lv_iload_n hx hb dX2_forcedBy_22 rfl (lv_at hl 3 rfl) ?_
  refine va_iald hx hb hK hP 4 0 rfl rfl i21 dX2_forcedBy_23 ?_
  refine lv_istore (lv' := [(5, .int (v_firsts x1.toNatClampNeg)), (4, .int (v2_ones ||| v2_zeros)), (3, .int (fX2_slackOf x1 v_coefficients v_literals v_bits v_firsts v_bounds v2_ones v2_zeros)), (0, .ref h0), (1, .int x1), (2, .ref h2)]) hx hb dX2_forcedBy_24 hl (by decide) rfl (fun ls hl => ?_)
  have loop26 : ∀ (n : Nat) (k : Nat) (l3 : Int32) (l4 : Int32) (l5 : Int32) , (l5 = nI k ∧ k ≤ 120 ∧ 120 < k + n) → fX2_forcedBy x1 v_coefficients v_literals v_bits v_firsts v_bounds v2_ones v2_zeros = fX2_forcedBy_L26 x1 v_coefficients v_literals v_bits v_firsts v_bounds v2_ones v2_zeros n l3 l4 l5 → ∀ ls : Array Slot, lv_has ls 6 [(3, .int l3), (4, .int l4), (5, .int l5), (0, .ref h0), (1, .int x1), (2, .ref h2)] → W p l e { frames := 1, cells := 0, slots := 0, locals := 25 } s m [.ref h0, .int x1, .ref h2].toArray below meth c s.heap [] 0 0 (MQ below (rQ (fX2_forcedBy x1 v_coefficients v_literals v_bits v_firsts v_bounds v2_ones v2_zeros)) [.ref h0, .int x1, .ref h2].toArray s 0 0 (fun _ => False)) (F0 m 26 ls []) := by
    intro n
    induction n with
    | zero =>
      intro k l3 l4 l5 hk hF
      exact (by obtain ⟨_, h2, h3⟩ := hk; exact absurd h3 (by omega))
    | succ n ih =>
      intro k l3 l4 l5 hk hF ls hl
      have hF := hF.trans (fX2_forcedBy_L26.eq_2 ..)
      obtain ⟨ek, hk1, hk2⟩ := hk
      refine lv_iload hx hb dX2_forcedBy_26 (lv_at hl 2 rfl) ?_
      refine lv_aload_n hx hb dX2_forcedBy_28 rfl (lv_at hl 3 rfl) ?_
      refine va_get (D := D) hx hb hts inX2 hown hK hP 0 rfl rfl 4 (by decide) (hts _ kw78) (fun _ h9 => h9) rfl dX2_forcedBy_29 ?_
      refine lv_iload_n hx hb dX2_forcedBy_32 rfl (lv_at hl 4 rfl) ?_
      refine lv_iconst (v := 1) hx hb dX2_forcedBy_33 (by decide) ?_
      refine lv_iadd hx hb dX2_forcedBy_34 ?_
      refine va_iald hx hb hK hP 4 0 rfl rfl i21s dX2_forcedBy_35 ?_
      refine lv_icmp_ge (tgt := 77) hx hb dX2_forcedBy_36 (by decide) (fun c_1 => ?_) (fun c_1 => ?_)
      · have hF := hF.trans (if_pos c_1)
        refine lv_iconst (v := 0) hx hb dX2_forcedBy_77 (by decide) ?_
        exact rreti hx hb hr hlocks hF.symm dX2_forcedBy_78
      · have hF := hF.trans (if_neg c_1)
        refine lv_aload_n hx hb dX2_forcedBy_39 rfl (lv_at hl 3 rfl) ?_
        refine va_get (D := D) hx hb hts inX2 hown hK hP 0 rfl rfl 1 (by decide) (hts _ kw75) (fun _ h9 => h9) rfl dX2_forcedBy_40 ?_
        refine lv_iload hx hb dX2_forcedBy_43 (lv_at hl 2 rfl) ?_
        refine va_iald hx hb hK hP 1 0 rfl rfl (k_in ek (by have := okC_lt ek eb hk1 c_1; omega) (by decide)) dX2_forcedBy_45 ?_
        refine lv_iload_n hx hb dX2_forcedBy_46 rfl (lv_at hl 0 rfl) ?_
        refine lv_icmp_le (tgt := 71) hx hb dX2_forcedBy_47 (by decide) (fun c_2 => ?_) (fun c_2 => ?_)
        · have hF := hF.trans (if_pos c_2)
          refine lv_iinc (v := l5 + 1) (lv' := [(5, .int (l5 + 1)), (3, .int l3), (4, .int l4), (0, .ref h0), (1, .int x1), (2, .ref h2)]) hx hb dX2_forcedBy_71 hl (k := 2) rfl rfl (by decide) rfl (fun ls hl => ?_)
          refine lv_goto (tgt := 26) hx hb dX2_forcedBy_74 (by decide) ?_
          exact ih (k + 1) l3 l4 (l5 + 1) ⟨k_s ek, by have := okC_lt ek eb hk1 c_1; omega, by omega⟩ hF ls (lv_sub hl [1, 2, 0, 3, 4, 5] rfl)
        · have hF := hF.trans (if_neg c_2)
          refine lv_iload hx hb dX2_forcedBy_50 (lv_at hl 1 rfl) ?_
          refine lv_aload_n hx hb dX2_forcedBy_52 rfl (lv_at hl 3 rfl) ?_
          refine va_get (D := D) hx hb hts inX2 hown hK hP 0 rfl rfl 3 (by decide) (hts _ kw77) (fun _ h9 => h9) rfl dX2_forcedBy_53 ?_
          refine lv_iload hx hb dX2_forcedBy_56 (lv_at hl 2 rfl) ?_
          refine va_iald hx hb hK hP 3 0 rfl rfl (k_in ek (by have := okC_lt ek eb hk1 c_1; omega) (by decide)) dX2_forcedBy_58 ?_
          refine lv_iand hx hb dX2_forcedBy_59 ?_
          refine lv_if_ne (tgt := 71) hx hb dX2_forcedBy_60 (by decide) (fun c_3 => ?_) (fun c_3 => ?_)
          · have hF := hF.trans (if_neg c_3)
            refine lv_iinc (v := l5 + 1) (lv' := [(5, .int (l5 + 1)), (3, .int l3), (4, .int l4), (0, .ref h0), (1, .int x1), (2, .ref h2)]) hx hb dX2_forcedBy_71 hl (k := 2) rfl rfl (by decide) rfl (fun ls hl => ?_)
            refine lv_goto (tgt := 26) hx hb dX2_forcedBy_74 (by decide) ?_
            exact ih (k + 1) l3 l4 (l5 + 1) ⟨k_s ek, by have := okC_lt ek eb hk1 c_1; omega, by omega⟩ hF ls (lv_sub hl [1, 2, 0, 3, 4, 5] rfl)
          · have hF := hF.trans (if_pos c_3)
            refine lv_aload_n hx hb dX2_forcedBy_63 rfl (lv_at hl 3 rfl) ?_
            refine va_get (D := D) hx hb hts inX2 hown hK hP 0 rfl rfl 2 (by decide) (hts _ kw76) (fun _ h9 => h9) rfl dX2_forcedBy_64 ?_
            refine lv_iload hx hb dX2_forcedBy_67 (lv_at hl 2 rfl) ?_
            refine va_iald hx hb hK hP 2 0 rfl rfl (k_in ek (by have := okC_lt ek eb hk1 c_1; omega) (by decide)) dX2_forcedBy_69 ?_
            exact rreti hx hb hr hlocks hF.symm dX2_forcedBy_70
  exact loop26 121 a (fX2_slackOf x1 v_coefficients v_literals v_bits v_firsts v_bounds v2_ones v2_zeros) (v2_ones ||| v2_zeros) (v_firsts x1.toNatClampNeg) ⟨ea, by omega, by omega⟩ hF ls (lv_sub hl [2, 1, 0, 3, 4, 5] rfl)

-- LeastCost$Problem.forcedByLimit
theorem pmX2_forcedByLimit : mFit yX2_forcedByLimit 2 := ⟨by decide +kernel, by decide +kernel, by decide +kernel⟩
noncomputable def fX2_forcedByLimit_L21 (x2 : Int32) (v_costs : Nat → Int32) (v1_ones : Int32) (v1_zeros : Int32) : Nat → Int32 → Int32 → Int32 → Int32
  | 0, l3, l4, l5 => 0
  | n + 1, l3, l4, l5 => (if 16 < l5 then 0 else (if (v_costs l5.toNatClampNeg) ≤ 0 then fX2_forcedByLimit_L21 x2 v_costs v1_ones v1_zeros n l3 l4 (l5 + 1) else (if (v_costs l5.toNatClampNeg) ≤ l3 then fX2_forcedByLimit_L21 x2 v_costs v1_ones v1_zeros n l3 l4 (l5 + 1) else (if (l4 &&& (fX5_bitOf l5)) = 0 then -l5 else fX2_forcedByLimit_L21 x2 v_costs v1_ones v1_zeros n l3 l4 (l5 + 1)))))
noncomputable def fX2_forcedByLimit_d (x2 : Int32) (v_costs : Nat → Int32) (v1_ones : Int32) (v1_zeros : Int32) : Int32 :=
  fX2_forcedByLimit_L21 x2 v_costs v1_ones v1_zeros 17 (fX2_limitSlack x2 v_costs v1_ones) (v1_ones ||| v1_zeros) 1
theorem fX2_forcedByLimit_ex : ∃ f : Int32 → (Nat → Int32) → Int32 → Int32 → Int32, ∀ (x2 : Int32) (v_costs : Nat → Int32) (v1_ones : Int32) (v1_zeros : Int32), f x2 v_costs v1_ones v1_zeros = fX2_forcedByLimit_d x2 v_costs v1_ones v1_zeros := ⟨fX2_forcedByLimit_d, fun _ _ _ _ => rfl⟩
noncomputable def fX2_forcedByLimit : Int32 → (Nat → Int32) → Int32 → Int32 → Int32 := Classical.choose fX2_forcedByLimit_ex
theorem fX2_forcedByLimit_eq (x2 : Int32) (v_costs : Nat → Int32) (v1_ones : Int32) (v1_zeros : Int32) : fX2_forcedByLimit x2 v_costs v1_ones v1_zeros = fX2_forcedByLimit_d x2 v_costs v1_ones v1_zeros := Classical.choose_spec fX2_forcedByLimit_ex x2 v_costs v1_ones v1_zeros
set_option maxHeartbeats 1000000 in
set_option maxRecDepth 100000 in
theorem ctX2_forcedByLimit (l : Launch) (D : va_G) (cI cZ : ClassId) (h0 h0_costs h0_coefficients h0_literals h0_bits h0_firsts h0_bounds h1 : Nat) (x2 : Int32) (v_terms v_constraints v_taken v1_ones v1_zeros : Int32) (v_costs : Nat → Int32) : Met l yX2_forcedByLimit (gw yX2_forcedByLimit cX2_forcedByLimit 6 (some .int)) { frames := 2, cells := 0, slots := 0, locals := 45 } (rPc D cI cZ [.ref h0, .ref h1, .int x2] [(h0, .inr (2, [.ref h0_costs, .ref h0_coefficients, .ref h0_literals, .ref h0_bits, .ref h0_firsts, .ref h0_bounds, .int v_terms, .int v_constraints, .int v_taken])), (h0_costs, .inl (cI, 17, .inl v_costs)), (h1, .inr (4, [.int v1_ones, .int v1_zeros]))]) (rQ (fX2_forcedByLimit x2 v_costs v1_ones v1_zeros)) 0 0 (fun _ => False) := by
  refine rMet (by decide) (Nat.le_of_ble_eq_true rfl) ?_
  intro p e s m below meth c hx hb hr hlocks hml hown hts hP hK hN ls hl
  have hl : lv_has ls 6 [(0, .ref h0), (1, .ref h1), (2, .int x2)] := hl
  have hF := (fX2_forcedByLimit_eq x2 v_costs v1_ones v1_zeros).trans (fX2_forcedByLimit_d.eq_1 x2 v_costs v1_ones v1_zeros)
  refine lv_aload_n hx hb dX2_forcedByLimit_0 rfl (lv_at hl 0 rfl) ?_
  refine lv_aload_n hx hb dX2_forcedByLimit_1 rfl (lv_at hl 1 rfl) ?_
  refine lv_iload_n hx hb dX2_forcedByLimit_2 rfl (lv_at hl 2 rfl) ?_
  have hPc : va_P D vwCl [(h0, .inr (2, [.ref h0_costs, .ref h0_coefficients, .ref h0_literals, .ref h0_bits, .ref h0_firsts, .ref h0_bounds, .int v_terms, .int v_constraints, .int v_taken])), (h0_costs, .inl (cI, 17, .inl v_costs)), (h1, .inr (4, [.int v1_ones, .int v1_zeros]))] _ := hP.sub [0, 1, 2] rfl
  refine rback (va_runV (As := [.ref h1, .int x2]) (rest := []) ⟨hx, hb, hml, hown, hts⟩ (ctX2_limitSlack l D cI cZ h0 h0_costs h0_coefficients h0_literals h0_bits h0_firsts h0_bounds h1 x2 v_terms v_constraints v_taken v1_ones v1_zeros v_costs) ⟨(cB hts kw306 kw303 kw53 pmX2_limitSlack ⟨Nat.le_of_ble_eq_true rfl, Nat.le_of_ble_eq_true rfl⟩), hts _ kw305, hts _ kw6⟩ ⟨rPc_blind, va_recv hK hP (ci := 2) (q0 := 0) rfl rfl, rpre hPc hK hN⟩ rfl rfl hl.1 rfl (lv_room (Nat.le_of_ble_eq_true rfl)) dX2_forcedByLimit_3 ⟨Nat.zero_le _, Nat.zero_le _⟩) ?_
  refine lv_istore_n (lv' := [(3, .int (fX2_limitSlack x2 v_costs v1_ones)), (0, .ref h0), (1, .ref h1), (2, .int x2)]) hx hb dX2_forcedByLimit_6 rfl hl (by decide) rfl (fun ls hl => ?_)
  refine lv_aload_n hx hb dX2_forcedByLimit_7 rfl (lv_at hl 2 rfl) ?_
  refine va_getN (D := D) hx hb hts inX4 hown hK hP 2 rfl rfl 0 (by decide) (va_Nw.use (nwl_tab _ kn7) (hN _ kn7)) (fun _ h9 => h9) rfl dX2_forcedByLimit_8 ?_
  refine lv_aload_n hx hb dX2_forcedByLimit_11 rfl (lv_at hl 2 rfl) ?_
  refine va_getN (D := D) hx hb hts inX4 hown hK hP 2 rfl rfl 1 (by decide) (va_Nw.use (nwl_tab _ kn10) (hN _ kn10)) (fun _ h9 => h9) rfl dX2_forcedByLimit_12 ?_
  refine lv_ior hx hb dX2_forcedByLimit_15 ?_
  refine lv_istore (lv' := [(4, .int (v1_ones ||| v1_zeros)), (3, .int (fX2_limitSlack x2 v_costs v1_ones)), (0, .ref h0), (1, .ref h1), (2, .int x2)]) hx hb dX2_forcedByLimit_16 hl (by decide) rfl (fun ls hl => ?_)
  refine lv_iconst (v := 1) hx hb dX2_forcedByLimit_18 (by decide) ?_
  refine lv_istore (lv' := [(5, .int 1), (4, .int (v1_ones ||| v1_zeros)), (3, .int (fX2_limitSlack x2 v_costs v1_ones)), (0, .ref h0), (1, .ref h1), (2, .int x2)]) hx hb dX2_forcedByLimit_19 hl (by decide) rfl (fun ls hl => ?_)
  have loop21 : ∀ (n : Nat) (k : Nat) (l3 : Int32) (l4 : Int32) (l5 : Int32) , (l5 = nI k ∧ 1 ≤ k ∧ k ≤ 17 ∧ 17 < k + n) → fX2_forcedByLimit x2 v_costs v1_ones v1_zeros = fX2_forcedByLimit_L21 x2 v_costs v1_ones v1_zeros n l3 l4 l5 → ∀ ls : Array Slot, lv_has ls 6 [(3, .int l3), (4, .int l4), (5, .int l5), (0, .ref h0), (1, .ref h1), (2, .int x2)] → W p l e { frames := 2, cells := 0, slots := 0, locals := 45 } s m [.ref h0, .ref h1, .int x2].toArray below meth c s.heap [] 0 0 (MQ below (rQ (fX2_forcedByLimit x2 v_costs v1_ones v1_zeros)) [.ref h0, .ref h1, .int x2].toArray s 0 0 (fun _ => False)) (F0 m 21 ls []) := by
    intro n
    induction n with
    | zero =>
      intro k l3 l4 l5 hk hF
      exact (by obtain ⟨_, _, h2, h3⟩ := hk; exact absurd h3 (by omega))
    | succ n ih =>
      intro k l3 l4 l5 hk hF ls hl
      have hF := hF.trans (fX2_forcedByLimit_L21.eq_2 ..)
      obtain ⟨ek, hk1, hk2, hk3⟩ := hk
      refine lv_iload hx hb dX2_forcedByLimit_21 (lv_at hl 2 rfl) ?_
      refine lv_bipush (v := 16) hx hb dX2_forcedByLimit_23 (by decide) ?_
      refine lv_icmp_gt (tgt := 70) hx hb dX2_forcedByLimit_25 (by decide) (fun c_1 => ?_) (fun c_1 => ?_)
      · have hF := hF.trans (if_pos c_1)
        refine lv_iconst (v := 0) hx hb dX2_forcedByLimit_70 (by decide) ?_
        exact rreti hx hb hr hlocks hF.symm dX2_forcedByLimit_71
      · have hF := hF.trans (if_neg c_1)
        refine lv_aload_n hx hb dX2_forcedByLimit_28 rfl (lv_at hl 3 rfl) ?_
        refine va_get (D := D) hx hb hts inX2 hown hK hP 0 rfl rfl 0 (by decide) (hts _ kw73) (fun _ h9 => h9) rfl dX2_forcedByLimit_29 ?_
        refine lv_iload hx hb dX2_forcedByLimit_32 (lv_at hl 2 rfl) ?_
        refine va_iald hx hb hK hP 1 0 rfl rfl (k_in ek (by have := k_16 ek hk2 c_1; omega) (by decide)) dX2_forcedByLimit_34 ?_
        refine lv_if_le (tgt := 64) hx hb dX2_forcedByLimit_35 (by decide) (fun c_2 => ?_) (fun c_2 => ?_)
        · have hF := hF.trans (if_pos c_2)
          refine lv_iinc (v := l5 + 1) (lv' := [(5, .int (l5 + 1)), (3, .int l3), (4, .int l4), (0, .ref h0), (1, .ref h1), (2, .int x2)]) hx hb dX2_forcedByLimit_64 hl (k := 2) rfl rfl (by decide) rfl (fun ls hl => ?_)
          refine lv_goto (tgt := 21) hx hb dX2_forcedByLimit_67 (by decide) ?_
          exact ih (k + 1) l3 l4 (l5 + 1) ⟨k_s ek, by omega, by have := k_16 ek hk2 c_1; omega, by omega⟩ hF ls (lv_sub hl [1, 2, 0, 3, 4, 5] rfl)
        · have hF := hF.trans (if_neg c_2)
          refine lv_aload_n hx hb dX2_forcedByLimit_38 rfl (lv_at hl 3 rfl) ?_
          refine va_get (D := D) hx hb hts inX2 hown hK hP 0 rfl rfl 0 (by decide) (hts _ kw73) (fun _ h9 => h9) rfl dX2_forcedByLimit_39 ?_
          refine lv_iload hx hb dX2_forcedByLimit_42 (lv_at hl 2 rfl) ?_
          refine va_iald hx hb hK hP 1 0 rfl rfl (k_in ek (by have := k_16 ek hk2 c_1; omega) (by decide)) dX2_forcedByLimit_44 ?_
          refine lv_iload_n hx hb dX2_forcedByLimit_45 rfl (lv_at hl 0 rfl) ?_
          refine lv_icmp_le (tgt := 64) hx hb dX2_forcedByLimit_46 (by decide) (fun c_3 => ?_) (fun c_3 => ?_)
          · have hF := hF.trans (if_pos c_3)
            refine lv_iinc (v := l5 + 1) (lv' := [(5, .int (l5 + 1)), (3, .int l3), (4, .int l4), (0, .ref h0), (1, .ref h1), (2, .int x2)]) hx hb dX2_forcedByLimit_64 hl (k := 2) rfl rfl (by decide) rfl (fun ls hl => ?_)
            refine lv_goto (tgt := 21) hx hb dX2_forcedByLimit_67 (by decide) ?_
            exact ih (k + 1) l3 l4 (l5 + 1) ⟨k_s ek, by omega, by have := k_16 ek hk2 c_1; omega, by omega⟩ hF ls (lv_sub hl [1, 2, 0, 3, 4, 5] rfl)
          · have hF := hF.trans (if_neg c_3)
            refine lv_iload hx hb dX2_forcedByLimit_49 (lv_at hl 1 rfl) ?_
            refine lv_iload hx hb dX2_forcedByLimit_51 (lv_at hl 2 rfl) ?_
            have hPc : va_P D vwCl [] _ := hP.sub [] rfl
            refine rback (va_runSN (As := [.int l5]) (rest := [.int l4]) ⟨hx, hb, hml, hown, hts⟩ (ctX5_bitOf l D cI cZ l5) ⟨(cN hts kw269 (hN _ kn20) kw52 pmX5_bitOf ⟨Nat.le_of_ble_eq_true rfl, Nat.le_of_ble_eq_true rfl⟩), hts _ kw268, trivial⟩ ⟨rPc_blind, rpre hPc hK hN⟩ rfl rfl hl.1 rfl (lv_room (Nat.le_of_ble_eq_true rfl)) dX2_forcedByLimit_53 ⟨Nat.zero_le _, Nat.zero_le _⟩) ?_
            refine lv_iand hx hb dX2_forcedByLimit_56 ?_
            refine lv_if_ne (tgt := 64) hx hb dX2_forcedByLimit_57 (by decide) (fun c_4 => ?_) (fun c_4 => ?_)
            · have hF := hF.trans (if_neg c_4)
              refine lv_iinc (v := l5 + 1) (lv' := [(5, .int (l5 + 1)), (3, .int l3), (4, .int l4), (0, .ref h0), (1, .ref h1), (2, .int x2)]) hx hb dX2_forcedByLimit_64 hl (k := 2) rfl rfl (by decide) rfl (fun ls hl => ?_)
              refine lv_goto (tgt := 21) hx hb dX2_forcedByLimit_67 (by decide) ?_
              exact ih (k + 1) l3 l4 (l5 + 1) ⟨k_s ek, by omega, by have := k_16 ek hk2 c_1; omega, by omega⟩ hF ls (lv_sub hl [1, 2, 0, 3, 4, 5] rfl)
            · have hF := hF.trans (if_pos c_4)
              refine lv_iload hx hb dX2_forcedByLimit_60 (lv_at hl 2 rfl) ?_
              refine lv_ineg hx hb dX2_forcedByLimit_62 ?_
              exact rreti hx hb hr hlocks hF.symm dX2_forcedByLimit_63
  exact loop21 17 1 (fX2_limitSlack x2 v_costs v1_ones) (v1_ones ||| v1_zeros) 1 ⟨rfl, by omega, by omega, by omega⟩ hF ls (lv_sub hl [2, 1, 0, 3, 4, 5] rfl)

-- LeastCost$Problem.forcedLiteral
theorem pmX2_forcedLiteral : mFit yX2_forcedLiteral 2 := ⟨by decide +kernel, by decide +kernel, by decide +kernel⟩
noncomputable def fX2_forcedLiteral_L2 (x2 : Int32) (v_constraints : Int32) (v_costs : Nat → Int32) (v_coefficients : Nat → Int32) (v_literals : Nat → Int32) (v_bits : Nat → Int32) (v_firsts : Nat → Int32) (v_bounds : Nat → Int32) (v1_ones : Int32) (v1_zeros : Int32) : Nat → Int32 → Int32
  | 0, l3 => 0
  | n + 1, l3 => (if v_constraints ≤ l3 then fX2_forcedByLimit x2 v_costs v1_ones v1_zeros else (if (fX2_forcedBy l3 v_coefficients v_literals v_bits v_firsts v_bounds v1_ones v1_zeros) = 0 then fX2_forcedLiteral_L2 x2 v_constraints v_costs v_coefficients v_literals v_bits v_firsts v_bounds v1_ones v1_zeros n (l3 + 1) else fX2_forcedBy l3 v_coefficients v_literals v_bits v_firsts v_bounds v1_ones v1_zeros))
noncomputable def fX2_forcedLiteral_d (x2 : Int32) (v_constraints : Int32) (v_costs : Nat → Int32) (v_coefficients : Nat → Int32) (v_literals : Nat → Int32) (v_bits : Nat → Int32) (v_firsts : Nat → Int32) (v_bounds : Nat → Int32) (v1_ones : Int32) (v1_zeros : Int32) : Int32 :=
  fX2_forcedLiteral_L2 x2 v_constraints v_costs v_coefficients v_literals v_bits v_firsts v_bounds v1_ones v1_zeros 21 0
theorem fX2_forcedLiteral_ex : ∃ f : Int32 → Int32 → (Nat → Int32) → (Nat → Int32) → (Nat → Int32) → (Nat → Int32) → (Nat → Int32) → (Nat → Int32) → Int32 → Int32 → Int32, ∀ (x2 : Int32) (v_constraints : Int32) (v_costs : Nat → Int32) (v_coefficients : Nat → Int32) (v_literals : Nat → Int32) (v_bits : Nat → Int32) (v_firsts : Nat → Int32) (v_bounds : Nat → Int32) (v1_ones : Int32) (v1_zeros : Int32), f x2 v_constraints v_costs v_coefficients v_literals v_bits v_firsts v_bounds v1_ones v1_zeros = fX2_forcedLiteral_d x2 v_constraints v_costs v_coefficients v_literals v_bits v_firsts v_bounds v1_ones v1_zeros := ⟨fX2_forcedLiteral_d, fun _ _ _ _ _ _ _ _ _ _ => rfl⟩
noncomputable def fX2_forcedLiteral : Int32 → Int32 → (Nat → Int32) → (Nat → Int32) → (Nat → Int32) → (Nat → Int32) → (Nat → Int32) → (Nat → Int32) → Int32 → Int32 → Int32 := Classical.choose fX2_forcedLiteral_ex
theorem fX2_forcedLiteral_eq (x2 : Int32) (v_constraints : Int32) (v_costs : Nat → Int32) (v_coefficients : Nat → Int32) (v_literals : Nat → Int32) (v_bits : Nat → Int32) (v_firsts : Nat → Int32) (v_bounds : Nat → Int32) (v1_ones : Int32) (v1_zeros : Int32) : fX2_forcedLiteral x2 v_constraints v_costs v_coefficients v_literals v_bits v_firsts v_bounds v1_ones v1_zeros = fX2_forcedLiteral_d x2 v_constraints v_costs v_coefficients v_literals v_bits v_firsts v_bounds v1_ones v1_zeros := Classical.choose_spec fX2_forcedLiteral_ex x2 v_constraints v_costs v_coefficients v_literals v_bits v_firsts v_bounds v1_ones v1_zeros
set_option maxHeartbeats 1000000 in
set_option maxRecDepth 100000 in
theorem ctX2_forcedLiteral (l : Launch) (D : va_G) (cI cZ : ClassId) (h0 h0_costs h0_coefficients h0_literals h0_bits h0_firsts h0_bounds h1 : Nat) (x2 : Int32) (v_terms v_constraints v_taken v1_ones v1_zeros : Int32) (v_costs v_coefficients v_literals v_bits v_firsts v_bounds : Nat → Int32) (hO : okP v_firsts v_constraints) : Met l yX2_forcedLiteral (gw yX2_forcedLiteral cX2_forcedLiteral 5 (some .int)) { frames := 3, cells := 0, slots := 0, locals := 70 } (rPc D cI cZ [.ref h0, .ref h1, .int x2] [(h0, .inr (2, [.ref h0_costs, .ref h0_coefficients, .ref h0_literals, .ref h0_bits, .ref h0_firsts, .ref h0_bounds, .int v_terms, .int v_constraints, .int v_taken])), (h0_costs, .inl (cI, 17, .inl v_costs)), (h0_coefficients, .inl (cI, 120, .inl v_coefficients)), (h0_literals, .inl (cI, 120, .inl v_literals)), (h0_bits, .inl (cI, 120, .inl v_bits)), (h0_firsts, .inl (cI, 21, .inl v_firsts)), (h0_bounds, .inl (cI, 20, .inl v_bounds)), (h1, .inr (4, [.int v1_ones, .int v1_zeros]))]) (rQ (fX2_forcedLiteral x2 v_constraints v_costs v_coefficients v_literals v_bits v_firsts v_bounds v1_ones v1_zeros)) 0 0 (fun _ => False) := by
  refine rMet (by decide) (Nat.le_of_ble_eq_true rfl) ?_
  intro p e s m below meth c hx hb hr hlocks hml hown hts hP hK hN ls hl
  have hl : lv_has ls 5 [(0, .ref h0), (1, .ref h1), (2, .int x2)] := hl
  have hF := (fX2_forcedLiteral_eq x2 v_constraints v_costs v_coefficients v_literals v_bits v_firsts v_bounds v1_ones v1_zeros).trans (fX2_forcedLiteral_d.eq_1 x2 v_constraints v_costs v_coefficients v_literals v_bits v_firsts v_bounds v1_ones v1_zeros)
  obtain ⟨C, eC, hC20, hall⟩ := hO
  refine lv_iconst (v := 0) hx hb dX2_forcedLiteral_0 (by decide) ?_
  refine lv_istore_n (lv' := [(3, .int 0), (0, .ref h0), (1, .ref h1), (2, .int x2)]) hx hb dX2_forcedLiteral_1 rfl hl (by decide) rfl (fun ls hl => ?_)
  have loop2 : ∀ (n : Nat) (k : Nat) (l3 : Int32) , (l3 = nI k ∧ k ≤ 20 ∧ 20 < k + n) → fX2_forcedLiteral x2 v_constraints v_costs v_coefficients v_literals v_bits v_firsts v_bounds v1_ones v1_zeros = fX2_forcedLiteral_L2 x2 v_constraints v_costs v_coefficients v_literals v_bits v_firsts v_bounds v1_ones v1_zeros n l3 → ∀ ls : Array Slot, lv_has ls 5 [(3, .int l3), (0, .ref h0), (1, .ref h1), (2, .int x2)] → W p l e { frames := 3, cells := 0, slots := 0, locals := 70 } s m [.ref h0, .ref h1, .int x2].toArray below meth c s.heap [] 0 0 (MQ below (rQ (fX2_forcedLiteral x2 v_constraints v_costs v_coefficients v_literals v_bits v_firsts v_bounds v1_ones v1_zeros)) [.ref h0, .ref h1, .int x2].toArray s 0 0 (fun _ => False)) (F0 m 2 ls []) := by
    intro n
    induction n with
    | zero =>
      intro k l3 hk hF
      exact (by obtain ⟨_, h2, h3⟩ := hk; exact absurd h3 (by omega))
    | succ n ih =>
      intro k l3 hk hF ls hl
      have hF := hF.trans (fX2_forcedLiteral_L2.eq_2 ..)
      obtain ⟨ek, hk1, hk2⟩ := hk
      refine lv_iload_n hx hb dX2_forcedLiteral_2 rfl (lv_at hl 0 rfl) ?_
      refine lv_aload_n hx hb dX2_forcedLiteral_3 rfl (lv_at hl 1 rfl) ?_
      refine va_get (D := D) hx hb hts inX2 hown hK hP 0 rfl rfl 7 (by decide) (hts _ kw81) (fun _ h9 => h9) rfl dX2_forcedLiteral_4 ?_
      refine lv_icmp_ge (tgt := 32) hx hb dX2_forcedLiteral_7 (by decide) (fun c_1 => ?_) (fun c_1 => ?_)
      · have hF := hF.trans (if_pos c_1)
        refine lv_aload_n hx hb dX2_forcedLiteral_32 rfl (lv_at hl 1 rfl) ?_
        refine lv_aload_n hx hb dX2_forcedLiteral_33 rfl (lv_at hl 2 rfl) ?_
        refine lv_iload_n hx hb dX2_forcedLiteral_34 rfl (lv_at hl 3 rfl) ?_
        have hPc : va_P D vwCl [(h0, .inr (2, [.ref h0_costs, .ref h0_coefficients, .ref h0_literals, .ref h0_bits, .ref h0_firsts, .ref h0_bounds, .int v_terms, .int v_constraints, .int v_taken])), (h0_costs, .inl (cI, 17, .inl v_costs)), (h1, .inr (4, [.int v1_ones, .int v1_zeros]))] _ := hP.sub [0, 1, 7] rfl
        refine rback (va_runV (As := [.ref h1, .int x2]) (rest := []) ⟨hx, hb, hml, hown, hts⟩ (ctX2_forcedByLimit l D cI cZ h0 h0_costs h0_coefficients h0_literals h0_bits h0_firsts h0_bounds h1 x2 v_terms v_constraints v_taken v1_ones v1_zeros v_costs) ⟨(cB hts kw348 kw345 kw53 pmX2_forcedByLimit ⟨Nat.le_of_ble_eq_true rfl, Nat.le_of_ble_eq_true rfl⟩), hts _ kw347, hts _ kw16⟩ ⟨rPc_blind, va_recv hK hP (ci := 2) (q0 := 0) rfl rfl, rpre hPc hK hN⟩ rfl rfl hl.1 rfl (lv_room (Nat.le_of_ble_eq_true rfl)) dX2_forcedLiteral_35 ⟨Nat.zero_le _, Nat.zero_le _⟩) ?_
        exact rreti hx hb hr hlocks hF.symm dX2_forcedLiteral_38
      · have hF := hF.trans (if_neg c_1)
        refine lv_aload_n hx hb dX2_forcedLiteral_10 rfl (lv_at hl 1 rfl) ?_
        refine lv_iload_n hx hb dX2_forcedLiteral_11 rfl (lv_at hl 0 rfl) ?_
        refine lv_aload_n hx hb dX2_forcedLiteral_12 rfl (lv_at hl 2 rfl) ?_
        have hPc : va_P D vwCl [(h0, .inr (2, [.ref h0_costs, .ref h0_coefficients, .ref h0_literals, .ref h0_bits, .ref h0_firsts, .ref h0_bounds, .int v_terms, .int v_constraints, .int v_taken])), (h0_coefficients, .inl (cI, 120, .inl v_coefficients)), (h0_literals, .inl (cI, 120, .inl v_literals)), (h0_bits, .inl (cI, 120, .inl v_bits)), (h0_firsts, .inl (cI, 21, .inl v_firsts)), (h0_bounds, .inl (cI, 20, .inl v_bounds)), (h1, .inr (4, [.int v1_ones, .int v1_zeros]))] _ := hP.sub [0, 2, 3, 4, 5, 6, 7] rfl
        refine rback (va_runV (As := [.int l3, .ref h1]) (rest := []) ⟨hx, hb, hml, hown, hts⟩ (ctX2_forcedBy l D cI cZ h0 h0_costs h0_coefficients h0_literals h0_bits h0_firsts h0_bounds h1 l3 v_terms v_constraints v_taken v1_ones v1_zeros v_coefficients v_literals v_bits v_firsts v_bounds (by rw [ek]; exact hall k (okC_lt20 ek eC hk1 c_1))) ⟨(cB hts kw344 kw341 kw53 pmX2_forcedBy ⟨Nat.le_of_ble_eq_true rfl, Nat.le_of_ble_eq_true rfl⟩), hts _ kw343, hts _ kw15⟩ ⟨rPc_blind, va_recv hK hP (ci := 2) (q0 := 0) rfl rfl, rpre hPc hK hN⟩ rfl rfl hl.1 rfl (lv_room (Nat.le_of_ble_eq_true rfl)) dX2_forcedLiteral_13 ⟨Nat.zero_le _, Nat.zero_le _⟩) ?_
        refine lv_istore (lv' := [(4, .int (fX2_forcedBy l3 v_coefficients v_literals v_bits v_firsts v_bounds v1_ones v1_zeros)), (3, .int l3), (0, .ref h0), (1, .ref h1), (2, .int x2)]) hx hb dX2_forcedLiteral_16 hl (by decide) rfl (fun ls hl => ?_)
        refine lv_iload hx hb dX2_forcedLiteral_18 (lv_at hl 0 rfl) ?_
        refine lv_if_eq (tgt := 26) hx hb dX2_forcedLiteral_20 (by decide) (fun c_2 => ?_) (fun c_2 => ?_)
        · have hF := hF.trans (if_pos c_2)
          refine lv_iinc (v := l3 + 1) (lv' := [(3, .int (l3 + 1)), (4, .int (fX2_forcedBy l3 v_coefficients v_literals v_bits v_firsts v_bounds v1_ones v1_zeros)), (0, .ref h0), (1, .ref h1), (2, .int x2)]) hx hb dX2_forcedLiteral_26 hl (k := 1) rfl rfl (by decide) rfl (fun ls hl => ?_)
          refine lv_goto (tgt := 2) hx hb dX2_forcedLiteral_29 (by decide) ?_
          exact ih (k + 1) (l3 + 1) ⟨k_s ek, by have := okC_lt20 ek eC hk1 c_1; omega, by omega⟩ hF ls (lv_sub hl [0, 2, 3, 4] rfl)
        · have hF := hF.trans (if_neg c_2)
          refine lv_iload hx hb dX2_forcedLiteral_23 (lv_at hl 0 rfl) ?_
          exact rreti hx hb hr hlocks hF.symm dX2_forcedLiteral_25
  exact loop2 21 0 0 ⟨rfl, by omega, by omega⟩ hF ls (lv_sub hl [0, 1, 2, 3] rfl)
