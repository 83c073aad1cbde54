-- LeastCost$Setting.become
theorem pmX4_become : mFit yX4_become 2 := ⟨by decide +kernel, by decide +kernel, by decide +kernel⟩
noncomputable def fX4_become_d (x1 : Int32) (x2 : Int32) (v_ones : Int32) (v_zeros : Int32) : Int32 × Int32 :=
  (x1, x2)
theorem fX4_become_ex : ∃ f : Int32 → Int32 → Int32 → Int32 → (Int32 × Int32), ∀ (x1 : Int32) (x2 : Int32) (v_ones : Int32) (v_zeros : Int32), f x1 x2 v_ones v_zeros = fX4_become_d x1 x2 v_ones v_zeros := ⟨fX4_become_d, fun _ _ _ _ => rfl⟩
noncomputable def fX4_become : Int32 → Int32 → Int32 → Int32 → (Int32 × Int32) := Classical.choose fX4_become_ex
theorem fX4_become_eq (x1 : Int32) (x2 : Int32) (v_ones : Int32) (v_zeros : Int32) : fX4_become x1 x2 v_ones v_zeros = fX4_become_d x1 x2 v_ones v_zeros := Classical.choose_spec fX4_become_ex x1 x2 v_ones v_zeros
set_option maxHeartbeats 1000000 in
set_option maxRecDepth 100000 in
theorem ctX4_become (l : Launch) (D : va_G) (cI cZ : ClassId) (h0 : Nat) (x1 : Int32) (x2 : Int32) (v_ones v_zeros : Int32) : Met l yX4_become (gw yX4_become cX4_become 3 none) { frames := 0, cells := 0, slots := 0, locals := 0 } (wPc D cI cZ [.ref h0, .int x1, .int x2] [(h0, .inr (4, [.int v_ones, .int v_zeros]))]) (wQ D none [(h0, .inr (4, [.int v_ones, .int v_zeros]))] [(h0, .inr (4, [.int ((fX4_become x1 x2 v_ones v_zeros).1), .int ((fX4_become x1 x2 v_ones v_zeros).2)]))]) 0 0 (aw [(h0, .inr (4, [.int v_ones, .int v_zeros]))]) := by
  refine wMet (by decide) (Nat.le_of_ble_eq_true rfl) ?_
  intro p e s m below meth c hx hb hr hlocks hml hown hts hP hK hN hD hS ls hl
  have hl : lv_has ls 3 [(0, .ref h0), (1, .int x1), (2, .int x2)] := hl
  have hF := (fX4_become_eq x1 x2 v_ones v_zeros).trans (fX4_become_d.eq_1 x1 x2 v_ones v_zeros)
  refine lv_aload_n hx hb dX4_become_0 rfl (lv_at hl 0 rfl) ?_
  refine lv_iload_n hx hb dX4_become_1 rfl (lv_at hl 1 rfl) ?_
  refine va_put (D := D) (v := .int x1) (ty := .int) hx hb hts inX4 tyX4 tyX4_ok nmX4 hown hK hP hD hS 0 rfl rfl 0 (by decide) (hts _ kw130) (fun _ h9 => h9) rfl (by decide +kernel) rfl rfl (Nat.le_of_ble_eq_true rfl) dX4_become_2 (fun H locs hP hD hS => ?_)
  have hP : va_P D vwCl [(h0, .inr (4, [.int x1, .int v_zeros]))] H := hP
  have hD : va_D _ [(h0, .inr (4, [.int x1, .int v_zeros]))] := hD
  refine lv_aload_n hx hb dX4_become_5 rfl (lv_at hl 0 rfl) ?_
  refine lv_iload_n hx hb dX4_become_6 rfl (lv_at hl 2 rfl) ?_
  refine va_put (D := D) (v := .int x2) (ty := .int) hx hb hts inX4 tyX4 tyX4_ok nmX4 hown hK hP hD hS 0 rfl rfl 1 (by decide) (hts _ kw134) (fun _ h9 => h9) rfl (by decide +kernel) rfl rfl (Nat.le_of_ble_eq_true rfl) dX4_become_7 (fun H locs hP hD hS => ?_)
  have hP : va_P D vwCl [(h0, .inr (4, [.int x1, .int x2]))] H := hP
  have hD : va_D _ [(h0, .inr (4, [.int x1, .int x2]))] := hD
  exact wretv hx hb hr hlocks (by rw [hF]; exact hP) hS dX4_become_10

-- LeastCost$Setting.makeTrue
theorem pmX4_makeTrue : mFit yX4_makeTrue 1 := ⟨by decide +kernel, by decide +kernel, by decide +kernel⟩
noncomputable def fX4_makeTrue_d (x1 : Int32) (v_ones : Int32) (v_zeros : Int32) : Int32 × Int32 :=
  (if x1 ≤ 0 then (v_ones, v_zeros ||| (fX5_bitOf (fX5_variableOf x1))) else (v_ones ||| (fX5_bitOf (fX5_variableOf x1)), v_zeros))
theorem fX4_makeTrue_ex : ∃ f : Int32 → Int32 → Int32 → (Int32 × Int32), ∀ (x1 : Int32) (v_ones : Int32) (v_zeros : Int32), f x1 v_ones v_zeros = fX4_makeTrue_d x1 v_ones v_zeros := ⟨fX4_makeTrue_d, fun _ _ _ => rfl⟩
noncomputable def fX4_makeTrue : Int32 → Int32 → Int32 → (Int32 × Int32) := Classical.choose fX4_makeTrue_ex
theorem fX4_makeTrue_eq (x1 : Int32) (v_ones : Int32) (v_zeros : Int32) : fX4_makeTrue x1 v_ones v_zeros = fX4_makeTrue_d x1 v_ones v_zeros := Classical.choose_spec fX4_makeTrue_ex x1 v_ones v_zeros
set_option maxHeartbeats 1000000 in
set_option maxRecDepth 100000 in
theorem ctX4_makeTrue (l : Launch) (D : va_G) (cI cZ : ClassId) (h0 : Nat) (x1 : Int32) (v_ones v_zeros : Int32) : Met l yX4_makeTrue (gw yX4_makeTrue cX4_makeTrue 3 none) { frames := 1, cells := 0, slots := 0, locals := 20 } (wPc D cI cZ [.ref h0, .int x1] [(h0, .inr (4, [.int v_ones, .int v_zeros]))]) (wQ D none [(h0, .inr (4, [.int v_ones, .int v_zeros]))] [(h0, .inr (4, [.int ((fX4_makeTrue x1 v_ones v_zeros).1), .int ((fX4_makeTrue x1 v_ones v_zeros).2)]))]) 0 0 (aw [(h0, .inr (4, [.int v_ones, .int v_zeros]))]) := by
  refine wMet (by decide) (Nat.le_of_ble_eq_true rfl) ?_
  intro p e s m below meth c hx hb hr hlocks hml hown hts hP hK hN hD hS ls hl
  have hl : lv_has ls 3 [(0, .ref h0), (1, .int x1)] := hl
  have hF := (fX4_makeTrue_eq x1 v_ones v_zeros).trans (fX4_makeTrue_d.eq_1 x1 v_ones v_zeros)
  refine lv_iload_n hx hb dX4_makeTrue_0 rfl (lv_at hl 1 rfl) ?_
  have hPc : va_P D vwCl [] _ := hP.sub [] rfl
  refine rback (va_runSN (As := [.int x1]) (rest := []) ⟨hx, hb, hml, hown, hts⟩ (ctX5_variableOf l D cI cZ x1) ⟨(cN hts kw261 (hN _ kn28) kw52 pmX5_variableOf ⟨Nat.le_of_ble_eq_true rfl, Nat.le_of_ble_eq_true rfl⟩), hts _ kw260, trivial⟩ ⟨rPc_blind, rpre hPc hK hN⟩ rfl rfl hl.1 rfl (lv_room (Nat.le_of_ble_eq_true rfl)) dX4_makeTrue_1 ⟨Nat.zero_le _, Nat.zero_le _⟩) ?_
  have hPc : va_P D vwCl [] _ := hP.sub [] rfl
  refine rback (va_runSN (As := [.int (fX5_variableOf x1)]) (rest := []) ⟨hx, hb, hml, hown, hts⟩ (ctX5_bitOf l D cI cZ (fX5_variableOf x1)) ⟨(cN hts kw269 (hN _ kn29) kw52 pmX5_bitOf ⟨Nat.le_of_ble_eq_true rfl, Nat.le_of_ble_eq_true rfl⟩), hts _ kw268, trivial⟩ ⟨rPc_blind, rpre hPc hK hN⟩ rfl rfl hl.1 rfl (lv_room (Nat.le_of_ble_eq_true rfl)) dX4_makeTrue_4 ⟨Nat.zero_le _, Nat.zero_le _⟩) ?_
  refine lv_istore_n (lv' := [(2, .int (fX5_bitOf (fX5_variableOf x1))), (0, .ref h0), (1, .int x1)]) hx hb dX4_makeTrue_7 rfl hl (by decide) rfl (fun ls hl => ?_)
  refine lv_iload_n hx hb dX4_makeTrue_8 rfl (lv_at hl 2 rfl) ?_
  refine lv_if_le (tgt := 25) hx hb dX4_makeTrue_9 (by decide) (fun c_1 => ?_) (fun c_1 => ?_)
  · have hF := hF.trans (if_pos c_1)
    refine lv_aload_n hx hb dX4_makeTrue_25 rfl (lv_at hl 1 rfl) ?_
    refine lv_dup hx hb dX4_makeTrue_26 rfl ?_
    refine va_get (D := D) hx hb hts inX4 hown hK hP 0 rfl rfl 1 (by decide) (hts _ kw134) (fun _ h9 => h9) rfl dX4_makeTrue_27 ?_
    refine lv_iload_n hx hb dX4_makeTrue_30 rfl (lv_at hl 0 rfl) ?_
    refine lv_ior hx hb dX4_makeTrue_31 ?_
    refine va_put (D := D) (v := .int (v_zeros ||| (fX5_bitOf (fX5_variableOf x1)))) (ty := .int) hx hb hts inX4 tyX4 tyX4_ok nmX4 hown hK hP hD hS 0 rfl rfl 1 (by decide) (hts _ kw134) (fun _ h9 => h9) rfl (by decide +kernel) rfl rfl (Nat.le_of_ble_eq_true rfl) dX4_makeTrue_32 (fun H locs hP hD hS => ?_)
    have hP : va_P D vwCl [(h0, .inr (4, [.int v_ones, .int (v_zeros ||| (fX5_bitOf (fX5_variableOf x1)))]))] H := hP
    have hD : va_D _ [(h0, .inr (4, [.int v_ones, .int (v_zeros ||| (fX5_bitOf (fX5_variableOf x1)))]))] := hD
    exact wretv hx hb hr hlocks (by rw [hF]; exact hP) hS dX4_makeTrue_35
  · have hF := hF.trans (if_neg c_1)
    refine lv_aload_n hx hb dX4_makeTrue_12 rfl (lv_at hl 1 rfl) ?_
    refine lv_dup hx hb dX4_makeTrue_13 rfl ?_
    refine va_get (D := D) hx hb hts inX4 hown hK hP 0 rfl rfl 0 (by decide) (hts _ kw130) (fun _ h9 => h9) rfl dX4_makeTrue_14 ?_
    refine lv_iload_n hx hb dX4_makeTrue_17 rfl (lv_at hl 0 rfl) ?_
    refine lv_ior hx hb dX4_makeTrue_18 ?_
    refine va_put (D := D) (v := .int (v_ones ||| (fX5_bitOf (fX5_variableOf x1)))) (ty := .int) hx hb hts inX4 tyX4 tyX4_ok nmX4 hown hK hP hD hS 0 rfl rfl 0 (by decide) (hts _ kw130) (fun _ h9 => h9) rfl (by decide +kernel) rfl rfl (Nat.le_of_ble_eq_true rfl) dX4_makeTrue_19 (fun H locs hP hD hS => ?_)
    have hP : va_P D vwCl [(h0, .inr (4, [.int (v_ones ||| (fX5_bitOf (fX5_variableOf x1))), .int v_zeros]))] H := hP
    have hD : va_D _ [(h0, .inr (4, [.int (v_ones ||| (fX5_bitOf (fX5_variableOf x1))), .int v_zeros]))] := hD
    refine lv_goto (tgt := 35) hx hb dX4_makeTrue_22 (by decide) ?_
    exact wretv hx hb hr hlocks (by rw [hF]; exact hP) hS dX4_makeTrue_35

-- LeastCost$Setting.leastNotSet
theorem pmX4_leastNotSet : mFit yX4_leastNotSet 0 := ⟨by decide +kernel, by decide +kernel, by decide +kernel⟩
noncomputable def fX4_leastNotSet_L12 (v_ones : Int32) (v_zeros : Int32) : Nat → Int32 → Int32 → Int32
  | 0, l1, l2 => 0
  | n + 1, l1, l2 => (if 16 < l2 then 0 else (if (l1 &&& (fX5_bitOf l2)) = 0 then l2 else fX4_leastNotSet_L12 v_ones v_zeros n l1 (l2 + 1)))
noncomputable def fX4_leastNotSet_d (v_ones : Int32) (v_zeros : Int32) : Int32 :=
  fX4_leastNotSet_L12 v_ones v_zeros 17 (v_ones ||| v_zeros) 1
theorem fX4_leastNotSet_ex : ∃ f : Int32 → Int32 → Int32, ∀ (v_ones : Int32) (v_zeros : Int32), f v_ones v_zeros = fX4_leastNotSet_d v_ones v_zeros := ⟨fX4_leastNotSet_d, fun _ _ => rfl⟩
noncomputable def fX4_leastNotSet : Int32 → Int32 → Int32 := Classical.choose fX4_leastNotSet_ex
theorem fX4_leastNotSet_eq (v_ones : Int32) (v_zeros : Int32) : fX4_leastNotSet v_ones v_zeros = fX4_leastNotSet_d v_ones v_zeros := Classical.choose_spec fX4_leastNotSet_ex v_ones v_zeros
set_option maxHeartbeats 1000000 in
set_option maxRecDepth 100000 in
theorem ctX4_leastNotSet (l : Launch) (D : va_G) (cI cZ : ClassId) (h0 : Nat) (v_ones v_zeros : Int32) : Met l yX4_leastNotSet (gw yX4_leastNotSet cX4_leastNotSet 3 (some .int)) { frames := 1, cells := 0, slots := 0, locals := 20 } (rPc D cI cZ [.ref h0] [(h0, .inr (4, [.int v_ones, .int v_zeros]))]) (rQ (fX4_leastNotSet v_ones v_zeros)) 0 0 (fun _ => False) := by
  refine rMet (by decide) (Nat.le_of_ble_eq_true rfl) ?_
  intro p e s m below meth c hx hb hr hlocks hml hown hts hP hK hN ls hl
  have hl : lv_has ls 3 [(0, .ref h0)] := hl
  have hF := (fX4_leastNotSet_eq v_ones v_zeros).trans (fX4_leastNotSet_d.eq_1 v_ones v_zeros)
  refine lv_aload_n hx hb dX4_leastNotSet_0 rfl (lv_at hl 0 rfl) ?_
  refine va_get (D := D) hx hb hts inX4 hown hK hP 0 rfl rfl 0 (by decide) (hts _ kw130) (fun _ h9 => h9) rfl dX4_leastNotSet_1 ?_
  refine lv_aload_n hx hb dX4_leastNotSet_4 rfl (lv_at hl 0 rfl) ?_
  refine va_get (D := D) hx hb hts inX4 hown hK hP 0 rfl rfl 1 (by decide) (hts _ kw134) (fun _ h9 => h9) rfl dX4_leastNotSet_5 ?_
  refine lv_ior hx hb dX4_leastNotSet_8 ?_
  refine lv_istore_n (lv' := [(1, .int (v_ones ||| v_zeros)), (0, .ref h0)]) hx hb dX4_leastNotSet_9 rfl hl (by decide) rfl (fun ls hl => ?_)
  refine lv_iconst (v := 1) hx hb dX4_leastNotSet_10 (by decide) ?_
  refine lv_istore_n (lv' := [(2, .int 1), (1, .int (v_ones ||| v_zeros)), (0, .ref h0)]) hx hb dX4_leastNotSet_11 rfl hl (by decide) rfl (fun ls hl => ?_)
  have loop12 : ∀ (n : Nat) (k : Nat) (l1 : Int32) (l2 : Int32) , (l2 = nI k ∧ 1 ≤ k ∧ k ≤ 17 ∧ 17 < k + n) → fX4_leastNotSet v_ones v_zeros = fX4_leastNotSet_L12 v_ones v_zeros n l1 l2 → ∀ ls : Array Slot, lv_has ls 3 [(1, .int l1), (2, .int l2), (0, .ref h0)] → W p l e { frames := 1, cells := 0, slots := 0, locals := 20 } s m [.ref h0].toArray below meth c s.heap [] 0 0 (MQ below (rQ (fX4_leastNotSet v_ones v_zeros)) [.ref h0].toArray s 0 0 (fun _ => False)) (F0 m 12 ls []) := by
    intro n
    induction n with
    | zero =>
      intro k l1 l2 hk hF
      exact (by obtain ⟨_, _, h2, h3⟩ := hk; exact absurd h3 (by omega))
    | succ n ih =>
      intro k l1 l2 hk hF ls hl
      have hF := hF.trans (fX4_leastNotSet_L12.eq_2 ..)
      obtain ⟨ek, hk1, hk2, hk3⟩ := hk
      refine lv_iload_n hx hb dX4_leastNotSet_12 rfl (lv_at hl 1 rfl) ?_
      refine lv_bipush (v := 16) hx hb dX4_leastNotSet_13 (by decide) ?_
      refine lv_icmp_gt (tgt := 35) hx hb dX4_leastNotSet_15 (by decide) (fun c_1 => ?_) (fun c_1 => ?_)
      · have hF := hF.trans (if_pos c_1)
        refine lv_iconst (v := 0) hx hb dX4_leastNotSet_35 (by decide) ?_
        exact rreti hx hb hr hlocks hF.symm dX4_leastNotSet_36
      · have hF := hF.trans (if_neg c_1)
        refine lv_iload_n hx hb dX4_leastNotSet_18 rfl (lv_at hl 0 rfl) ?_
        refine lv_iload_n hx hb dX4_leastNotSet_19 rfl (lv_at hl 1 rfl) ?_
        have hPc : va_P D vwCl [] _ := hP.sub [] rfl
        refine rback (va_runSN (As := [.int l2]) (rest := [.int l1]) ⟨hx, hb, hml, hown, hts⟩ (ctX5_bitOf l D cI cZ l2) ⟨(cN hts kw269 (hN _ kn29) kw52 pmX5_bitOf ⟨Nat.le_of_ble_eq_true rfl, Nat.le_of_ble_eq_true rfl⟩), hts _ kw268, trivial⟩ ⟨rPc_blind, rpre hPc hK hN⟩ rfl rfl hl.1 rfl (lv_room (Nat.le_of_ble_eq_true rfl)) dX4_leastNotSet_20 ⟨Nat.zero_le _, Nat.zero_le _⟩) ?_
        refine lv_iand hx hb dX4_leastNotSet_23 ?_
        refine lv_if_ne (tgt := 29) hx hb dX4_leastNotSet_24 (by decide) (fun c_2 => ?_) (fun c_2 => ?_)
        · have hF := hF.trans (if_neg c_2)
          refine lv_iinc (v := l2 + 1) (lv' := [(2, .int (l2 + 1)), (1, .int l1), (0, .ref h0)]) hx hb dX4_leastNotSet_29 hl (k := 1) rfl rfl (by decide) rfl (fun ls hl => ?_)
          refine lv_goto (tgt := 12) hx hb dX4_leastNotSet_32 (by decide) ?_
          exact ih (k + 1) l1 (l2 + 1) ⟨k_s ek, by omega, by have := k_16 ek hk2 c_1; omega, by omega⟩ hF ls (lv_sub hl [1, 0, 2] rfl)
        · have hF := hF.trans (if_pos c_2)
          refine lv_iload_n hx hb dX4_leastNotSet_27 rfl (lv_at hl 1 rfl) ?_
          exact rreti hx hb hr hlocks hF.symm dX4_leastNotSet_28
  exact loop12 17 1 (v_ones ||| v_zeros) 1 ⟨rfl, by omega, by omega, by omega⟩ hF ls (lv_sub hl [1, 0, 2] rfl)
