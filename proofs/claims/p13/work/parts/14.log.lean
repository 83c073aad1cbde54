-- LeastCost$Log.has
theorem pmX1_has : mFit yX1_has 1 := ⟨by decide +kernel, by decide +kernel, by decide +kernel⟩
noncomputable def fX1_has_d (x1 : Int32) (v_size : Int32) : Int32 :=
  (if x1 < 0 then 0 else (if v_size ≤ x1 then 0 else 1))
theorem fX1_has_ex : ∃ f : Int32 → Int32 → Int32, ∀ (x1 : Int32) (v_size : Int32), f x1 v_size = fX1_has_d x1 v_size := ⟨fX1_has_d, fun _ _ => rfl⟩
noncomputable def fX1_has : Int32 → Int32 → Int32 := Classical.choose fX1_has_ex
theorem fX1_has_eq (x1 : Int32) (v_size : Int32) : fX1_has x1 v_size = fX1_has_d x1 v_size := Classical.choose_spec fX1_has_ex x1 v_size
set_option maxHeartbeats 1000000 in
set_option maxRecDepth 100000 in
theorem ctX1_has (l : Launch) (D : va_G) (cI cZ : ClassId) (h0 h0_words : Nat) (x1 : Int32) (v_size : Int32) : Met l yX1_has (gw yX1_has cX1_has 2 (some .boolean)) { frames := 0, cells := 0, slots := 0, locals := 0 } (rPc D cI cZ [.ref h0, .int x1] [(h0, .inr (1, [.ref h0_words, .int v_size]))]) (rQ (fX1_has x1 v_size)) 0 0 (fun _ => False) := by
  refine rMet (by decide) (Nat.le_of_ble_eq_true rfl) ?_
  intro p e s m below meth c hx hb hr hlocks hml hown hts hP hK hN ls hl
  have hl : lv_has ls 2 [(0, .ref h0), (1, .int x1)] := hl
  have hF := (fX1_has_eq x1 v_size).trans (fX1_has_d.eq_1 x1 v_size)
  refine lv_iload_n hx hb dX1_has_0 rfl (lv_at hl 1 rfl) ?_
  refine lv_if_lt (tgt := 16) hx hb dX1_has_1 (by decide) (fun c_1 => ?_) (fun c_1 => ?_)
  · have hF := hF.trans (if_pos c_1)
    refine lv_iconst (v := 0) hx hb dX1_has_16 (by decide) ?_
    exact rretz hx hb hr hlocks (Or.inl rfl) hF.symm dX1_has_17
  · have hF := hF.trans (if_neg c_1)
    refine lv_iload_n hx hb dX1_has_4 rfl (lv_at hl 1 rfl) ?_
    refine lv_aload_n hx hb dX1_has_5 rfl (lv_at hl 0 rfl) ?_
    refine va_get (D := D) hx hb hts inX1 hown hK hP 0 rfl rfl 1 (by decide) (hts _ kw110) (fun _ h9 => h9) rfl dX1_has_6 ?_
    refine lv_icmp_ge (tgt := 16) hx hb dX1_has_9 (by decide) (fun c_2 => ?_) (fun c_2 => ?_)
    · have hF := hF.trans (if_pos c_2)
      refine lv_iconst (v := 0) hx hb dX1_has_16 (by decide) ?_
      exact rretz hx hb hr hlocks (Or.inl rfl) hF.symm dX1_has_17
    · have hF := hF.trans (if_neg c_2)
      refine lv_iconst (v := 1) hx hb dX1_has_12 (by decide) ?_
      refine lv_goto (tgt := 17) hx hb dX1_has_13 (by decide) ?_
      exact rretz hx hb hr hlocks (Or.inr rfl) hF.symm dX1_has_17
theorem z_has (a b : Int32) : fX1_has a b = 0 ∨ fX1_has a b = 1 := by
  rw [fX1_has_eq]; unfold fX1_has_d
  split
  · exact Or.inl rfl
  · split
    · exact Or.inl rfl
    · exact Or.inr rfl
theorem has_in {i size : Int32} (h : okN 400 size) (c : ¬ fX1_has i size = 0) : vp_in i 400 := by
  rw [fX1_has_eq] at c; unfold fX1_has_d at c
  by_cases h1 : i < 0
  · rw [if_pos h1] at c; exact absurd rfl c
  · rw [if_neg h1] at c
    by_cases h2 : size ≤ i
    · rw [if_pos h2] at c; exact absurd rfl c
    · exact okN_ix h (by decide) h1 h2

-- LeastCost$Log.wordAt
theorem pmX1_wordAt : mFit yX1_wordAt 1 := ⟨by decide +kernel, by decide +kernel, by decide +kernel⟩
noncomputable def fX1_wordAt_d (x1 : Int32) (v_size : Int32) (v_words : Nat → Int32) : Int32 :=
  (if (fX1_has x1 v_size) = 0 then (-9) else v_words x1.toNatClampNeg)
theorem fX1_wordAt_ex : ∃ f : Int32 → Int32 → (Nat → Int32) → Int32, ∀ (x1 : Int32) (v_size : Int32) (v_words : Nat → Int32), f x1 v_size v_words = fX1_wordAt_d x1 v_size v_words := ⟨fX1_wordAt_d, fun _ _ _ => rfl⟩
noncomputable def fX1_wordAt : Int32 → Int32 → (Nat → Int32) → Int32 := Classical.choose fX1_wordAt_ex
theorem fX1_wordAt_eq (x1 : Int32) (v_size : Int32) (v_words : Nat → Int32) : fX1_wordAt x1 v_size v_words = fX1_wordAt_d x1 v_size v_words := Classical.choose_spec fX1_wordAt_ex x1 v_size v_words
set_option maxHeartbeats 1000000 in
set_option maxRecDepth 100000 in
theorem ctX1_wordAt (l : Launch) (D : va_G) (cI cZ : ClassId) (h0 h0_words : Nat) (x1 : Int32) (v_size : Int32) (v_words : Nat → Int32) (hL : okN 400 v_size) : Met l yX1_wordAt (gw yX1_wordAt cX1_wordAt 2 (some .int)) { frames := 1, cells := 0, slots := 0, locals := 21 } (rPc D cI cZ [.ref h0, .int x1] [(h0, .inr (1, [.ref h0_words, .int v_size])), (h0_words, .inl (cI, 400, .inl v_words))]) (rQ (fX1_wordAt x1 v_size v_words)) 0 0 (fun _ => False) := by
  refine rMet (by decide) (Nat.le_of_ble_eq_true rfl) ?_
  intro p e s m below meth c hx hb hr hlocks hml hown hts hP hK hN ls hl
  have hl : lv_has ls 2 [(0, .ref h0), (1, .int x1)] := hl
  have hF := (fX1_wordAt_eq x1 v_size v_words).trans (fX1_wordAt_d.eq_1 x1 v_size v_words)
  refine lv_aload_n hx hb dX1_wordAt_0 rfl (lv_at hl 0 rfl) ?_
  refine lv_iload_n hx hb dX1_wordAt_1 rfl (lv_at hl 1 rfl) ?_
  have hPc : va_P D vwCl [(h0, .inr (1, [.ref h0_words, .int v_size]))] _ := hP.sub [0] rfl
  refine rback (va_runV (As := [.int x1]) (rest := []) ⟨hx, hb, hml, hown, hts⟩ (ctX1_has l D cI cZ h0 h0_words x1 v_size) ⟨(cB hts kw390 kw387 kw54 pmX1_has ⟨Nat.le_of_ble_eq_true rfl, Nat.le_of_ble_eq_true rfl⟩), hts _ kw389, hts _ kw22⟩ ⟨rPc_blind, va_recv hK hP (ci := 1) (q0 := 0) rfl rfl, rpre hPc hK hN⟩ rfl rfl hl.1 rfl (lv_room (Nat.le_of_ble_eq_true rfl)) dX1_wordAt_2 ⟨Nat.zero_le _, Nat.zero_le _⟩) ?_
  refine lv_if_eq (tgt := 17) hx hb dX1_wordAt_5 (by decide) (fun c_1 => ?_) (fun c_1 => ?_)
  · have hF := hF.trans (if_pos c_1)
    refine lv_bipush (v := (-9)) hx hb dX1_wordAt_17 (by decide) ?_
    exact rreti hx hb hr hlocks hF.symm dX1_wordAt_19
  · have hF := hF.trans (if_neg c_1)
    refine lv_aload_n hx hb dX1_wordAt_8 rfl (lv_at hl 0 rfl) ?_
    refine va_get (D := D) hx hb hts inX1 hown hK hP 0 rfl rfl 0 (by decide) (hts _ kw109) (fun _ h9 => h9) rfl dX1_wordAt_9 ?_
    refine lv_iload_n hx hb dX1_wordAt_12 rfl (lv_at hl 1 rfl) ?_
    refine va_iald hx hb hK hP 1 0 rfl rfl (has_in hL c_1) dX1_wordAt_13 ?_
    refine lv_goto (tgt := 19) hx hb dX1_wordAt_14 (by decide) ?_
    exact rreti hx hb hr hlocks hF.symm dX1_wordAt_19

-- LeastCost$Log.append
theorem pmX1_append : mFit yX1_append 1 := ⟨by decide +kernel, by decide +kernel, by decide +kernel⟩
noncomputable def fX1_append_d (x1 : Int32) (v_size : Int32) (v_words : Nat → Int32) : Int32 × Int32 × (Nat → Int32) :=
  (if v_size < 400 then (1, v_size + 1, (upd v_words v_size.toNatClampNeg x1)) else (0, v_size, v_words))
theorem fX1_append_ex : ∃ f : Int32 → Int32 → (Nat → Int32) → (Int32 × Int32 × (Nat → Int32)), ∀ (x1 : Int32) (v_size : Int32) (v_words : Nat → Int32), f x1 v_size v_words = fX1_append_d x1 v_size v_words := ⟨fX1_append_d, fun _ _ _ => rfl⟩
noncomputable def fX1_append : Int32 → Int32 → (Nat → Int32) → (Int32 × Int32 × (Nat → Int32)) := Classical.choose fX1_append_ex
theorem fX1_append_eq (x1 : Int32) (v_size : Int32) (v_words : Nat → Int32) : fX1_append x1 v_size v_words = fX1_append_d x1 v_size v_words := Classical.choose_spec fX1_append_ex x1 v_size v_words
set_option maxHeartbeats 1000000 in
set_option maxRecDepth 100000 in
theorem ctX1_append (l : Launch) (D : va_G) (cI cZ : ClassId) (h0 h0_words : Nat) (x1 : Int32) (v_size : Int32) (v_words : Nat → Int32) (hL : okN 400 v_size) : Met l yX1_append (gw yX1_append cX1_append 2 (some .boolean)) { frames := 0, cells := 0, slots := 0, locals := 0 } (wPc D cI cZ [.ref h0, .int x1] [(h0, .inr (1, [.ref h0_words, .int v_size])), (h0_words, .inl (cI, 400, .inl v_words))]) (wQ D (some (.int ((fX1_append x1 v_size v_words).1))) [(h0, .inr (1, [.ref h0_words, .int v_size])), (h0_words, .inl (cI, 400, .inl v_words))] [(h0, .inr (1, [.ref h0_words, .int ((fX1_append x1 v_size v_words).2.1)])), (h0_words, .inl (cI, 400, .inl ((fX1_append x1 v_size v_words).2.2)))]) 0 0 (aw [(h0, .inr (1, [.ref h0_words, .int v_size])), (h0_words, .inl (cI, 400, .inl v_words))]) := by
  refine wMet (by decide) (Nat.le_of_ble_eq_true rfl) ?_
  intro p e s m below meth c hx hb hr hlocks hml hown hts hP hK hN hD hS ls hl
  have hl : lv_has ls 2 [(0, .ref h0), (1, .int x1)] := hl
  have hF := (fX1_append_eq x1 v_size v_words).trans (fX1_append_d.eq_1 x1 v_size v_words)
  refine lv_aload_n hx hb dX1_append_0 rfl (lv_at hl 0 rfl) ?_
  refine va_get (D := D) hx hb hts inX1 hown hK hP 0 rfl rfl 1 (by decide) (hts _ kw110) (fun _ h9 => h9) rfl dX1_append_1 ?_
  refine lv_sipush (v := 400) hx hb dX1_append_4 (by decide) ?_
  refine lv_icmp_lt (tgt := 12) hx hb dX1_append_7 (by decide) (fun c_1 => ?_) (fun c_1 => ?_)
  · have hF := hF.trans (if_pos c_1)
    refine lv_aload_n hx hb dX1_append_12 rfl (lv_at hl 0 rfl) ?_
    refine va_get (D := D) hx hb hts inX1 hown hK hP 0 rfl rfl 0 (by decide) (hts _ kw109) (fun _ h9 => h9) rfl dX1_append_13 ?_
    refine lv_aload_n hx hb dX1_append_16 rfl (lv_at hl 0 rfl) ?_
    refine va_get (D := D) hx hb hts inX1 hown hK hP 0 rfl rfl 1 (by decide) (hts _ kw110) (fun _ h9 => h9) rfl dX1_append_17 ?_
    refine lv_iload_n hx hb dX1_append_20 rfl (lv_at hl 1 rfl) ?_
    refine va_iast hx hb hK hP hD hS 1 0 rfl rfl (okN_in hL (by decide) c_1) dX1_append_21 (fun H locs hP hD hS => ?_)
    have hP : va_P D vwCl [(h0, .inr (1, [.ref h0_words, .int v_size])), (h0_words, .inl (cI, 400, .inl (upd v_words v_size.toNatClampNeg x1)))] H := hP
    have hD : va_D _ [(h0, .inr (1, [.ref h0_words, .int v_size])), (h0_words, .inl (cI, 400, .inl (upd v_words v_size.toNatClampNeg x1)))] := hD
    refine lv_aload_n hx hb dX1_append_22 rfl (lv_at hl 0 rfl) ?_
    refine lv_dup hx hb dX1_append_23 rfl ?_
    refine va_get (D := D) hx hb hts inX1 hown hK hP 0 rfl rfl 1 (by decide) (hts _ kw110) (fun _ h9 => h9) rfl dX1_append_24 ?_
    refine lv_iconst (v := 1) hx hb dX1_append_27 (by decide) ?_
    refine lv_iadd hx hb dX1_append_28 ?_
    refine va_put (D := D) (v := .int (v_size + 1)) (ty := .int) hx hb hts inX1 tyX1 tyX1_ok nmX1 hown hK hP hD hS 0 rfl rfl 1 (by decide) (hts _ kw110) (fun _ h9 => h9) rfl (by decide +kernel) rfl rfl (Nat.le_of_ble_eq_true rfl) dX1_append_29 (fun H locs hP hD hS => ?_)
    have hP : va_P D vwCl [(h0, .inr (1, [.ref h0_words, .int (v_size + 1)])), (h0_words, .inl (cI, 400, .inl (upd v_words v_size.toNatClampNeg x1)))] H := hP
    have hD : va_D _ [(h0, .inr (1, [.ref h0_words, .int (v_size + 1)])), (h0_words, .inl (cI, 400, .inl (upd v_words v_size.toNatClampNeg x1)))] := hD
    refine lv_iconst (v := 1) hx hb dX1_append_32 (by decide) ?_
    exact wretz hx hb hr hlocks (Or.inr rfl) (by rw [hF]) (by rw [hF]; exact hP) hS dX1_append_33
  · have hF := hF.trans (if_neg c_1)
    refine lv_iconst (v := 0) hx hb dX1_append_10 (by decide) ?_
    exact wretz hx hb hr hlocks (Or.inl rfl) (by rw [hF]) (by rw [hF]; exact hP) hS dX1_append_11
theorem okL_append {x size : Int32} {words : Nat → Int32} (h : okN 400 size) : okN 400 (fX1_append x size words).2.1 := by
  rw [fX1_append_eq]; unfold fX1_append_d
  split
  · rename_i c; exact okN_s h (by decide) c
  · exact h
theorem z_append {x size : Int32} {words : Nat → Int32} : (fX1_append x size words).1 = 0 ∨ (fX1_append x size words).1 = 1 := by
  rw [fX1_append_eq]; unfold fX1_append_d
  split
  · exact Or.inr rfl
  · exact Or.inl rfl

-- LeastCost$Log.replace
theorem pmX1_replace : mFit yX1_replace 2 := ⟨by decide +kernel, by decide +kernel, by decide +kernel⟩
noncomputable def fX1_replace_d (x1 : Int32) (x2 : Int32) (v_size : Int32) (v_words : Nat → Int32) : Int32 × Int32 × (Nat → Int32) :=
  (if x1 = v_size then ((fX1_append x2 v_size v_words).1, (fX1_append x2 v_size v_words).2.1, (fX1_append x2 v_size v_words).2.2) else (if (fX1_has x1 v_size) = 0 then (0, v_size, v_words) else (1, v_size, (upd v_words x1.toNatClampNeg x2))))
theorem fX1_replace_ex : ∃ f : Int32 → Int32 → Int32 → (Nat → Int32) → (Int32 × Int32 × (Nat → Int32)), ∀ (x1 : Int32) (x2 : Int32) (v_size : Int32) (v_words : Nat → Int32), f x1 x2 v_size v_words = fX1_replace_d x1 x2 v_size v_words := ⟨fX1_replace_d, fun _ _ _ _ => rfl⟩
noncomputable def fX1_replace : Int32 → Int32 → Int32 → (Nat → Int32) → (Int32 × Int32 × (Nat → Int32)) := Classical.choose fX1_replace_ex
theorem fX1_replace_eq (x1 : Int32) (x2 : Int32) (v_size : Int32) (v_words : Nat → Int32) : fX1_replace x1 x2 v_size v_words = fX1_replace_d x1 x2 v_size v_words := Classical.choose_spec fX1_replace_ex x1 x2 v_size v_words
set_option maxHeartbeats 1000000 in
set_option maxRecDepth 100000 in
theorem ctX1_replace (l : Launch) (D : va_G) (cI cZ : ClassId) (h0 h0_words : Nat) (x1 : Int32) (x2 : Int32) (v_size : Int32) (v_words : Nat → Int32) (hL : okN 400 v_size) : Met l yX1_replace (gw yX1_replace cX1_replace 3 (some .boolean)) { frames := 1, cells := 0, slots := 0, locals := 21 } (wPc D cI cZ [.ref h0, .int x1, .int x2] [(h0, .inr (1, [.ref h0_words, .int v_size])), (h0_words, .inl (cI, 400, .inl v_words))]) (wQ D (some (.int ((fX1_replace x1 x2 v_size v_words).1))) [(h0, .inr (1, [.ref h0_words, .int v_size])), (h0_words, .inl (cI, 400, .inl v_words))] [(h0, .inr (1, [.ref h0_words, .int ((fX1_replace x1 x2 v_size v_words).2.1)])), (h0_words, .inl (cI, 400, .inl ((fX1_replace x1 x2 v_size v_words).2.2)))]) 0 0 (aw [(h0, .inr (1, [.ref h0_words, .int v_size])), (h0_words, .inl (cI, 400, .inl v_words))]) := by
  refine wMet (by decide) (Nat.le_of_ble_eq_true rfl) ?_
  intro p e s m below meth c hx hb hr hlocks hml hown hts hP hK hN hD hS ls hl
  have hl : lv_has ls 3 [(0, .ref h0), (1, .int x1), (2, .int x2)] := hl
  have hF := (fX1_replace_eq x1 x2 v_size v_words).trans (fX1_replace_d.eq_1 x1 x2 v_size v_words)
  refine lv_iload_n hx hb dX1_replace_0 rfl (lv_at hl 1 rfl) ?_
  refine lv_aload_n hx hb dX1_replace_1 rfl (lv_at hl 0 rfl) ?_
  refine va_get (D := D) hx hb hts inX1 hown hK hP 0 rfl rfl 1 (by decide) (hts _ kw110) (fun _ h9 => h9) rfl dX1_replace_2 ?_
  refine lv_icmp_ne (tgt := 14) hx hb dX1_replace_5 (by decide) (fun c_1 => ?_) (fun c_1 => ?_)
  · have hF := hF.trans (if_neg c_1)
    refine lv_aload_n hx hb dX1_replace_14 rfl (lv_at hl 0 rfl) ?_
    refine lv_iload_n hx hb dX1_replace_15 rfl (lv_at hl 1 rfl) ?_
    have hPc : va_P D vwCl [(h0, .inr (1, [.ref h0_words, .int v_size]))] _ := hP.sub [0] rfl
    refine rback (va_runV (As := [.int x1]) (rest := []) ⟨hx, hb, hml, hown, hts⟩ (ctX1_has l D cI cZ h0 h0_words x1 v_size) ⟨(cB hts kw390 kw387 kw54 pmX1_has ⟨Nat.le_of_ble_eq_true rfl, Nat.le_of_ble_eq_true rfl⟩), hts _ kw389, hts _ kw22⟩ ⟨rPc_blind, va_recv hK hP (ci := 1) (q0 := 0) rfl rfl, rpre hPc hK hN⟩ rfl rfl hl.1 rfl (lv_room (Nat.le_of_ble_eq_true rfl)) dX1_replace_16 ⟨Nat.zero_le _, Nat.zero_le _⟩) ?_
    refine lv_if_ne (tgt := 24) hx hb dX1_replace_19 (by decide) (fun c_2 => ?_) (fun c_2 => ?_)
    · have hF := hF.trans (if_neg c_2)
      refine lv_aload_n hx hb dX1_replace_24 rfl (lv_at hl 0 rfl) ?_
      refine va_get (D := D) hx hb hts inX1 hown hK hP 0 rfl rfl 0 (by decide) (hts _ kw109) (fun _ h9 => h9) rfl dX1_replace_25 ?_
      refine lv_iload_n hx hb dX1_replace_28 rfl (lv_at hl 1 rfl) ?_
      refine lv_iload_n hx hb dX1_replace_29 rfl (lv_at hl 2 rfl) ?_
      refine va_iast hx hb hK hP hD hS 1 0 rfl rfl (has_in hL c_2) dX1_replace_30 (fun H locs hP hD hS => ?_)
      have hP : va_P D vwCl [(h0, .inr (1, [.ref h0_words, .int v_size])), (h0_words, .inl (cI, 400, .inl (upd v_words x1.toNatClampNeg x2)))] H := hP
      have hD : va_D _ [(h0, .inr (1, [.ref h0_words, .int v_size])), (h0_words, .inl (cI, 400, .inl (upd v_words x1.toNatClampNeg x2)))] := hD
      refine lv_iconst (v := 1) hx hb dX1_replace_31 (by decide) ?_
      exact wretz hx hb hr hlocks (Or.inr rfl) (by rw [hF]) (by rw [hF]; exact hP) hS dX1_replace_32
    · have hF := hF.trans (if_pos c_2)
      refine lv_iconst (v := 0) hx hb dX1_replace_22 (by decide) ?_
      exact wretz hx hb hr hlocks (Or.inl rfl) (by rw [hF]) (by rw [hF]; exact hP) hS dX1_replace_23
  · have hF := hF.trans (if_pos c_1)
    refine lv_aload_n hx hb dX1_replace_8 rfl (lv_at hl 0 rfl) ?_
    refine lv_iload_n hx hb dX1_replace_9 rfl (lv_at hl 2 rfl) ?_
    have hPc : va_P D vwCl [(h0, .inr (1, [.ref h0_words, .int v_size])), (h0_words, .inl (cI, 400, .inl v_words))] _ := hP.sub [0, 1] rfl
    refine wback (ws' := [(h0, .inr (1, [.ref h0_words, .int ((fX1_append x2 v_size v_words).2.1)])), (h0_words, .inl (cI, 400, .inl ((fX1_append x2 v_size v_words).2.2)))]) [0, 1] (va_runV (As := [.int x2]) (rest := []) ⟨hx, hb, hml, hown, hts⟩ (ctX1_append l D cI cZ h0 h0_words x2 v_size v_words hL) ⟨(cB hts kw322 kw399 kw54 pmX1_append ⟨Nat.le_of_ble_eq_true rfl, Nat.le_of_ble_eq_true rfl⟩), hts _ kw321, hts _ kw10⟩ ⟨wPc_blind, va_recv hK hP (ci := 1) (q0 := 0) rfl rfl, wpre hPc hK hN (hD.sub (ws' := [(h0, .inr (1, [.ref h0_words, .int v_size])), (h0_words, .inl (cI, 400, .inl v_words))]) [0, 1] (by decide) rfl)⟩ rfl rfl hl.1 rfl (lv_room (Nat.le_of_ble_eq_true rfl)) dX1_replace_10 ⟨Nat.zero_le _, Nat.zero_le _⟩) hP hD hS rfl rfl rfl rfl (fun H locs hP hD hS => ?_)
    exact wretz hx hb hr hlocks z_append (by rw [hF]) (by rw [hF]; exact hP) hS dX1_replace_13
theorem okL_replace {x1 x2 size : Int32} {words : Nat → Int32} (h : okN 400 size) : okN 400 (fX1_replace x1 x2 size words).2.1 := by
  rw [fX1_replace_eq]; unfold fX1_replace_d
  split
  · exact okL_append h
  · split
    · exact h
    · exact h
theorem z_replace {x1 x2 size : Int32} {words : Nat → Int32} : (fX1_replace x1 x2 size words).1 = 0 ∨ (fX1_replace x1 x2 size words).1 = 1 := by
  rw [fX1_replace_eq]; unfold fX1_replace_d
  split
  · exact z_append
  · split
    · exact Or.inl rfl
    · exact Or.inr rfl

-- LeastCost$Log.shorten
theorem pmX1_shorten : mFit yX1_shorten 1 := ⟨by decide +kernel, by decide +kernel, by decide +kernel⟩
noncomputable def fX1_shorten_d (x1 : Int32) (v_size : Int32) : Int32 × Int32 :=
  (if (fX5_isWithin x1 0 v_size) = 0 then (0, v_size) else (1, x1))
theorem fX1_shorten_ex : ∃ f : Int32 → Int32 → (Int32 × Int32), ∀ (x1 : Int32) (v_size : Int32), f x1 v_size = fX1_shorten_d x1 v_size := ⟨fX1_shorten_d, fun _ _ => rfl⟩
noncomputable def fX1_shorten : Int32 → Int32 → (Int32 × Int32) := Classical.choose fX1_shorten_ex
theorem fX1_shorten_eq (x1 : Int32) (v_size : Int32) : fX1_shorten x1 v_size = fX1_shorten_d x1 v_size := Classical.choose_spec fX1_shorten_ex x1 v_size
set_option maxHeartbeats 1000000 in
set_option maxRecDepth 100000 in
theorem ctX1_shorten (l : Launch) (D : va_G) (cI cZ : ClassId) (h0 h0_words : Nat) (x1 : Int32) (v_size : Int32) : Met l yX1_shorten (gw yX1_shorten cX1_shorten 2 (some .boolean)) { frames := 1, cells := 0, slots := 0, locals := 22 } (wPc D cI cZ [.ref h0, .int x1] [(h0, .inr (1, [.ref h0_words, .int v_size]))]) (wQ D (some (.int ((fX1_shorten x1 v_size).1))) [(h0, .inr (1, [.ref h0_words, .int v_size]))] [(h0, .inr (1, [.ref h0_words, .int ((fX1_shorten x1 v_size).2)]))]) 0 0 (aw [(h0, .inr (1, [.ref h0_words, .int v_size]))]) := by
  refine wMet (by decide) (Nat.le_of_ble_eq_true rfl) ?_
  intro p e s m below meth c hx hb hr hlocks hml hown hts hP hK hN hD hS ls hl
  have hl : lv_has ls 2 [(0, .ref h0), (1, .int x1)] := hl
  have hF := (fX1_shorten_eq x1 v_size).trans (fX1_shorten_d.eq_1 x1 v_size)
  refine lv_iload_n hx hb dX1_shorten_0 rfl (lv_at hl 1 rfl) ?_
  refine lv_iconst (v := 0) hx hb dX1_shorten_1 (by decide) ?_
  refine lv_aload_n hx hb dX1_shorten_2 rfl (lv_at hl 0 rfl) ?_
  refine va_get (D := D) hx hb hts inX1 hown hK hP 0 rfl rfl 1 (by decide) (hts _ kw110) (fun _ h9 => h9) rfl dX1_shorten_3 ?_
  have hPc : va_P D vwCl [] _ := hP.sub [] rfl
  refine rback (va_runSN (As := [.int x1, .int 0, .int v_size]) (rest := []) ⟨hx, hb, hml, hown, hts⟩ (ctX5_isWithin l D cI cZ x1 0 v_size) ⟨(cN hts kw254 (hN _ kn38) kw52 pmX5_isWithin ⟨Nat.le_of_ble_eq_true rfl, Nat.le_of_ble_eq_true rfl⟩), hts _ kw253, trivial⟩ ⟨rPc_blind, rpre hPc hK hN⟩ rfl rfl hl.1 rfl (lv_room (Nat.le_of_ble_eq_true rfl)) dX1_shorten_6 ⟨Nat.zero_le _, Nat.zero_le _⟩) ?_
  refine lv_if_ne (tgt := 14) hx hb dX1_shorten_9 (by decide) (fun c_1 => ?_) (fun c_1 => ?_)
  · have hF := hF.trans (if_neg c_1)
    refine lv_aload_n hx hb dX1_shorten_14 rfl (lv_at hl 0 rfl) ?_
    refine lv_iload_n hx hb dX1_shorten_15 rfl (lv_at hl 1 rfl) ?_
    refine va_put (D := D) (v := .int x1) (ty := .int) hx hb hts inX1 tyX1 tyX1_ok nmX1 hown hK hP hD hS 0 rfl rfl 1 (by decide) (hts _ kw110) (fun _ h9 => h9) rfl (by decide +kernel) rfl rfl (Nat.le_of_ble_eq_true rfl) dX1_shorten_16 (fun H locs hP hD hS => ?_)
    have hP : va_P D vwCl [(h0, .inr (1, [.ref h0_words, .int x1]))] H := hP
    have hD : va_D _ [(h0, .inr (1, [.ref h0_words, .int x1]))] := hD
    refine lv_iconst (v := 1) hx hb dX1_shorten_19 (by decide) ?_
    exact wretz hx hb hr hlocks (Or.inr rfl) (by rw [hF]) (by rw [hF]; exact hP) hS dX1_shorten_20
  · have hF := hF.trans (if_pos c_1)
    refine lv_iconst (v := 0) hx hb dX1_shorten_12 (by decide) ?_
    exact wretz hx hb hr hlocks (Or.inl rfl) (by rw [hF]) (by rw [hF]; exact hP) hS dX1_shorten_13
theorem isWithin_of {a b c : Int32} (h : ¬ fX5_isWithin a b c = 0) : ¬ a < b ∧ ¬ c < a := by
  rw [fX5_isWithin_eq] at h; unfold fX5_isWithin_d at h
  by_cases h1 : a < b
  · rw [if_pos h1] at h; exact absurd rfl h
  · rw [if_neg h1] at h
    by_cases h2 : c < a
    · rw [if_pos h2] at h; exact absurd rfl h
    · exact ⟨h1, h2⟩
theorem okN_of {N : Nat} {x M : Int32} (hM : okN N M) (hN : N < 2 ^ 31) (h0 : ¬ x < 0) (h1 : ¬ M < x) : okN N x := by
  obtain ⟨n, rfl, hn⟩ := hM
  obtain ⟨j, hj, rfl⟩ := nI_of h0
  exact ⟨j, rfl, by have := k_nlt hj h1; omega⟩
theorem okL_shorten {x1 size : Int32} (h : okN 400 size) : okN 400 (fX1_shorten x1 size).2 := by
  rw [fX1_shorten_eq]; unfold fX1_shorten_d
  split
  · exact h
  · rename_i c
    have := isWithin_of c
    exact okN_of h (by decide) this.1 this.2
