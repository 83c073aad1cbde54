-- ===== the search: the set variables as a list, the newest first: (variable, its value, is it a choice) =====
abbrev Ent : Type := Nat × Bool × Bool
def oE : List Ent → Int32
  | [] => 0
  | (i, b, _) :: E => if b = true then oE E ||| bI i else oE E
def zE : List Ent → Int32
  | [] => 0
  | (i, b, _) :: E => if b = true then zE E else zE E ||| bI i
/-- how many choices are 0 -/
def kE : List Ent → Nat
  | [] => 0
  | (_, b, c) :: E => if b = false ∧ c = true then kE E + 1 else kE E
def okE : List Ent → Prop
  | [] => True
  | (i, _, _) :: E => i < 16 ∧ bt (oE E) i = false ∧ bt (zE E) i = false ∧ okE E
def trE (tr co : Nat → Int32) : List Ent → Prop
  | [] => True
  | (i, _, c) :: E => tr E.length = nI (i + 1) ∧ co E.length = (if c = true then 1 else 0) ∧ trE tr co E
def stE (ch ob zb : Nat → Int32) : List Ent → Prop
  | [] => True
  | (i, b, c) :: E => (b = false → c = true → ch (kE E) = nI (i + 1) ∧ ob (kE E) = oE E ∧ zb (kE E) = zE E) ∧ stE ch ob zb E
theorem or_zero (x : Int32) : x ||| 0 = x := b_ext fun i _ => by rw [b_or, b_0, Bool.or_false]
theorem dj_E : ∀ E : List Ent, okE E → dj (oE E) (zE E)
  | [], _ => fun i _ h => by rw [show oE [] = 0 from rfl, b_0] at h; exact absurd h.1 (by decide)
  | (i, b, c) :: E, h => by
    obtain ⟨hi, h1, h2, h3⟩ := h
    have ih := dj_E E h3
    intro j hj
    cases b
    · show ¬ (bt (oE E) j = true ∧ bt (zE E ||| bI i) j = true)
      rw [bt_setb (by omega) (by omega)]
      by_cases e : j = i
      · subst e; rw [h1]; exact fun q => absurd q.1 (by decide)
      · rw [decide_eq_false e, Bool.or_false]; exact ih j hj
    · show ¬ (bt (oE E ||| bI i) j = true ∧ bt (zE E) j = true)
      rw [bt_setb (by omega) (by omega)]
      by_cases e : j = i
      · subst e; rw [h2]; exact fun q => absurd q.2 (by decide)
      · rw [decide_eq_false e, Bool.or_false]; exact ih j hj
theorem oz_cons (i : Nat) (b c : Bool) (E : List Ent) : oE ((i, b, c) :: E) ||| zE ((i, b, c) :: E) = (oE E ||| zE E) ||| bI i := by
  apply b_ext
  intro j _
  cases b
  · show bt (oE E ||| (zE E ||| bI i)) j = _
    rw [b_or, b_or, b_or, b_or, Bool.or_assoc]
  · show bt ((oE E ||| bI i) ||| zE E) j = _
    rw [b_or, b_or, b_or, b_or, Bool.or_assoc, Bool.or_comm (bt (bI i) j), Bool.or_assoc]
theorem oz_free {i : Nat} {b c : Bool} {E : List Ent} (h : okE ((i, b, c) :: E)) : bt (oE E ||| zE E) i = false := by
  rw [b_or, h.2.1, h.2.2.1]; rfl
theorem len_cnt : ∀ E : List Ent, okE E → cnt (oE E ||| zE E) = E.length
  | [], _ => by rw [show oE [] ||| zE [] = 0 from rfl, cnt_0]; rfl
  | (i, b, c) :: E, h => by
    rw [oz_cons, cnt_set h.1 (oz_free h), len_cnt E h.2.2.2]; rfl
theorem kE_le : ∀ E : List Ent, kE E ≤ E.length
  | [] => Nat.le_refl 0
  | (i, b, c) :: E => by
    have := kE_le E
    show (if b = false ∧ c = true then kE E + 1 else kE E) ≤ E.length + 1
    split <;> omega
theorem clr_oz {i : Nat} {b c : Bool} {E : List Ent} (h : okE ((i, b, c) :: E)) : (oE ((i, b, c) :: E) ||| zE ((i, b, c) :: E)) &&& (bI i ^^^ (-1)) = oE E ||| zE E := by
  have hf := oz_free h
  have hi := h.1
  rw [oz_cons]
  apply b_ext
  intro j hj
  rw [bt_clr (by omega) hj, bt_setb (by omega) hj]
  by_cases e : j = i
  · subst e; rw [hf, decide_eq_true rfl]; rfl
  · rw [decide_eq_false e, Bool.or_false, Bool.not_false, Bool.and_true]
theorem clr_o {i : Nat} {b c : Bool} {E : List Ent} (h : okE ((i, b, c) :: E)) : oE ((i, b, c) :: E) &&& (bI i ^^^ (-1)) = oE E := by
  have hi := h.1
  apply b_ext
  intro j hj
  rw [bt_clr (by omega) hj]
  cases b
  · show (bt (oE E) j && !decide (j = i)) = bt (oE E) j
    by_cases e : j = i
    · subst e; rw [h.2.1]; rfl
    · rw [decide_eq_false e, Bool.not_false, Bool.and_true]
  · show (bt (oE E ||| bI i) j && !decide (j = i)) = bt (oE E) j
    rw [bt_setb (by omega) hj]
    by_cases e : j = i
    · subst e; rw [h.2.1, decide_eq_true rfl]; rfl
    · rw [decide_eq_false e, Bool.or_false, Bool.not_false, Bool.and_true]
theorem trE_upd {tr co : Nat → Int32} {k : Nat} {x y : Int32} : ∀ E : List Ent, E.length ≤ k → trE tr co E → trE (upd tr k x) (upd co k y) E
  | [], _, _ => trivial
  | (i, b, c) :: E, hk, h => by
    have hk2 : E.length + 1 ≤ k := hk
    exact ⟨by rw [pk_un (by omega)]; exact h.1, by rw [pk_un (by omega)]; exact h.2.1, trE_upd E (by omega) h.2.2⟩
theorem stE_upd {ch ob zb : Nat → Int32} {k : Nat} {x y w : Int32} : ∀ E : List Ent, kE E ≤ k → stE ch ob zb E → stE (upd ch k x) (upd ob k y) (upd zb k w) E
  | [], _, _ => trivial
  | (i, b, c) :: E, hk, h => by
    have hk2 : (if b = false ∧ c = true then kE E + 1 else kE E) ≤ k := hk
    refine ⟨fun hb hc => ?_, stE_upd E (by split at hk2 <;> omega) h.2⟩
    rw [if_pos ⟨hb, hc⟩] at hk2
    rw [pk_un (by omega), pk_un (by omega), pk_un (by omega)]
    exact h.1 hb hc
theorem mkT_pos {i : Nat} (hi : i < 16) (a b : Int32) : fX4_makeTrue (nI (i + 1)) a b = (a ||| bI i, b) := by
  obtain ⟨f1, f2, f3, f4, f5, f6, f7⟩ := lit_facts i hi
  rw [fX4_makeTrue_eq]; unfold fX4_makeTrue_d
  rw [if_neg f2, fX5_variableOf_eq]; unfold fX5_variableOf_d
  rw [if_pos f1, bitOf_I]
theorem mkT_neg {i : Nat} (hi : i < 16) (a b : Int32) : fX4_makeTrue (-nI (i + 1)) a b = (a, b ||| bI i) := by
  obtain ⟨f1, f2, f3, f4, f5, f6, f7⟩ := lit_facts i hi
  rw [fX4_makeTrue_eq]; unfold fX4_makeTrue_d
  rw [if_pos f4, fX5_variableOf_eq]; unfold fX5_variableOf_d
  rw [if_neg f3, f5, bitOf_I]
theorem lay_eq {i : Nat} (one ch : Int32) (se os dm : Int32) (tr co : Nat → Int32) : fX6_lay (nI (i + 1)) one ch se os dm tr co = (se ||| bI i, (if one = 0 then os &&& (bI i ^^^ (-1)) else os ||| bI i), dm + 1, upd tr dm.toNatClampNeg (nI (i + 1)), upd co dm.toNatClampNeg (vp_nar .boolean ch)) := by
  rw [fX6_lay_eq]; unfold fX6_lay_d
  rw [fX6_put_eq]; unfold fX6_put_d
  rw [nI_pred]
  show ((if one = 0 then (se ||| bI i, os &&& (bI i ^^^ (-1))) else (se ||| bI i, os ||| bI i)).1, (if one = 0 then (se ||| bI i, os &&& (bI i ^^^ (-1))) else (se ||| bI i, os ||| bI i)).2, _) = _
  by_cases h : one = 0
  · rw [if_pos h, if_pos h]
  · rw [if_neg h, if_neg h]
theorem clr_free {x : Int32} {i : Nat} (hi : i < 16) (h : bt x i = false) : x &&& (bI i ^^^ (-1)) = x := by
  apply b_ext
  intro j hj
  rw [bt_clr (by omega) hj]
  by_cases e : j = i
  · subst e; rw [h]; rfl
  · rw [decide_eq_false e, Bool.not_false, Bool.and_true]
section W
variable {x sta ov sz : Int32} {wd : Nat → Int32}
theorem wr_full (h : sz = 400) : fX3_writes x sta sz wd = (0, -2, sz, wd) ∧ fX6_write x ov sz wd = (0, 1, sz, wd) := by
  have ha : fX1_append x sz wd = (0, sz, wd) := by
    rw [fX1_append_eq]; unfold fX1_append_d; rw [if_neg (by rw [h]; decide)]
  constructor
  · rw [fX3_writes_eq]; unfold fX3_writes_d; rw [ha]; rfl
  · rw [fX6_write_eq]; unfold fX6_write_d; rw [if_pos h]
theorem wr_ok (hL : okN 400 sz) (h : ¬ sz = 400) : fX3_writes x sta sz wd = (1, sta, sz + 1, upd wd sz.toNatClampNeg x) ∧ fX6_write x ov sz wd = (1, ov, sz + 1, upd wd sz.toNatClampNeg x) := by
  have hlt : sz < 400 := by
    obtain ⟨n, rfl, hn⟩ := hL
    rcases Nat.lt_or_ge n 400 with q | q
    · exact nI_lt q (by decide)
    · exact absurd (show nI n = nI 400 by rw [show n = 400 by omega]) h
  have ha : fX1_append x sz wd = (1, sz + 1, upd wd sz.toNatClampNeg x) := by
    rw [fX1_append_eq]; unfold fX1_append_d; rw [if_pos hlt]
  constructor
  · rw [fX3_writes_eq]; unfold fX3_writes_d; rw [ha]; rfl
  · rw [fX6_write_eq]; unfold fX6_write_d; rw [if_neg h]
end W
/-- the reference's way back over the list -/
theorem back_none {F1 F2 F3 F4 F5 F6 F7 F8 : Int32} {F9 F10 F11 tr co lg : Nat → Int32} {dn ov s1 : Int32} : ∀ (E : List Ent) (n : Nat), okE E → trE tr co E → kE E = 0 → E.length < n → ∃ m, fX6_goBack_L9 F1 F2 F3 F4 F5 F6 F7 F8 F9 F10 F11 n dn ov (oE E ||| zE E) (oE E) (nI E.length) s1 tr co lg = fX6_goBack_L9 F1 F2 F3 F4 F5 F6 F7 F8 F9 F10 F11 (m + 1) dn ov 0 0 0 s1 tr co lg
  | [], n, _, _, _, hn => ⟨n - 1, by obtain ⟨m, rfl⟩ : ∃ m, n = m + 1 := ⟨n - 1, by have : 0 < n := hn; omega⟩; rfl⟩
  | (i, b, c) :: E, 0, _, _, _, hn => absurd hn (by omega)
  | (i, b, c) :: E, n + 1, hE, hT, hk, hn => by
    have hi := hE.1
    have hl16 : E.length < 16 := by
      have h1 := len_cnt _ hE
      have h2 := cnt_le (oE ((i, b, c) :: E) ||| zE ((i, b, c) :: E))
      have h3 : ((i, b, c) :: E).length = E.length + 1 := rfl
      omega
    have hlt : E.length < n := by have : E.length + 1 < n + 1 := hn; omega
    have hk2 : (if b = false ∧ c = true then kE E + 1 else kE E) = 0 := hk
    have hbc : ¬ (b = false ∧ c = true) := fun q => by rw [if_pos q] at hk2; omega
    rw [if_neg hbc] at hk2
    obtain ⟨m, hm⟩ := back_none (dn := dn) (ov := ov) (s1 := s1) (lg := lg) (F1 := F1) (F2 := F2) (F3 := F3) (F4 := F4) (F5 := F5) (F6 := F6) (F7 := F7) (F8 := F8) (F9 := F9) (F10 := F10) (F11 := F11) E n hE.2.2.2 hT.2.2 hk2 hlt
    refine ⟨m, ?_⟩
    rw [fX6_goBack_L9.eq_2]
    have e1 : nI ((i, b, c) :: E).length - 1 = nI E.length := nI_pred _
    rw [if_neg (show ¬ nI ((i, b, c) :: E).length ≤ 0 from nI_nle (Nat.succ_pos _) (by show E.length + 1 < _; omega)), e1, nI_clamp (by omega), hT.1, hT.2.1, nI_pred, isOne_I (by omega)]
    rw [show ((1 : Int32) <<< (nI i &&& 31)) = bI i from rfl, clr_oz hE, clr_o hE, hm]
    cases c
    · rfl
    · cases b
      · exact absurd ⟨rfl, rfl⟩ hbc
      · rw [if_neg (by decide), if_neg (by rw [show oE ((i, true, true) :: E) = oE E ||| bI i from rfl, bt_setb (by omega) (by omega), decide_eq_true rfl, Bool.or_true]; decide)]
theorem back_some {F1 F2 F3 F4 F5 F6 F7 F8 : Int32} {F9 F10 F11 tr co lg ch ob zb : Nat → Int32} {dn ov s1 : Int32} : ∀ (E : List Ent) (n : Nat), okE E → trE tr co E → stE ch ob zb E → 0 < kE E → E.length < n → ∃ (i : Nat) (E0 : List Ent), okE ((i, true, true) :: E0) ∧ trE tr co E0 ∧ stE ch ob zb E0 ∧ kE E = kE E0 + 1 ∧ ch (kE E0) = nI (i + 1) ∧ ob (kE E0) = oE E0 ∧ zb (kE E0) = zE E0 ∧ fX6_goBack_L9 F1 F2 F3 F4 F5 F6 F7 F8 F9 F10 F11 n dn ov (oE E ||| zE E) (oE E) (nI E.length) s1 tr co lg = (dn, ov, (oE E0 ||| zE E0) ||| bI i, oE E0 ||| bI i, nI (E0.length + 1), s1, upd tr E0.length (nI (i + 1)), upd co E0.length 1, lg)
  | [], n, _, _, _, hk, _ => absurd hk (by decide)
  | (i, b, c) :: E, 0, _, _, _, _, hn => absurd hn (by omega)
  | (i, b, c) :: E, n + 1, hE, hT, hS, hk, hn => by
    have hi := hE.1
    have hl16 : E.length < 16 := by
      have h1 := len_cnt _ hE
      have h2 := cnt_le (oE ((i, b, c) :: E) ||| zE ((i, b, c) :: E))
      have h3 : ((i, b, c) :: E).length = E.length + 1 := rfl
      omega
    have hlt : E.length < n := by have : E.length + 1 < n + 1 := hn; omega
    have e1 : nI ((i, b, c) :: E).length - 1 = nI E.length := nI_pred _
    have hstep : fX6_goBack_L9 F1 F2 F3 F4 F5 F6 F7 F8 F9 F10 F11 (n + 1) dn ov (oE ((i, b, c) :: E) ||| zE ((i, b, c) :: E)) (oE ((i, b, c) :: E)) (nI ((i, b, c) :: E).length) s1 tr co lg = (if b = false ∧ c = true then (dn, ov, (oE E ||| zE E) ||| bI i, oE E ||| bI i, nI (E.length + 1), s1, upd tr E.length (nI (i + 1)), upd co E.length 1, lg) else fX6_goBack_L9 F1 F2 F3 F4 F5 F6 F7 F8 F9 F10 F11 n dn ov (oE E ||| zE E) (oE E) (nI E.length) s1 tr co lg) := by
      rw [fX6_goBack_L9.eq_2]
      rw [if_neg (show ¬ nI ((i, b, c) :: E).length ≤ 0 from nI_nle (Nat.succ_pos _) (by show E.length + 1 < _; omega)), e1, nI_clamp (by omega), hT.1, hT.2.1, nI_pred, isOne_I (by omega)]
      rw [show ((1 : Int32) <<< (nI i &&& 31)) = bI i from rfl, clr_oz hE, clr_o hE, lay_eq, nI_clamp (by omega), nI_1]
      cases c
      · rw [if_neg (show ¬ (b = false ∧ false = true) from fun q => absurd q.2 (by decide))]; rfl
      · cases b
        · rw [if_neg (by decide), if_pos (by rw [show oE ((i, false, true) :: E) = oE E from rfl, hE.2.1]; rfl), if_neg (show ¬ (1 : Int32) = 0 by decide), if_pos (show false = false ∧ true = true from ⟨rfl, rfl⟩)]; rfl
        · rw [if_neg (by decide), if_neg (by rw [show oE ((i, true, true) :: E) = oE E ||| bI i from rfl, bt_setb (by omega) (by omega), decide_eq_true rfl, Bool.or_true]; decide), if_neg (show ¬ (true = false ∧ true = true) from fun q => absurd q.1 (by decide))]
    by_cases hbc : b = false ∧ c = true
    · rw [if_pos hbc] at hstep
      have hs := hS.1 hbc.1 hbc.2
      exact ⟨i, E, ⟨hi, hE.2.1, hE.2.2.1, hE.2.2.2⟩, hT.2.2, hS.2, by show (if b = false ∧ c = true then kE E + 1 else kE E) = _; rw [if_pos hbc], hs.1, hs.2.1, hs.2.2, hstep⟩
    · rw [if_neg hbc] at hstep
      have hk2 : (if b = false ∧ c = true then kE E + 1 else kE E) = kE E := if_neg hbc
      have hk3 : 0 < kE E := by have h9 : 0 < (if b = false ∧ c = true then kE E + 1 else kE E) := hk; rw [hk2] at h9; exact h9
      obtain ⟨j, E0, r1, r2, r3, r4, r5, r6, r7, r8⟩ := back_some (dn := dn) (ov := ov) (s1 := s1) (lg := lg) (F1 := F1) (F2 := F2) (F3 := F3) (F4 := F4) (F5 := F5) (F6 := F6) (F7 := F7) (F8 := F8) (F9 := F9) (F10 := F10) (F11 := F11) E n hE.2.2.2 hT.2.2 hS.2 hk3 hlt
      exact ⟨j, E0, r1, r2, r3, by show (if b = false ∧ c = true then kE E + 1 else kE E) = _; rw [hk2]; exact r4, r5, r6, r7, by rw [hstep]; exact r8⟩
