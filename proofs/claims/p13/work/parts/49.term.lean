-- ===== term =====
theorem lit_inj2 : ∀ i, i < 16 → ∀ j, j < 16 → (nI (i + 1) = nI (j + 1) → i = j) ∧ (-nI (i + 1) = -nI (j + 1) → i = j) ∧ ¬ nI (i + 1) = -nI (j + 1) ∧ ¬ -nI (i + 1) = nI (j + 1) := by decide +kernel
theorem lit_inj {x : Int32} {i j : Nat} (h1 : litI x i) (h2 : litI x j) : i = j := by
  obtain ⟨hi, h1⟩ := h1
  obtain ⟨hj, h2⟩ := h2
  have q := lit_inj2 i hi j hj
  rcases h1 with rfl | rfl
  · rcases h2 with h2 | h2
    · exact q.1 h2
    · exact absurd h2 q.2.2.1
  · rcases h2 with h2 | h2
    · exact absurd h2 q.2.2.2
    · exact q.2.1 h2
theorem lit_eq_iff {x y : Int32} {i : Nat} (hx : litI x i) : (y = x ∨ y = -x) ↔ litI y i := by
  obtain ⟨hi, hx⟩ := hx
  obtain ⟨f1, f2, f3, f4, f5, f6, f7⟩ := lit_facts i hi
  constructor
  · rintro (rfl | rfl)
    · exact ⟨hi, hx⟩
    · rcases hx with rfl | rfl
      · exact ⟨hi, Or.inr rfl⟩
      · exact ⟨hi, Or.inl f5⟩
  · rintro ⟨_, hy⟩
    rcases hx with rfl | rfl
    · exact hy
    · rw [f5]; exact hy.symm
theorem var_lit {x : Int32} (h : ¬ fX5_isVariable (fX5_variableOf x) = 0) : ∃ i, litI x i ∧ fX5_variableOf x = nI (i + 1) := by
  rw [fX5_isVariable_eq] at h; unfold fX5_isVariable_d at h
  have h1 := isWithin_of h
  have h0 : ¬ fX5_variableOf x < 0 := by
    have a := h1.1
    rw [Int32.lt_iff_toInt_lt] at a ⊢
    rw [show (1 : Int32).toInt = 1 from rfl] at a
    rw [Int32.toInt_zero]; omega
  obtain ⟨k, ek, hk⟩ := okN_of (N := 16) (M := 16) ⟨16, rfl, Nat.le_refl _⟩ (by decide) h0 h1.2
  have hk1 : 1 ≤ k := by
    have a := h1.1
    rw [ek, Int32.lt_iff_toInt_lt, show (1 : Int32).toInt = 1 from rfl, nI_toInt (by omega)] at a
    omega
  obtain ⟨i, rfl⟩ : ∃ i, k = i + 1 := ⟨k - 1, by omega⟩
  refine ⟨i, ⟨by omega, ?_⟩, ek⟩
  rw [fX5_variableOf_eq] at ek; unfold fX5_variableOf_d at ek
  by_cases hx : (0 : Int32) ≤ x
  · rw [if_pos hx] at ek; exact Or.inl ek
  · rw [if_neg hx] at ek; exact Or.inr (by rw [← ek, Int32.neg_neg])
section T
variable {x1 x2 cons te begun : Int32} {factors lits begins : Nat → Int32}
theorem term_L0 (n : Nat) (l5 : Int32) : fX6_term_L75 x1 x2 cons te begun factors lits begins (n + 1) 0 l5 = (-1, te, factors, lits) := by
  rw [fX6_term_L75.eq_2, if_pos rfl, if_pos rfl]
theorem term_free {T i : Nat} (hT : T ≤ 120) (et : te = nI T) (hx : litI x2 i) : ∀ (n k : Nat), k ≤ T → T < k + n → (∀ t, k ≤ t → t < T → ¬ litI (lits t) i) → fX6_term_L75 x1 x2 cons te begun factors lits begins n 1 (nI k) = (0, te + 1, upd factors te.toNatClampNeg x1, upd lits te.toNatClampNeg x2) := by
  intro n
  induction n with
  | zero => intro k h1 h2; exact absurd h2 (by omega)
  | succ n ih =>
    intro k h1 h2 h3
    rw [fX6_term_L75.eq_2, if_neg (show ¬ (1 : Int32) = 0 by decide)]
    by_cases h : te ≤ nI k
    · rw [if_pos h, if_neg (show ¬ (1 : Int32) = 0 by decide)]
    · have hk := k_le2 (x := nI k) rfl et (by omega) h
      have hn := h3 k (Nat.le_refl k) hk
      rw [if_neg h, nI_clamp (show k < 2 ^ 31 by omega), if_neg (fun q => hn ((lit_eq_iff hx).mp (Or.inl q))), if_neg (fun q => hn ((lit_eq_iff hx).mp (Or.inr q))), nI_1]
      exact ih (k + 1) (by omega) (by omega) (fun t q1 q2 => h3 t (by omega) q2)
theorem term_taken {T i : Nat} (hT : T ≤ 120) (et : te = nI T) (hx : litI x2 i) : ∀ (n k : Nat), k ≤ T → T + 1 < k + n → (∃ t, k ≤ t ∧ t < T ∧ litI (lits t) i) → fX6_term_L75 x1 x2 cons te begun factors lits begins n 1 (nI k) = (-1, te, factors, lits) := by
  intro n
  induction n with
  | zero => intro k h1 h2; exact absurd h2 (by omega)
  | succ n ih =>
    intro k h1 h2 h3
    obtain ⟨t, q1, q2, q3⟩ := h3
    have hk : k < T := by omega
    obtain ⟨n', rfl⟩ : ∃ n', n = n' + 1 := ⟨n - 1, by omega⟩
    rw [fX6_term_L75.eq_2, if_neg (show ¬ (1 : Int32) = 0 by decide), if_neg (show ¬ te ≤ nI k by rw [et]; exact nI_ge hk (by omega)), nI_clamp (show k < 2 ^ 31 by omega)]
    by_cases h4 : litI (lits k) i
    · rcases (lit_eq_iff hx).mpr h4 with e | e
      · rw [if_pos e]; exact term_L0 _ _
      · by_cases e2 : lits k = x2
        · rw [if_pos e2]; exact term_L0 _ _
        · rw [if_neg e2, if_pos e]; exact term_L0 _ _
    · rw [if_neg (fun q => h4 ((lit_eq_iff hx).mp (Or.inl q))), if_neg (fun q => h4 ((lit_eq_iff hx).mp (Or.inr q))), nI_1]
      refine ih (k + 1) (by omega) (by omega) ⟨t, ?_, q2, q3⟩
      rcases Nat.lt_or_ge k t with q | q
      · omega
      · exact absurd (by rw [show k = t by omega]; exact q3) h4
end T
section J
variable {started terms cons taken begun consm termsm : Int32} {costs coefs lits bits firsts bounds costsm factors litsm begins boundsm : Nat → Int32}
theorem JP.term (h : JP started terms cons taken costs coefs lits bits firsts bounds begun consm termsm costsm factors litsm begins boundsm) (x1 x2 : Int32) :
    JP started (fX5_term x1 x2 started terms cons taken coefs lits bits).2.1 cons (fX5_term x1 x2 started terms cons taken coefs lits bits).2.2.1 costs (fX5_term x1 x2 started terms cons taken coefs lits bits).2.2.2.1 (fX5_term x1 x2 started terms cons taken coefs lits bits).2.2.2.2.1 (fX5_term x1 x2 started terms cons taken coefs lits bits).2.2.2.2.2 firsts bounds begun consm (fX6_term x1 x2 consm termsm begun factors litsm begins).2.1 costsm (fX6_term x1 x2 consm termsm begun factors litsm begins).2.2.1 (fX6_term x1 x2 consm termsm begun factors litsm begins).2.2.2 begins boundsm ∧ (fX5_term x1 x2 started terms cons taken coefs lits bits).1 = (fX6_term x1 x2 consm termsm begun factors litsm begins).1 := by
  obtain ⟨⟨rfl, rfl, rfl, rfl, rfl, rfl, rfl⟩, h1, h2, h3, C, T, fB, hW, hb, hs⟩ := h
  have same : JP begun terms consm taken costsm factors litsm bits begins boundsm begun consm termsm costsm factors litsm begins boundsm := ⟨⟨rfl, rfl, rfl, rfl, rfl, rfl, rfl⟩, h1, h2, h3, C, T, fB, hW, hb, hs⟩
  have hM : fX6_term x1 x2 consm termsm begun factors litsm begins = (if begun = 0 then (if fX5_isWithin x1 1 32767 = 0 then (-1, termsm, factors, litsm) else (if fX5_isVariable (fX5_variableOf x2) = 0 then (-1, termsm, factors, litsm) else (if 120 ≤ termsm then (-1, termsm, factors, litsm) else (if 20 ≤ consm then (-1, termsm, factors, litsm) else fX6_term_L75 x1 x2 consm termsm begun factors litsm begins 121 1 (begins consm.toNatClampNeg))))) else (-1, termsm, factors, litsm)) := by
    rw [fX6_term_eq]; unfold fX6_term_d
    rw [fX5_isVariable_eq]; unfold fX5_isVariable_d
    rw [fX5_variableOf_eq]; unfold fX5_variableOf_d
    have L0 : ∀ l5 : Int32, fX6_term_L75 x1 x2 consm termsm begun factors litsm begins 121 0 l5 = (-1, termsm, factors, litsm) := fun l5 => term_L0 120 l5
    rw [isIn_eq, isIn_eq, isIn_eq, L0]
    by_cases hx : (0 : Int32) ≤ x2
    · rw [if_pos hx, if_pos hx]
    · rw [if_neg hx, if_neg hx]
  rw [hM, fX5_term_eq]; unfold fX5_term_d
  by_cases h0 : begun = 0
  · rw [if_pos h0, if_pos h0]
    obtain ⟨e1, e2, htk⟩ := hs h0
    have het : terms = termsm := e1.trans e2.symm
    by_cases h4 : fX5_isWithin x1 1 32767 = 0
    · rw [if_pos h4, if_pos h4]; exact ⟨same, rfl⟩
    · rw [if_neg h4, if_neg h4]
      by_cases h5 : fX5_isVariable (fX5_variableOf x2) = 0
      · rw [if_pos h5, if_pos h5]; exact ⟨same, rfl⟩
      · rw [if_neg h5, if_neg h5, fX2_addTerm_eq]; unfold fX2_addTerm_d
        rw [← het]
        have same2 : JP begun terms consm taken costsm factors litsm bits begins boundsm begun consm terms costsm factors litsm begins boundsm := by rw [← het] at same; exact same
        by_cases h6 : (20 : Int32) ≤ consm
        · rw [if_pos h6]
          by_cases h7 : (120 : Int32) ≤ terms
          · rw [if_pos h7]; exact ⟨same2, rfl⟩
          · rw [if_neg h7, if_pos h6]; exact ⟨same2, rfl⟩
        · rw [if_neg h6]
          by_cases h7 : (120 : Int32) ≤ terms
          · rw [if_pos h7, if_pos h7]; exact ⟨same2, rfl⟩
          · rw [if_neg h7, if_neg h7, if_neg h6]
            obtain ⟨i, hxi, ev⟩ := var_lit h5
            have hi := hxi.1
            have hT120 : T < 120 := by
              have hT := hW.2.2.1
              rcases Nat.lt_or_ge T 120 with q | q
              · exact q
              · exact absurd (show (120 : Int32) ≤ terms by rw [e1, show T = 120 by omega]; decide) h7
            have hbeg : begins consm.toNatClampNeg = nI (fB C) := by rw [hW.1]; exact hW.at0 (Nat.le_refl C)
            have hleT := hW.le (Nat.le_refl C)
            rw [ev, bitOf_I, hbeg]
            have htki := htk i hi
            by_cases h8 : (taken &&& bI i) = 0
            · have h9 := (and_bI (by omega)).mp h8
              have hno : ∀ t, fB C ≤ t → t < T → ¬ litI (litsm t) i := fun t q1 q2 q3 => by
                have := htki.mpr ⟨t, q1, q2, q3⟩
                rw [h9] at this; exact absurd this (by decide)
              rw [if_pos h8, term_free (by omega) e1 hxi 121 (fB C) hleT (by omega) hno]
              have hcl : terms.toNatClampNeg = T := by rw [e1]; exact nI_clamp (by omega)
              refine ⟨?_, rfl⟩
              show JP begun (terms + 1) consm (taken ||| bI i) costsm (upd factors terms.toNatClampNeg x1) (upd litsm terms.toNatClampNeg x2) (upd bits terms.toNatClampNeg (bI i)) begins boundsm begun consm (terms + 1) costsm (upd factors terms.toNatClampNeg x1) (upd litsm terms.toNatClampNeg x2) begins boundsm
              rw [hcl]
              have hok : okN 120 (terms + 1) := ⟨T + 1, by rw [e1, nI_1], by omega⟩
              refine ⟨⟨rfl, rfl, rfl, rfl, rfl, rfl, rfl⟩, h1, hok, hok, C, T + 1, fB, ⟨hW.1, hW.2.1, by omega, fun c hc => ⟨(hW.2.2.2.1 c hc).1, by have := (hW.2.2.2.1 c hc).2; omega⟩, hW.2.2.2.2.1, ?_, hW.2.2.2.2.2.2⟩, ?_, fun _ => ⟨by rw [e1, nI_1], by rw [e1, nI_1], ?_⟩⟩
              · intro t ht
                by_cases e : t = T
                · subst e; exact ⟨i, by rw [pk_us]; exact hxi⟩
                · obtain ⟨j, hj⟩ := hW.2.2.2.2.2.1 t (by omega)
                  exact ⟨j, by rw [pk_un e]; exact hj⟩
              · intro t ht j hj
                by_cases e : t = T
                · subst e
                  rw [pk_us] at hj ⊢
                  rw [lit_inj hxi hj]
                · rw [pk_un e] at hj ⊢
                  exact hb t (by omega) j hj
              · intro j hj
                rw [bt_setb (by omega) (by omega)]
                constructor
                · intro q
                  by_cases e : j = i
                  · subst e; exact ⟨T, hleT, by omega, by rw [pk_us]; exact hxi⟩
                  · rw [decide_eq_false e, Bool.or_false] at q
                    obtain ⟨t, q1, q2, q3⟩ := (htk j hj).mp q
                    exact ⟨t, q1, by omega, by rw [pk_un (by omega)]; exact q3⟩
                · rintro ⟨t, q1, q2, q3⟩
                  by_cases e : t = T
                  · subst e
                    rw [pk_us] at q3
                    rw [decide_eq_true (lit_inj q3 hxi), Bool.or_true]
                  · rw [pk_un e] at q3
                    rw [(htk j hj).mpr ⟨t, q1, by omega, q3⟩]; rfl
            · have h9 : bt taken i = true := by
                cases hq : bt taken i
                · exact absurd ((and_bI (by omega)).mpr hq) h8
                · rfl
              rw [if_neg h8, term_taken (by omega) e1 hxi 121 (fB C) hleT (by omega) (htki.mp h9)]
              exact ⟨same2, rfl⟩
  · rw [if_neg h0, if_neg h0]; exact ⟨same, rfl⟩
end J
