-- ===== the calls one by one: class and reference side by side =====
def tkOk (b T : Nat) (lits : Nat → Int32) (taken : Int32) : Prop := ∀ i, i < 16 → (bt taken i = true ↔ ∃ t, b ≤ t ∧ t < T ∧ litI (lits t) i)
/-- the problem and what was begun: started, terms, constraints, taken and six arrays of the class; begun, constraints, terms and five arrays of the reference -/
def JP (started terms cons taken : Int32) (costs coefs lits bits firsts bounds : Nat → Int32) (begun consm termsm : Int32) (costsm factors litsm begins boundsm : Nat → Int32) : Prop :=
  (consm = cons ∧ costsm = costs ∧ factors = coefs ∧ litsm = lits ∧ begins = firsts ∧ boundsm = bounds ∧ begun = started) ∧ (started = 0 ∨ started = 1) ∧ okN 120 terms ∧ okN 120 termsm ∧ ∃ (C T : Nat) (fB : Nat → Nat), PW C T fB cons costs lits firsts ∧ bitsOk T lits bits ∧ (started = 0 → terms = nI T ∧ termsm = nI T ∧ tkOk (fB C) T lits taken)
theorem setCost_same (x1 x2 s : Int32) (c : Nat → Int32) : fX6_setCost x1 x2 s c = fX5_setCost x1 x2 s c := by
  rw [fX6_setCost_eq, fX5_setCost_eq]; unfold fX6_setCost_d fX5_setCost_d
  rw [isIn_eq, isIn_eq, fX5_isVariable_eq]; rfl
section J
variable {started terms cons taken begun consm termsm : Int32} {costs coefs lits bits firsts bounds costsm factors litsm begins boundsm : Nat → Int32}
theorem JP.setCost (h : JP started terms cons taken costs coefs lits bits firsts bounds begun consm termsm costsm factors litsm begins boundsm) (x1 x2 : Int32) : JP started terms cons taken (fX5_setCost x1 x2 started costs).2 coefs lits bits firsts bounds begun consm termsm (fX6_setCost x1 x2 begun costsm).2 factors litsm begins boundsm ∧ (fX5_setCost x1 x2 started costs).1 = (fX6_setCost x1 x2 begun costsm).1 := by
  obtain ⟨⟨rfl, rfl, rfl, rfl, rfl, rfl, rfl⟩, h1, h2, h3, C, T, fB, hW, hb, hs⟩ := h
  rw [setCost_same]
  refine ⟨⟨⟨rfl, rfl, rfl, rfl, rfl, rfl, rfl⟩, h1, h2, h3, C, T, fB, ⟨hW.1, hW.2.1, hW.2.2.1, hW.2.2.2.1, hW.2.2.2.2.1, hW.2.2.2.2.2.1, ?_⟩, hb, hs⟩, rfl⟩
  have hc := hW.2.2.2.2.2.2
  rw [fX5_setCost_eq]; unfold fX5_setCost_d
  repeat' split
  all_goals first | exact hc | skip
  rename_i q1 q2 q3
  intro v hv
  by_cases e : v = x1.toNatClampNeg
  · subst e
    show ∃ k, k ≤ 32767 ∧ upd costsm x1.toNatClampNeg x2 x1.toNatClampNeg = nI k
    rw [pk_us]
    have h5 := isWithin_of q3
    obtain ⟨n, e, hn⟩ := okN_of (N := 32767) (M := 32767) ⟨32767, rfl, Nat.le_refl _⟩ (by decide) h5.1 h5.2
    exact ⟨n, hn, e⟩
  · show ∃ k, k ≤ 32767 ∧ upd costsm x1.toNatClampNeg x2 v = nI k
    rw [pk_un e]; exact hc v hv
theorem JP.okT (h : JP started terms cons taken costs coefs lits bits firsts bounds begun consm termsm costsm factors litsm begins boundsm) : okN 120 terms ∧ okN 120 termsm := ⟨h.2.2.1, h.2.2.2.1⟩
theorem JP.okC (h : JP started terms cons taken costs coefs lits bits firsts bounds begun consm termsm costsm factors litsm begins boundsm) : okN 20 cons ∧ okN 20 consm ∧ okN 120 (begins consm.toNatClampNeg) ∧ okP firsts cons ∧ okPm begins consm := by
  obtain ⟨⟨rfl, rfl, rfl, rfl, rfl, rfl, rfl⟩, h1, h2, h3, C, T, fB, hW, hb, hs⟩ := h
  have h4 : okN 20 consm := ⟨C, hW.1, hW.2.1⟩
  have h120 := hW.2.2.1
  have hle := hW.le (Nat.le_refl C)
  refine ⟨h4, h4, ⟨fB C, ?_, by omega⟩, hW.okP, hW.okPm⟩
  rw [hW.1]; exact hW.at0 (Nat.le_refl C)
theorem JP.end (h : JP started terms cons taken costs coefs lits bits firsts bounds begun consm termsm costsm factors litsm begins boundsm) (x1 : Int32) :
    JP started terms (fX5_end x1 started terms cons taken firsts bounds).2.1 (fX5_end x1 started terms cons taken firsts bounds).2.2.1 costs coefs lits bits (fX5_end x1 started terms cons taken firsts bounds).2.2.2.1 (fX5_end x1 started terms cons taken firsts bounds).2.2.2.2 begun (fX6_end x1 consm termsm begun begins boundsm).2.1 termsm costsm factors litsm (fX6_end x1 consm termsm begun begins boundsm).2.2.1 (fX6_end x1 consm termsm begun begins boundsm).2.2.2 ∧ (fX5_end x1 started terms cons taken firsts bounds).1 = (fX6_end x1 consm termsm begun begins boundsm).1 := by
  obtain ⟨⟨rfl, rfl, rfl, rfl, rfl, rfl, rfl⟩, h1, h2, h3, C, T, fB, hW, hb, hs⟩ := h
  have same : JP begun terms consm taken costsm factors litsm bits begins boundsm begun consm termsm costsm factors litsm begins boundsm := ⟨⟨rfl, rfl, rfl, rfl, rfl, rfl, rfl⟩, h1, h2, h3, C, T, fB, hW, hb, hs⟩
  rw [fX5_end_eq, fX6_end_eq]; unfold fX5_end_d fX6_end_d
  rw [isIn_eq]
  by_cases h0 : begun = 0
  · rw [if_pos h0, if_pos h0]
    obtain ⟨e1, e2, htk⟩ := hs h0
    by_cases h4 : fX5_isWithin x1 0 1073741824 = 0
    · rw [if_pos h4, if_pos h4]; exact ⟨same, rfl⟩
    · rw [if_neg h4, if_neg h4, fX2_makeConstraint_eq]; unfold fX2_makeConstraint_d
      have hC := hW.1
      have hC20 := hW.2.1
      by_cases h20 : C = 20
      · rw [if_neg (show ¬ consm < 20 by rw [hC, h20]; decide), if_pos (show consm = 20 by rw [hC, h20]; rfl)]; exact ⟨same, rfl⟩
      · have hlt : C < 20 := by omega
        rw [if_pos (show consm < 20 by rw [hC]; exact nI_lt (b := 20) hlt (by decide)), if_neg (show ¬ consm = 20 by rw [hC]; exact fun q => h20 ((nI_eq (b := 20) (by omega) (by decide)).mp q))]
        refine ⟨⟨⟨rfl, rfl, rfl, rfl, ?_, rfl, rfl⟩, h1, h2, h3, C + 1, T, fun c => if c = C + 1 then T else fB c, ⟨?_, by omega, hW.2.2.1, ?_, ?_, hW.2.2.2.2.2.1, hW.2.2.2.2.2.2⟩, hb, ?_⟩, ?_⟩
        · show upd begins (consm + 1).toNatClampNeg termsm = upd begins (consm + 1).toNatClampNeg terms
          rw [e1, e2]
        · show consm + 1 = nI (C + 1)
          rw [hC, nI_1]
        · intro c hc
          show upd begins (consm + 1).toNatClampNeg terms c = nI (if c = C + 1 then T else fB c) ∧ (if c = C + 1 then T else fB c) ≤ T
          rw [hC, nI_1, nI_clamp (by omega)]
          by_cases e : c = C + 1
          · rw [if_pos e, e, pk_us]; exact ⟨e1, Nat.le_refl _⟩
          · rw [if_neg e, pk_un e]; exact hW.2.2.2.1 c (by omega)
        · intro c hc
          show (if c = C + 1 then T else fB c) ≤ (if c + 1 = C + 1 then T else fB (c + 1))
          rw [if_neg (by omega)]
          by_cases e : c + 1 = C + 1
          · rw [if_pos e]; exact hW.le (by omega)
          · rw [if_neg e]; exact hW.2.2.2.2.1 c (by omega)
        · intro _
          refine ⟨e1, e2, fun i hi => ?_⟩
          show bt 0 i = true ↔ ∃ t, (if C + 1 = C + 1 then T else fB (C + 1)) ≤ t ∧ t < T ∧ litI (litsm t) i
          rw [if_pos rfl, b_0]
          exact ⟨fun q => absurd q (by decide), fun ⟨t, q1, q2, _⟩ => absurd q1 (by omega)⟩
        · show consm = consm + 1 - 1
          rw [hC, nI_1, nI_pred]
  · rw [if_neg h0, if_neg h0]; exact ⟨same, rfl⟩
end J
