-- ===== the problem: class and reference see the same slacks, costs, broken and forced =====
def litI (x : Int32) (i : Nat) : Prop := i < 16 ∧ (x = nI (i + 1) ∨ x = -nI (i + 1))
theorem lit_facts : ∀ i, i < 16 → (0 : Int32) ≤ nI (i + 1) ∧ ¬ nI (i + 1) ≤ 0 ∧ ¬ (0 : Int32) ≤ -nI (i + 1) ∧ -nI (i + 1) ≤ 0 ∧ -(-nI (i + 1)) = nI (i + 1) ∧ ¬ nI (i + 1) = 0 ∧ ¬ -nI (i + 1) = 0 := by decide +kernel
theorem lit_ne0 {x : Int32} {i : Nat} (h : litI x i) : ¬ x = 0 := by
  obtain ⟨hi, rfl | rfl⟩ := h
  · exact (lit_facts i hi).2.2.2.2.2.1
  · exact (lit_facts i hi).2.2.2.2.2.2
/-- a problem as class and reference hold it -/
def PW (C T : Nat) (fB : Nat → Nat) (cons : Int32) (costs lits firsts : Nat → Int32) : Prop :=
  cons = nI C ∧ C ≤ 20 ∧ T ≤ 120 ∧ (∀ c, c ≤ C → firsts c = nI (fB c) ∧ fB c ≤ T) ∧ (∀ c, c < C → fB c ≤ fB (c + 1)) ∧ (∀ t, t < T → ∃ i, litI (lits t) i) ∧ (∀ v, v ≤ 16 → ∃ k, k ≤ 32767 ∧ costs v = nI k)
def bitsOk (T : Nat) (lits bits : Nat → Int32) : Prop := ∀ t, t < T → ∀ i, litI (lits t) i → bits t = bI i
def dj (o z : Int32) : Prop := ∀ i, i < 16 → ¬ (bt o i = true ∧ bt z i = true)
section P
variable {C T : Nat} {fB : Nat → Nat} {cons : Int32} {costs coefs lits bits firsts bounds : Nat → Int32} {o z : Int32}
theorem PW.at0 (h : PW C T fB cons costs lits firsts) {c : Nat} (hc : c ≤ C) : firsts (nI c).toNatClampNeg = nI (fB c) := by
  obtain ⟨e1, h20, h120, hf, -⟩ := h
  rw [nI_clamp (by omega)]; exact (hf c hc).1
theorem PW.at1 (h : PW C T fB cons costs lits firsts) {c : Nat} (hc : c < C) : firsts (nI c + 1).toNatClampNeg = nI (fB (c + 1)) := by
  rw [nI_1]; exact h.at0 hc
theorem PW.le (h : PW C T fB cons costs lits firsts) {c : Nat} (hc : c ≤ C) : fB c ≤ T := (h.2.2.2.1 c hc).2
theorem PW.okP (h : PW C T fB cons costs lits firsts) : okP firsts cons := by
  refine ⟨C, h.1, h.2.1, fun c hc => ?_⟩
  have h20 := h.2.1
  have h3 := h.2.2.1
  have h4 := h.le (show c + 1 ≤ C from hc)
  exact ⟨fB c, fB (c + 1), h.at0 (by omega), h.at1 hc, h.2.2.2.2.1 c hc, by omega, vp_in_nI (by omega) (by decide), vp_in_nI (by omega) (by decide), by rw [nI_1]; exact vp_in_nI (by omega) (by decide)⟩
theorem PW.okPm (h : PW C T fB cons costs lits firsts) : okPm firsts cons := by
  refine ⟨C, h.1, h.2.1, fun c hc => ?_⟩
  have h20 := h.2.1
  have h3 := h.2.2.1
  have h4 := h.le (show c + 1 ≤ C from hc)
  exact ⟨fB c, fB (c + 1), h.at0 (by omega), h.at1 hc, h.2.2.2.2.1 c hc, by omega, vp_in_nI (by omega) (by decide), vp_in_nI (by omega) (by decide), by rw [nI_1]; exact vp_in_nI (by omega) (by decide)⟩
theorem i32_sub_add (a b f : Int32) : (a - b) + f = (a + f) - b := by
  rw [Int32.sub_eq_add_neg, Int32.sub_eq_add_neg, Int32.add_assoc, Int32.add_assoc, Int32.add_comm (-b) f]
/-- a literal that isn't false, for class and reference -/
theorem false_iff {x : Int32} {i : Nat} (hx : litI x i) (hd : dj o z) : fX6_isFalse x (o ||| z) o = 0 ↔ (if x ≤ 0 then (o &&& bI i) = 0 else (z &&& bI i) = 0) := by
  obtain ⟨hi, hx⟩ := hx
  obtain ⟨f1, f2, f3, f4, f5, f6, f7⟩ := lit_facts i hi
  have hd1 := hd i hi
  rw [fX6_isFalse_eq]; unfold fX6_isFalse_d
  rcases hx with rfl | rfl
  · rw [if_pos f1, isSet_I (by omega), if_neg f2, isOne_I (by omega), if_neg f2, and_bI (by omega), b_or]
    cases ho : bt o i <;> cases hz : bt z i <;> simp_all
  · rw [if_neg f3, f5, isSet_I (by omega), if_pos f4, isOne_I (by omega), if_pos f4, and_bI (by omega), b_or]
    cases ho : bt o i <;> cases hz : bt z i <;> simp_all
theorem slack_L (hW : PW C T fB cons costs lits firsts) (hb : bitsOk T lits bits) (hd : dj o z) {c : Nat} (hc : c < C) : ∀ (n k : Nat) (sum : Int32), k ≤ T →
    fX6_slack_L15 (nI c) (o ||| z) o coefs lits firsts bounds n (sum - bounds (nI c).toNatClampNeg) (nI k) = fX2_slackOf_L10 (nI c) coefs lits bits firsts bounds o z n sum (nI k) := by
  intro n
  have hT := hW.2.2.1
  induction n with
  | zero => intro k sum hk; rfl
  | succ n ih =>
    intro k sum hk
    rw [fX6_slack_L15.eq_2, fX2_slackOf_L10.eq_2, hW.at1 hc]
    by_cases h : nI (fB (c + 1)) ≤ nI k
    · rw [if_pos h, if_pos h]
    · rw [if_neg h, if_neg h]
      have hkb : k < fB (c + 1) := k_nle (by omega) h
      have hle := hW.le (show c + 1 ≤ C from hc)
      obtain ⟨i, hl⟩ := hW.2.2.2.2.2.1 k (by omega)
      have hbi := hb k (by omega) i hl
      have hf := false_iff hl hd
      rw [nI_clamp (show k < 2 ^ 31 by omega), nI_1, hbi]
      by_cases hx : lits k ≤ 0
      · rw [if_pos hx] at hf ⊢
        by_cases h0 : (o &&& bI i) = 0
        · rw [if_pos h0, if_pos (hf.mpr h0), i32_sub_add]; exact ih _ _ (by omega)
        · rw [if_neg h0, if_neg (fun q => h0 (hf.mp q))]; exact ih _ _ (by omega)
      · rw [if_neg hx] at hf ⊢
        by_cases h0 : (z &&& bI i) = 0
        · rw [if_pos h0, if_pos (hf.mpr h0), i32_sub_add]; exact ih _ _ (by omega)
        · rw [if_neg h0, if_neg (fun q => h0 (hf.mp q))]; exact ih _ _ (by omega)
theorem slack_eq (hW : PW C T fB cons costs lits firsts) (hb : bitsOk T lits bits) (hd : dj o z) {c : Nat} (hc : c < C) : fX6_slack (nI c) (o ||| z) o coefs lits firsts bounds = fX2_slackOf (nI c) coefs lits bits firsts bounds o z := by
  rw [fX6_slack_eq, fX2_slackOf_eq]; unfold fX6_slack_d fX2_slackOf_d
  rw [hW.at0 (by omega), ← slack_L hW hb hd hc 121 (fB c) 0 (hW.le (by omega)), Int32.zero_sub]
theorem cost_L : ∀ (n k : Nat) (sum : Int32), 1 ≤ k → k ≤ 17 → fX6_cost_L4 (o ||| z) o costs n sum (nI k) = fX2_costOf_L4 o costs n sum (nI k) := by
  intro n
  induction n with
  | zero => intro k sum _ _; rfl
  | succ n ih =>
    intro k sum h1 h17
    rw [fX6_cost_L4.eq_2, fX2_costOf_L4.eq_2]
    by_cases h : (16 : Int32) < nI k
    · rw [if_pos h, if_pos h]
    · rw [if_neg h, if_neg h]
      have hk := k_16 (k := k) rfl h17 h
      obtain ⟨i, rfl⟩ : ∃ i, k = i + 1 := ⟨k - 1, by omega⟩
      rw [isSet_I (by omega), isOne_I (by omega), nI_pred, shr_bit (by omega), b_or, nI_1]
      cases ho : bt o i <;> cases hz : bt z i <;> simp [ih _ _ (show 1 ≤ i + 1 + 1 by omega) (by omega)]
theorem cost_eq : fX6_cost (o ||| z) o costs = fX2_costOf o costs := by
  rw [fX6_cost_eq, fX2_costOf_eq]; unfold fX6_cost_d fX2_costOf_d
  exact cost_L 17 1 0 (by omega) (by omega)
theorem cost_bd (hc : ∀ v, v ≤ 16 → ∃ k, k ≤ 32767 ∧ costs v = nI k) : ∀ (n k s : Nat), 1 ≤ k → k ≤ 17 → 17 < k + n → s ≤ (k - 1) * 32767 → ∃ r, r ≤ 524272 ∧ fX2_costOf_L4 o costs n (nI s) (nI k) = nI r := by
  intro n
  induction n with
  | zero => intro k s h1 h2 h3; exact absurd h3 (by omega)
  | succ n ih =>
    intro k s h1 h2 h3 h4
    rw [fX2_costOf_L4.eq_2]
    by_cases h : (16 : Int32) < nI k
    · rw [if_pos h]; exact ⟨s, by omega, rfl⟩
    · rw [if_neg h]
      have hk := k_16 (k := k) rfl h2 h
      obtain ⟨i, rfl⟩ : ∃ i, k = i + 1 := ⟨k - 1, by omega⟩
      obtain ⟨w, hw, ew⟩ := hc (i + 1) (by omega)
      rw [nI_pred, shr_bit (by omega), nI_1, nI_clamp (by omega), ew]
      have h5 : s ≤ i * 32767 := by simpa using h4
      by_cases ho : bt o i = true
      · rw [if_pos ho, Int32.one_mul, nI_add]; exact ih _ _ (by omega) (by omega) (by omega) (by omega)
      · rw [if_neg ho, Int32.zero_mul, Int32.add_zero]; exact ih _ _ (by omega) (by omega) (by omega) (Nat.le_trans h5 (Nat.mul_le_mul_right _ (by omega)))
theorem cost_nI (hc : ∀ v, v ≤ 16 → ∃ k, k ≤ 32767 ∧ costs v = nI k) : ∃ r, r ≤ 524272 ∧ fX2_costOf o costs = nI r := by
  rw [fX2_costOf_eq]; unfold fX2_costOf_d
  exact cost_bd hc 17 1 0 (by omega) (by omega) (by omega) (by omega)
end P
