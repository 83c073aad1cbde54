-- ===== numbers: small rows for bounds =====
theorem k_nlt {k m : Nat} (hk : k < 2 ^ 31) (c : ¬ nI m < nI k) : k ≤ m := by
  rcases Nat.lt_or_ge m k with h | h
  · exact absurd (nI_lt h hk) c
  · exact h
theorem k_nle {k b : Nat} (hk : k < 2 ^ 31) (c : ¬ nI b ≤ nI k) : k < b := by
  rcases Nat.lt_or_ge k b with h | h
  · exact h
  · exact absurd (nI_le h hk) c
theorem k_lt {k m : Nat} (hk : k < 2 ^ 31) (hm : m < 2 ^ 31) (c : nI k < nI m) : k < m := (nI_ltI hk hm).mp c
theorem k_le {k m : Nat} (hk : k < 2 ^ 31) (hm : m < 2 ^ 31) (c : nI k ≤ nI m) : k ≤ m := (nI_leI hk hm).mp c
/-- a counter over the variables, not beyond 16 -/
theorem k_16 {x : Int32} {k : Nat} (ek : x = nI k) (hk : k ≤ 17) (c : ¬ (16 : Int32) < x) : k ≤ 16 := by
  subst ek
  exact k_nlt (m := 16) (by omega) c
theorem k_in {x : Int32} {k N : Nat} (ek : x = nI k) (h : k < N) (hN : N < 2 ^ 31) : vp_in x N := by rw [ek]; exact vp_in_nI h hN
theorem k_s {x : Int32} {k : Nat} (ek : x = nI k) : x + 1 = nI (k + 1) := by rw [ek, nI_1]
/-- constraint c: its terms are firsts[c] .. firsts[c + 1] - 1, of 120 -/
def okC (firsts : Nat → Int32) (c : Int32) : Prop := ∃ a b : Nat, firsts c.toNatClampNeg = nI a ∧ firsts (c + 1).toNatClampNeg = nI b ∧ a ≤ b ∧ b ≤ 120 ∧ vp_in c 20 ∧ vp_in c 21 ∧ vp_in (c + 1) 21
def okP (firsts : Nat → Int32) (cons : Int32) : Prop := ∃ C : Nat, cons = nI C ∧ C ≤ 20 ∧ ∀ c, c < C → okC firsts (nI c)
theorem okC_lt {x y : Int32} {k b : Nat} (ek : x = nI k) (eb : y = nI b) (hk : k ≤ 120) (c : ¬ y ≤ x) : k < b := by
  subst ek; subst eb
  exact k_nle (by omega) c
theorem okC_lt20 {x y : Int32} {k b : Nat} (ek : x = nI k) (eb : y = nI b) (hk : k ≤ 20) (c : ¬ y ≤ x) : k < b := okC_lt ek eb (by omega) c
