-- ===== numbers: small rows for bounds =====
theorem k_nlt {k m : Nat} (hk : k < 2 ^ 31) (c : ¬ nI m < nI k) : k ≤ m := by
  rcases Nat.lt_or_ge m k with h | h
  · exact absurd (nI_lt h hk) c
  · exact h
theorem k_nle {k b : Nat} (hk : k < 2 ^ 31) (c : ¬ nI b ≤ nI k) : k < b := by
  rcases Nat.lt_or_ge k b with h | h
  · exact h
  · exact absurd (nI_le h hk) c
theorem k_lt {k m : Nat} (hk : k < 2 ^ 31) (hm : m < 2 ^ 31) (c : nI k < nI m) : k < m := (nI_ltI hk hm).mp c
theorem k_le {k m : Nat} (hk : k < 2 ^ 31) (hm : m < 2 ^ 31) (c : nI k ≤ nI m) : k ≤ m := (nI_leI hk hm).mp c
/-- a counter over the variables, not beyond 16 -/
theorem k_16 {x : Int32} {k : Nat} (ek : x = nI k) (hk : k ≤ 17) (c : ¬ (16 : Int32) < x) : k ≤ 16 := by
  subst ek
  exact k_nlt (m := 16) (by omega) c
theorem k_in {x : Int32} {k N : Nat} (ek : x = nI k) (h : k < N) (hN : N < 2 ^ 31) : vp_in x N := by rw [ek]; exact vp_in_nI h hN
theorem k_s {x : Int32} {k : Nat} (ek : x = nI k) : x + 1 = nI (k + 1) := by rw [ek, nI_1]
/-- constraint c: its terms are firsts[c] .. firsts[c + 1] - 1, of 120 -/
def okC (firsts : Nat → Int32) (c : Int32) : Prop := ∃ a b : Nat, firsts c.toNatClampNeg = nI a ∧ firsts (c + 1).toNatClampNeg = nI b ∧ a ≤ b ∧ b ≤ 120 ∧ vp_in c 20 ∧ vp_in c 21 ∧ vp_in (c + 1) 21
def okP (firsts : Nat → Int32) (cons : Int32) : Prop := ∃ C : Nat, cons = nI C ∧ C ≤ 20 ∧ ∀ c, c < C → okC firsts (nI c)
theorem okC_lt {x y : Int32} {k b : Nat} (ek : x = nI k) (eb : y = nI b) (hk : k ≤ 120) (c : ¬ y ≤ x) : k < b := by
  subst ek; subst eb
  exact k_nle (by omega) c
theorem okC_lt20 {x y : Int32} {k b : Nat} (ek : x = nI k) (eb : y = nI b) (hk : k ≤ 20) (c : ¬ y ≤ x) : k < b := okC_lt ek eb (by omega) c
/-- a number of words, of terms, of choices -/
def okN (N : Nat) (x : Int32) : Prop := ∃ n : Nat, x = nI n ∧ n ≤ N
theorem okN_s {N : Nat} {x : Int32} (h : okN N x) (hN : N < 2 ^ 31) (c : x < nI N) : okN N (x + 1) := by
  obtain ⟨n, rfl, hn⟩ := h
  have := k_lt (by omega) hN c
  exact ⟨n + 1, nI_1 n, by omega⟩
theorem okN_in {N : Nat} {x : Int32} (h : okN N x) (hN : N < 2 ^ 31) (c : x < nI N) : vp_in x N := by
  obtain ⟨n, rfl, hn⟩ := h
  exact vp_in_nI (k_lt (by omega) hN c) hN
theorem k_lt_of {x y : Int32} (c : ¬ y ≤ x) : x < y := by
  rw [Int32.lt_iff_toInt_lt]
  rw [Int32.le_iff_toInt_le] at c
  omega
theorem okN_p {N : Nat} {x : Int32} (h : okN N x) (hN : N < 2 ^ 31) (c : ¬ x = 0) : okN N (x - 1) ∧ vp_in (x - 1) N := by
  obtain ⟨n, rfl, hn⟩ := h
  cases n with
  | zero => exact absurd nI_0 c
  | succ n => rw [nI_pred]; exact ⟨⟨n, rfl, by omega⟩, vp_in_nI (by omega) hN⟩
theorem okN_ix {N : Nat} {x i : Int32} (h : okN N x) (hN : N < 2 ^ 31) (h0 : ¬ i < 0) (c : ¬ x ≤ i) : vp_in i N := by
  obtain ⟨n, rfl, hn⟩ := h
  rw [vp_in_iff]
  rw [Int32.lt_iff_toInt_lt, Int32.toInt_zero] at h0
  rw [Int32.le_iff_toInt_le, nI_toInt (by omega)] at c
  omega
theorem okN_0 (N : Nat) : okN N 0 := ⟨0, nI_0.symm, Nat.zero_le _⟩
theorem fz {v : Int32} (h : v = 0 ∨ v = 1) : fits .boolean (.int v) = true := by rcases h with rfl | rfl <;> rfl
