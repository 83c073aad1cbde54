-- ===== numbers for the reference =====
def okCm (begins : Nat → Int32) (c : Int32) : Prop := ∃ a b : Nat, begins c.toNatClampNeg = nI a ∧ begins (c + 1).toNatClampNeg = nI b ∧ a ≤ b ∧ b ≤ 120 ∧ vp_in c 21 ∧ vp_in c 22 ∧ vp_in (c + 1) 22
def okPm (begins : Nat → Int32) (cons : Int32) : Prop := ∃ C : Nat, cons = nI C ∧ C ≤ 20 ∧ ∀ c, c < C → okCm begins (nI c)
theorem okN_inS {N M : Nat} {x : Int32} (h : okN N x) (hN : N < M) (hM : M < 2 ^ 31) : vp_in x M := by
  obtain ⟨n, rfl, hn⟩ := h
  exact vp_in_nI (by omega) hM
theorem okN_inS1 {N M : Nat} {x : Int32} (h : okN N x) (hN : N + 1 < M) (hM : M < 2 ^ 31) : vp_in (x + 1) M := by
  obtain ⟨n, rfl, hn⟩ := h
  rw [nI_1]
  exact vp_in_nI (by omega) hM
theorem dp_pos {x : Int32} {k : Nat} (ek : x = nI k) (c : ¬ x ≤ 0) : 0 < k := by
  cases k with
  | zero => subst ek; exact absurd (by decide) c
  | succ k => exact Nat.succ_pos k
theorem dp_e {x : Int32} {k : Nat} (ek : x = nI k) (c : ¬ x ≤ 0) : x - 1 = nI (k - 1) := by
  have h := dp_pos ek c
  obtain ⟨j, rfl⟩ : ∃ j, k = j + 1 := ⟨k - 1, by omega⟩
  subst ek
  rw [nI_pred]; rfl
theorem dp_ok {x : Int32} {k : Nat} (ek : x = nI k) (hk : k ≤ 16) (c : ¬ x ≤ 0) : okN 15 (x - 1) := ⟨k - 1, dp_e ek c, by omega⟩
theorem dp_in {x : Int32} {k : Nat} (ek : x = nI k) (hk : k ≤ 16) (c : ¬ x ≤ 0) : vp_in (x - 1) 16 := okN_inS (dp_ok ek hk c) (by decide) (by decide)
theorem okN_15 {x : Int32} (h : okN 16 x) (c : ¬ x = 16) : okN 15 x := by
  obtain ⟨n, rfl, hn⟩ := h
  refine ⟨n, rfl, ?_⟩
  rcases Nat.lt_or_ge n 16 with h1 | h1
  · omega
  · exact absurd (show nI n = nI 16 by rw [show n = 16 by omega]) c
