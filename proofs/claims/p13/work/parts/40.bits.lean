-- ===== bits (the first family of kit/laws/BITS.to-paste, and single bits) =====
def bt (x : Int32) (i : Nat) : Bool := x.toBitVec.getLsbD i
theorem b_ext {x y : Int32} (h : ∀ i, i < 32 → bt x i = bt y i) : x = y := Int32.toBitVec_inj.mp (BitVec.eq_of_getLsbD_eq (fun i hi => h i hi))
theorem b_or (x y : Int32) (i : Nat) : bt (x ||| y) i = (bt x i || bt y i) := by unfold bt; rw [Int32.toBitVec_or, BitVec.getLsbD_or]
theorem b_and (x y : Int32) (i : Nat) : bt (x &&& y) i = (bt x i && bt y i) := by unfold bt; rw [Int32.toBitVec_and, BitVec.getLsbD_and]
theorem b_xor (x y : Int32) (i : Nat) : bt (x ^^^ y) i = (bt x i ^^ bt y i) := by unfold bt; rw [Int32.toBitVec_xor, BitVec.getLsbD_xor]
theorem b_big {x : Int32} {i : Nat} (h : 32 ≤ i) : bt x i = false := BitVec.getLsbD_of_ge _ _ h
theorem b_m1 : ∀ i, i < 32 → bt (-1) i = true := by decide +kernel
theorem b_0 (i : Nat) : bt 0 i = false := BitVec.getLsbD_zero
theorem b_1 : ∀ i, i < 32 → bt 1 i = decide (i = 0) := by decide +kernel
theorem s_l : ∀ n, n < 32 → ((nI n &&& 31).toBitVec.smod 32).toNat = n := by decide +kernel
theorem b_shl (n : Nat) (hn : n < 32) (x : Int32) {i : Nat} (hi : i < 32) : bt (x <<< (nI n &&& 31)) i = (decide (n ≤ i) && bt x (i - n)) := by
  unfold bt
  rw [Int32.toBitVec_shiftLeft]
  show (x.toBitVec <<< ((nI n &&& 31).toBitVec.smod 32).toNat).getLsbD i = _
  rw [s_l n hn, BitVec.getLsbD_shiftLeft]
  rcases Nat.lt_or_ge i n with h | h
  · simp [h, Nat.not_le.mpr h]
  · simp [hi, h, Nat.not_lt.mpr h]
theorem b_sshr (n : Nat) (hn : n < 32) (x : Int32) {i : Nat} (hi : i < 32) : bt (x >>> (nI n &&& 31)) i = if n + i < 32 then bt x (n + i) else bt x 31 := by
  unfold bt
  rw [Int32.toBitVec_shiftRight]
  show (x.toBitVec.sshiftRight ((nI n &&& 31).toBitVec.smod 32).toNat).getLsbD i = _
  rw [s_l n hn, BitVec.getLsbD_sshiftRight, BitVec.msb_eq_getLsbD_last]
  simp [hi]
/-- the bit of variable i + 1 -/
def bI (i : Nat) : Int32 := (1 : Int32) <<< (nI i &&& 31)
theorem bt_bI {i j : Nat} (hi : i < 32) (hj : j < 32) : bt (bI i) j = decide (j = i) := by
  unfold bI
  rw [b_shl i hi 1 hj, b_1 _ (by omega)]
  rcases Nat.lt_trichotomy i j with h | h | h
  · rw [decide_eq_false (show ¬ j - i = 0 by omega), decide_eq_false (show ¬ j = i by omega), Bool.and_false]
  · subst h; simp
  · rw [decide_eq_false (show ¬ i ≤ j by omega), decide_eq_false (show ¬ j = i by omega), Bool.false_and]
theorem and_bI {x : Int32} {i : Nat} (hi : i < 32) : (x &&& bI i) = 0 ↔ bt x i = false := by
  constructor
  · intro h
    have h1 : bt (x &&& bI i) i = false := by rw [h]; exact b_0 i
    rw [b_and, bt_bI hi hi, decide_eq_true rfl, Bool.and_true] at h1
    exact h1
  · intro h
    apply b_ext
    intro j hj
    rw [b_and, bt_bI hi hj, b_0]
    by_cases e : j = i
    · subst e; rw [h]; rfl
    · rw [decide_eq_false e, Bool.and_false]
theorem shr_bit {x : Int32} {i : Nat} (hi : i < 32) : (x >>> (nI i &&& 31)) &&& 1 = if bt x i = true then 1 else 0 := by
  apply b_ext
  intro j hj
  rw [b_and, b_1 j hj, b_sshr i hi x hj]
  by_cases e : j = 0
  · subst e
    rw [decide_eq_true rfl, Bool.and_true, if_pos (by omega), Nat.add_zero]
    by_cases h : bt x i = true
    · rw [if_pos h, h]; exact (b_1 0 (by omega)).symm
    · rw [if_neg h, b_0]; exact Bool.eq_false_iff.mpr h
  · rw [decide_eq_false e, Bool.and_false]
    by_cases h : bt x i = true
    · rw [if_pos h, b_1 j hj, decide_eq_false e]
    · rw [if_neg h, b_0]
theorem bitOf_I (i : Nat) : fX5_bitOf (nI (i + 1)) = bI i := by
  rw [fX5_bitOf_eq]; unfold fX5_bitOf_d; rw [nI_pred]; rfl
theorem isSet_I {x : Int32} {i : Nat} (hi : i < 32) : fX6_isSet (nI (i + 1)) x = if bt x i = true then 1 else 0 := by
  rw [fX6_isSet_eq]; unfold fX6_isSet_d; rw [nI_pred, shr_bit hi]
  by_cases h : bt x i = true
  · rw [if_pos h, if_pos rfl]
  · rw [if_neg h, if_neg (by decide)]
theorem isOne_I {x : Int32} {i : Nat} (hi : i < 32) : fX6_isOne (nI (i + 1)) x = if bt x i = true then 1 else 0 := by
  rw [fX6_isOne_eq]; unfold fX6_isOne_d; rw [nI_pred, shr_bit hi]
  by_cases h : bt x i = true
  · rw [if_pos h, if_pos rfl]
  · rw [if_neg h, if_neg (by decide)]
/-- clearing a bit -/
theorem bt_clr {x : Int32} {i j : Nat} (hi : i < 32) (hj : j < 32) : bt (x &&& (bI i ^^^ (-1))) j = (bt x j && !decide (j = i)) := by
  rw [b_and, b_xor, bt_bI hi hj, b_m1 j hj, Bool.xor_true]
theorem bt_setb {x : Int32} {i j : Nat} (hi : i < 32) (hj : j < 32) : bt (x ||| bI i) j = (bt x j || decide (j = i)) := by
  rw [b_or, bt_bI hi hj]
/-- how many of the sixteen variables are set -/
def cntN (x : Int32) : Nat → Nat
  | 0 => 0
  | n + 1 => cntN x n + (if bt x n = true then 1 else 0)
theorem cntN_le (x : Int32) : ∀ n, cntN x n ≤ n
  | 0 => Nat.le_refl 0
  | n + 1 => by
    have := cntN_le x n
    show cntN x n + (if bt x n = true then 1 else 0) ≤ n + 1
    split <;> omega
theorem cntN_lt {x : Int32} {i : Nat} (h : bt x i = false) : ∀ n, i < n → cntN x n < n
  | 0, hi => absurd hi (by omega)
  | n + 1, hi => by
    show cntN x n + (if bt x n = true then 1 else 0) < n + 1
    by_cases e : i = n
    · subst e
      have := cntN_le x i
      rw [if_neg (by rw [h]; decide)]; omega
    · have := cntN_lt h n (by omega)
      split <;> omega
theorem cntN_free {x : Int32} : ∀ n, cntN x n < n → ∃ i, i < n ∧ bt x i = false
  | 0, h => absurd h (by omega)
  | n + 1, h => by
    by_cases e : bt x n = true
    · have h1 : cntN x n + (if bt x n = true then 1 else 0) < n + 1 := h
      rw [if_pos e] at h1
      obtain ⟨i, hi, hb⟩ := cntN_free (x := x) n (by omega)
      exact ⟨i, by omega, hb⟩
    · exact ⟨n, by omega, Bool.eq_false_iff.mpr e⟩
theorem cntN_same {x y : Int32} : ∀ n, (∀ j, j < n → bt x j = bt y j) → cntN x n = cntN y n
  | 0, _ => rfl
  | n + 1, h => by
    show cntN x n + _ = cntN y n + _
    rw [cntN_same n (fun j hj => h j (by omega)), h n (by omega)]
theorem cntN_set {x y : Int32} {i : Nat} (hx : bt x i = false) (hy : bt y i = true) : ∀ n, i < n → (∀ j, j < n → j ≠ i → bt y j = bt x j) → cntN y n = cntN x n + 1
  | 0, hi, _ => absurd hi (by omega)
  | n + 1, hi, h => by
    show cntN y n + (if bt y n = true then 1 else 0) = cntN x n + (if bt x n = true then 1 else 0) + 1
    by_cases e : i = n
    · subst e
      rw [cntN_same (x := y) (y := x) i (fun j hj => h j (by omega) (by omega)), if_pos hy, if_neg (by rw [hx]; decide)]
    · rw [cntN_set hx hy n (by omega) (fun j hj hne => h j (by omega) hne), h n (by omega) (fun z => e z.symm)]
      omega
def cnt (x : Int32) : Nat := cntN x 16
theorem cnt_le (x : Int32) : cnt x ≤ 16 := cntN_le x 16
theorem cnt_0 : cnt 0 = 0 := by decide +kernel
theorem cnt_lt {x : Int32} {i : Nat} (hi : i < 16) (h : bt x i = false) : cnt x < 16 := cntN_lt h 16 hi
theorem cnt_free {x : Int32} (h : cnt x < 16) : ∃ i, i < 16 ∧ bt x i = false := cntN_free 16 h
theorem cnt_set {x : Int32} {i : Nat} (hi : i < 16) (h : bt x i = false) : cnt (x ||| bI i) = cnt x + 1 :=
  cntN_set h (by rw [bt_setb (by omega) (by omega), decide_eq_true rfl, Bool.or_true]) 16 hi (fun j hj hne => by rw [bt_setb (by omega) (by omega), decide_eq_false hne, Bool.or_false])
