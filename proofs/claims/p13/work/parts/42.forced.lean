-- ===== broken and forced: class and reference agree =====
section F
variable {C T : Nat} {fB : Nat → Nat} {cons : Int32} {costs coefs lits bits firsts bounds : Nat → Int32} {o z lim a b : Int32}
/-- the limit that a claim of cost best gives: none for -1 -/
def limR (best lim a b : Int32) : Prop := (best = -1 ∧ lim = 2097152 ∧ a = 0) ∨ ((∃ k : Nat, k ≤ 524272 ∧ best = nI k) ∧ lim = best - 1 ∧ a = 1 ∧ b = best - 1)
theorem nolim (hc : ∀ v, v ≤ 16 → ∃ k, k ≤ 32767 ∧ costs v = nI k) : ∃ r : Nat, 1572880 ≤ r ∧ r ≤ 2097152 ∧ fX2_limitSlack 2097152 costs o = nI r := by
  obtain ⟨r, hr, er⟩ := cost_nI (o := o) hc
  refine ⟨2097152 - r, by omega, by omega, ?_⟩
  rw [fX2_limitSlack_eq]; unfold fX2_limitSlack_d
  rw [er, show (2097152 : Int32) = nI 2097152 from rfl, pk_sub (by omega)]
theorem brk1 (x1 x2 : Int32) (s1 s2 : Int32) (hC : cons = nI C) (hC2 : C ≤ 20) : ∀ (n k : Nat), k ≤ 20 → 20 < k + n → fX6_isBroken_L22 x1 x2 cons s1 s2 costs coefs lits firsts bounds n 1 (nI k) = 1 := by
  intro n
  induction n with
  | zero => intro k h1 h2; exact absurd h2 (by omega)
  | succ n ih =>
    intro k h1 h2
    rw [fX6_isBroken_L22.eq_2]
    by_cases h : cons ≤ nI k
    · rw [if_pos h]
    · rw [if_neg h, if_neg (by decide), nI_1]
      have := okC_lt20 (k := k) rfl hC h1 h
      exact ih _ (by omega) (by omega)
theorem brkL (hW : PW C T fB cons costs lits firsts) (hb : bitsOk T lits bits) (hd : dj o z) (x1 x2 : Int32) (hl : (0 : Int32) ≤ fX2_limitSlack lim costs o) : ∀ (n k : Nat), k ≤ 20 → 20 < k + n →
    fX6_isBroken_L22 x1 x2 cons (o ||| z) o costs coefs lits firsts bounds n 0 (nI k) = fX2_isBroken_L2 lim cons costs coefs lits bits firsts bounds o z n (nI k) := by
  intro n
  induction n with
  | zero => intro k h1 h2; exact absurd h2 (by omega)
  | succ n ih =>
    intro k h1 h2
    rw [fX6_isBroken_L22.eq_2, fX2_isBroken_L2.eq_2]
    by_cases h : cons ≤ nI k
    · rw [if_pos h, if_pos h, if_pos hl]
    · have hk := okC_lt20 (k := k) rfl hW.1 h1 h
      have h20 := hW.2.1
      rw [if_neg h, if_neg h, if_pos rfl, slack_eq hW hb hd hk, nI_1]
      by_cases hs : (0 : Int32) ≤ fX2_slackOf (nI k) coefs lits bits firsts bounds o z
      · rw [if_pos hs, if_pos hs]; exact ih _ (by omega) (by omega)
      · rw [if_neg hs, if_neg hs]; exact brk1 _ _ _ _ hW.1 hW.2.1 _ _ (by omega) (by omega)
theorem brkB (hW : PW C T fB cons costs lits firsts) (hl : ¬ (0 : Int32) ≤ fX2_limitSlack lim costs o) : ∀ (n k : Nat), k ≤ 20 → 20 < k + n → fX2_isBroken_L2 lim cons costs coefs lits bits firsts bounds o z n (nI k) = 1 := by
  intro n
  induction n with
  | zero => intro k h1 h2; exact absurd h2 (by omega)
  | succ n ih =>
    intro k h1 h2
    rw [fX2_isBroken_L2.eq_2]
    by_cases h : cons ≤ nI k
    · rw [if_pos h, if_neg hl]
    · have hk := okC_lt20 (k := k) rfl hW.1 h1 h
      have h20 := hW.2.1
      rw [if_neg h, nI_1]
      by_cases hs : (0 : Int32) ≤ fX2_slackOf (nI k) coefs lits bits firsts bounds o z
      · rw [if_pos hs]; exact ih _ (by omega) (by omega)
      · rw [if_neg hs]
theorem broken_eq {best : Int32} (hW : PW C T fB cons costs lits firsts) (hb : bitsOk T lits bits) (hd : dj o z) (hR : limR best lim a b) : fX6_isBroken a b cons (o ||| z) o costs coefs lits firsts bounds = fX2_isBroken lim cons costs coefs lits bits firsts bounds o z := by
  rw [fX6_isBroken_eq, fX2_isBroken_eq]; unfold fX6_isBroken_d fX2_isBroken_d
  rcases hR with ⟨h1, rfl, rfl⟩ | ⟨h1, rfl, rfl, rfl⟩
  · rw [if_pos rfl]
    obtain ⟨r, hr1, hr2, er⟩ := nolim (o := o) hW.2.2.2.2.2.2
    exact brkL hW hb hd _ _ (by rw [er]; exact nI_pos' (by omega)) 21 0 (by omega) (by omega)
  · rw [if_neg (by decide), cost_eq]
    have e : fX2_limitSlack (best - 1) costs o = (best - 1) - fX2_costOf o costs := by rw [fX2_limitSlack_eq]; rfl
    by_cases hs : (0 : Int32) ≤ (best - 1) - fX2_costOf o costs
    · rw [if_pos hs]; exact brkL hW hb hd _ _ (by rw [e]; exact hs) 21 0 (by omega) (by omega)
    · rw [if_neg hs, show (0 : Int32) = nI 0 from nI_0.symm, brkB hW (by rw [e]; exact hs) 21 0 (by omega) (by omega)]
      exact brk1 _ _ _ _ hW.1 hW.2.1 21 0 (by omega) (by omega)
/-- the reference's inner loop is the class's forcedBy -/
theorem frcB (hW : PW C T fB cons costs lits firsts) (hb : bitsOk T lits bits) {c : Nat} (hc : c < C) (x1 x2 : Int32) (K : Int32 → Int32) (s : Int32) : ∀ (n j : Nat), j ≤ 120 → 120 < j + n →
    fX6_forced_L25 x1 x2 cons (o ||| z) o costs coefs lits firsts bounds (nI c) K n s (nI j) = (if fX2_forcedBy_L26 (nI c) coefs lits bits firsts bounds o z n s (o ||| z) (nI j) = 0 then K (nI c + 1) else fX2_forcedBy_L26 (nI c) coefs lits bits firsts bounds o z n s (o ||| z) (nI j)) := by
  intro n
  induction n with
  | zero => intro j h1 h2; exact absurd h2 (by omega)
  | succ n ih =>
    intro j h1 h2
    rw [fX6_forced_L25.eq_2, fX2_forcedBy_L26.eq_2, hW.at1 hc]
    by_cases h : nI (fB (c + 1)) ≤ nI j
    · rw [if_pos h, if_pos h, if_pos rfl]
    · rw [if_neg h, if_neg h]
      have hjb : j < fB (c + 1) := k_nle (by omega) h
      have hle := hW.le (show c + 1 ≤ C from hc)
      have hT := hW.2.2.1
      obtain ⟨i, hl⟩ := hW.2.2.2.2.2.1 j (by omega)
      have hbi := hb j (by omega) i hl
      have hne := lit_ne0 hl
      obtain ⟨hi, hl⟩ := hl
      obtain ⟨f1, f2, f3, f4, f5, f6, f7⟩ := lit_facts i hi
      have ih1 := ih (j + 1) (by omega) (by omega)
      rw [nI_clamp (show j < 2 ^ 31 by omega), nI_1, hbi]
      have e : (if (0 : Int32) ≤ lits j then (if fX6_isSet (lits j) (o ||| z) = 0 then (if coefs j ≤ s then fX6_forced_L25 x1 x2 cons (o ||| z) o costs coefs lits firsts bounds (nI c) K n s (nI (j + 1)) else lits j) else fX6_forced_L25 x1 x2 cons (o ||| z) o costs coefs lits firsts bounds (nI c) K n s (nI (j + 1))) else (if fX6_isSet (-(lits j)) (o ||| z) = 0 then (if coefs j ≤ s then fX6_forced_L25 x1 x2 cons (o ||| z) o costs coefs lits firsts bounds (nI c) K n s (nI (j + 1)) else lits j) else fX6_forced_L25 x1 x2 cons (o ||| z) o costs coefs lits firsts bounds (nI c) K n s (nI (j + 1)))) = (if bt (o ||| z) i = false then (if coefs j ≤ s then fX6_forced_L25 x1 x2 cons (o ||| z) o costs coefs lits firsts bounds (nI c) K n s (nI (j + 1)) else lits j) else fX6_forced_L25 x1 x2 cons (o ||| z) o costs coefs lits firsts bounds (nI c) K n s (nI (j + 1))) := by
        rcases hl with e | e
        · rw [e, if_pos f1, isSet_I (by omega)]
          cases bt (o ||| z) i <;> simp
        · rw [e, if_neg f3, f5, isSet_I (by omega)]
          cases bt (o ||| z) i <;> simp
      rw [e]
      by_cases hbt : bt (o ||| z) i = false
      · rw [if_pos hbt]
        by_cases hs : coefs j ≤ s
        · rw [if_pos hs, if_pos hs]; exact ih1
        · rw [if_neg hs, if_neg hs, if_pos ((and_bI (by omega)).mpr hbt), if_neg hne]
      · rw [if_neg hbt]
        by_cases hs : coefs j ≤ s
        · rw [if_pos hs]; exact ih1
        · rw [if_neg hs, if_neg (fun q => hbt ((and_bI (by omega)).mp q))]; exact ih1
theorem frcLim (hcs : ∀ v, v ≤ 16 → ∃ k, k ≤ 32767 ∧ costs v = nI k) (x1 x2 : Int32) (h1 : ¬ x1 = 0) (sl : Int32) (hsl : sl = x2 - fX2_costOf o costs) (y : Int32) : ∀ (n v : Nat), 1 ≤ v → v ≤ 17 →
    fX6_forced_L111 x1 x2 cons (o ||| z) o costs coefs lits firsts bounds n (nI v) = fX2_forcedByLimit_L21 y costs o z n sl (o ||| z) (nI v) := by
  intro n
  induction n with
  | zero => intro v _ _; rfl
  | succ n ih =>
    intro v hv1 hv2
    rw [fX6_forced_L111.eq_2, fX2_forcedByLimit_L21.eq_2]
    by_cases h : (16 : Int32) < nI v
    · rw [if_pos h, if_pos h]
    · have hv := k_16 (k := v) rfl hv2 h
      obtain ⟨i, rfl⟩ : ∃ i, v = i + 1 := ⟨v - 1, by omega⟩
      rw [if_neg h, if_neg h, if_neg h1, isSet_I (by omega), bitOf_I, cost_eq, ← hsl, nI_1]
      have ih1 := ih (i + 1 + 1) (by omega) (by omega)
      by_cases hbt : bt (o ||| z) i = false
      · rw [if_neg (show ¬ bt (o ||| z) i = true by rw [hbt]; decide), if_pos rfl, if_pos ((and_bI (by omega)).mpr hbt)]
        rw [ih1]
      · have hbt2 : bt (o ||| z) i = true := by cases hq : bt (o ||| z) i; exact absurd hq hbt; rfl
        rw [if_pos hbt2, if_neg (by decide), if_neg (fun q => hbt ((and_bI (by omega)).mp q))]
        rw [ih1]
        split <;> simp
theorem frcNo (hcs : ∀ v, v ≤ 16 → ∃ k, k ≤ 32767 ∧ costs v = nI k) (y : Int32) (sl : Nat) (h1 : 1572880 ≤ sl) (h2 : sl ≤ 2097152) : ∀ (n v : Nat), 1 ≤ v → v ≤ 17 → fX2_forcedByLimit_L21 y costs o z n (nI sl) (o ||| z) (nI v) = 0 := by
  intro n
  induction n with
  | zero => intro v _ _; rfl
  | succ n ih =>
    intro v hv1 hv2
    rw [fX2_forcedByLimit_L21.eq_2]
    by_cases h : (16 : Int32) < nI v
    · rw [if_pos h]
    · have hv := k_16 (k := v) rfl hv2 h
      obtain ⟨w, hw, ew⟩ := hcs v hv
      rw [if_neg h, nI_1, nI_clamp (show v < 2 ^ 31 by omega), ew]
      have ih1 := ih (v + 1) (by omega) (by omega)
      rw [if_pos (show nI w ≤ nI sl from nI_le (by omega) (by omega)), ih1]
      split <;> rfl
theorem frcL {best : Int32} (hW : PW C T fB cons costs lits firsts) (hb : bitsOk T lits bits) (hd : dj o z) (hR : limR best lim a b) : ∀ (n k : Nat), k ≤ 20 → 20 < k + n →
    fX6_forced_L2 a b cons (o ||| z) o costs coefs lits firsts bounds n (nI k) = fX2_forcedLiteral_L2 lim cons costs coefs lits bits firsts bounds o z n (nI k) := by
  intro n
  induction n with
  | zero => intro k h1 h2; exact absurd h2 (by omega)
  | succ n ih =>
    intro k h1 h2
    rw [fX6_forced_L2.eq_2, fX2_forcedLiteral_L2.eq_2]
    by_cases h : cons ≤ nI k
    · rw [if_pos h, if_pos h, fX2_forcedByLimit_eq]; unfold fX2_forcedByLimit_d
      rcases hR with ⟨_, rfl, rfl⟩ | ⟨_, rfl, rfl, rfl⟩
      · obtain ⟨r, hr1, hr2, er⟩ := nolim (o := o) hW.2.2.2.2.2.2
        rw [er, show (1 : Int32) = nI 1 from rfl, frcNo hW.2.2.2.2.2.2 _ r hr1 hr2 17 1 (by omega) (by omega), fX6_forced_L111.eq_2, if_neg (by decide), if_pos rfl]
      · exact frcLim hW.2.2.2.2.2.2 _ _ (by decide) _ (by rw [fX2_limitSlack_eq]; rfl) _ 17 1 (by omega) (by omega)
    · have hk := okC_lt20 (k := k) rfl hW.1 h1 h
      have h20 := hW.2.1
      have hT := hW.2.2.1
      have hle := hW.le (show k ≤ C by omega)
      rw [if_neg h, if_neg h, hW.at0 (show k ≤ C by omega), frcB hW hb hk _ _ _ _ 121 _ (by omega) (by omega), slack_eq hW hb hd hk, nI_1, ih (k + 1) (by omega) (by omega)]
      have e : fX2_forcedBy (nI k) coefs lits bits firsts bounds o z = fX2_forcedBy_L26 (nI k) coefs lits bits firsts bounds o z 121 (fX2_slackOf (nI k) coefs lits bits firsts bounds o z) (o ||| z) (nI (fB k)) := by
        rw [fX2_forcedBy_eq]; unfold fX2_forcedBy_d; rw [hW.at0 (show k ≤ C by omega)]
      rw [e]
theorem forced_eq {best : Int32} (hW : PW C T fB cons costs lits firsts) (hb : bitsOk T lits bits) (hd : dj o z) (hR : limR best lim a b) : fX6_forced a b cons (o ||| z) o costs coefs lits firsts bounds = fX2_forcedLiteral lim cons costs coefs lits bits firsts bounds o z := by
  rw [fX6_forced_eq, fX2_forcedLiteral_eq]; unfold fX6_forced_d fX2_forcedLiteral_d
  exact frcL hW hb hd hR 21 0 (by omega) (by omega)
/-- what the reference finds forced isn't set -/
def frP (set r : Int32) : Prop := ¬ r = 0 → ∃ i, litI r i ∧ bt set i = false
theorem frP25 {set ones x1 x2 : Int32} (hW : PW C T fB cons costs lits firsts) {c : Nat} (hc : c < C) (K : Int32 → Int32) (hK : frP set (K (nI c + 1))) (s : Int32) : ∀ (n j : Nat), j ≤ 120 → frP set (fX6_forced_L25 x1 x2 cons set ones costs coefs lits firsts bounds (nI c) K n s (nI j)) := by
  intro n
  induction n with
  | zero => intro j _ h; exact absurd rfl h
  | succ n ih =>
    intro j h1
    rw [fX6_forced_L25.eq_2, hW.at1 hc]
    by_cases h : nI (fB (c + 1)) ≤ nI j
    · rw [if_pos h]; exact hK
    · rw [if_neg h]
      have hjb : j < fB (c + 1) := k_nle (by omega) h
      have hle := hW.le (show c + 1 ≤ C from hc)
      have hT := hW.2.2.1
      obtain ⟨i, hl⟩ := hW.2.2.2.2.2.1 j (by omega)
      have hl0 := hl
      obtain ⟨hi, hl⟩ := hl
      obtain ⟨f1, f2, f3, f4, f5, f6, f7⟩ := lit_facts i hi
      have ih1 := ih (j + 1) (by omega)
      rw [nI_clamp (show j < 2 ^ 31 by omega), nI_1]
      have key : ¬ (if bt set i = true then (1 : Int32) else 0) = 0 ∨ bt set i = false := by
        cases hq : bt set i
        · exact Or.inr rfl
        · exact Or.inl (by decide)
      rcases hl with e | e
      · rw [e, if_pos f1, isSet_I (by omega)]
        rcases key with q | q
        · rw [if_neg q]; exact ih1
        · rw [if_neg (show ¬ bt set i = true by rw [q]; decide), if_pos rfl]
          split
          · exact ih1
          · intro _; exact ⟨i, by rw [← e]; exact hl0, q⟩
      · rw [e, if_neg f3, f5, isSet_I (by omega)]
        rcases key with q | q
        · rw [if_neg q]; exact ih1
        · rw [if_neg (show ¬ bt set i = true by rw [q]; decide), if_pos rfl]
          split
          · exact ih1
          · intro _; exact ⟨i, by rw [← e]; exact hl0, q⟩
theorem frP111 {set ones x1 x2 : Int32} : ∀ (n v : Nat), 1 ≤ v → v ≤ 17 → frP set (fX6_forced_L111 x1 x2 cons set ones costs coefs lits firsts bounds n (nI v)) := by
  intro n
  induction n with
  | zero => intro v _ _ h; exact absurd rfl h
  | succ n ih =>
    intro v h1 h2
    rw [fX6_forced_L111.eq_2]
    by_cases h : (16 : Int32) < nI v
    · rw [if_pos h]; intro q; exact absurd rfl q
    · have hv := k_16 (k := v) rfl h2 h
      obtain ⟨i, rfl⟩ : ∃ i, v = i + 1 := ⟨v - 1, by omega⟩
      have ih1 := ih (i + 1 + 1) (by omega) (by omega)
      rw [if_neg h, isSet_I (by omega), nI_1]
      split
      · intro q; exact absurd rfl q
      · cases hq : bt set i
        · rw [if_pos (by decide)]
          split
          · exact ih1
          · split
            · exact ih1
            · intro _; exact ⟨i, ⟨by omega, Or.inr rfl⟩, hq⟩
        · rw [if_neg (by decide)]; exact ih1
theorem frP2 {set ones x1 x2 : Int32} (hW : PW C T fB cons costs lits firsts) : ∀ (n k : Nat), k ≤ 20 → frP set (fX6_forced_L2 x1 x2 cons set ones costs coefs lits firsts bounds n (nI k)) := by
  intro n
  induction n with
  | zero => intro k _ h; exact absurd rfl h
  | succ n ih =>
    intro k h1
    rw [fX6_forced_L2.eq_2]
    by_cases h : cons ≤ nI k
    · rw [if_pos h]; exact frP111 17 1 (by omega) (by omega)
    · have hk := okC_lt20 (k := k) rfl hW.1 h1 h
      have h20 := hW.2.1
      have hT := hW.2.2.1
      have hle := hW.le (show k ≤ C by omega)
      rw [if_neg h, hW.at0 (show k ≤ C by omega)]
      exact frP25 hW hk _ (by show frP set (fX6_forced_L2 _ _ _ _ _ _ _ _ _ _ n (nI k + 1)); rw [nI_1]; exact ih _ (by omega)) _ 121 _ (by omega)
theorem forced_free {set ones x1 x2 : Int32} (hW : PW C T fB cons costs lits firsts) : frP set (fX6_forced x1 x2 cons set ones costs coefs lits firsts bounds) := by
  rw [fX6_forced_eq]; unfold fX6_forced_d
  exact frP2 hW 21 0 (by omega)
end F
