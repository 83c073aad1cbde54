-- ===== the other calls =====
section O
variable {dc bc bo st sta sz on ze dn ov se os dm be bm md sm : Int32} {wd ch ob zb tr co lg : Nat → Int32}
theorem SR.done (h : SR (dc, bc, bo, st, sta, sz, wd, on, ze, ch, ob, zb) (dn, ov, se, os, dm, be, bm, md, sm, tr, co, lg)) : (fX3_isDone sta = 0 ∧ dn = 0) ∨ (fX3_isDone sta = 1 ∧ dn = 1 ∧ sta = 1 ∧ ov = 0) := by
  rw [fX3_isDone_eq]; unfold fX3_isDone_d
  rcases h.2.2.2.1 with ⟨rfl, rfl, rfl⟩ | ⟨rfl, rfl, rfl⟩ | ⟨rfl, rfl, rfl⟩
  · exact Or.inl ⟨rfl, rfl⟩
  · exact Or.inr ⟨rfl, rfl, rfl, rfl⟩
  · exact Or.inl ⟨rfl, rfl⟩
theorem SR.optimum (h : SR (dc, bc, bo, st, sta, sz, wd, on, ze, ch, ob, zb) (dn, ov, se, os, dm, be, bm, md, sm, tr, co, lg)) : fX5_optimum bc sta = fX6_optimum dn be := by
  rw [fX5_optimum_eq, fX6_optimum_eq]; unfold fX5_optimum_d fX6_optimum_d
  have e := h.1.1
  rcases h.done with ⟨q1, q2⟩ | ⟨q1, q2, _⟩
  · rw [q1, q2]; rfl
  · rw [q1, q2, if_neg (by decide), if_neg (by decide)]; exact e.symm
theorem var_nI {x : Int32} (h : ¬ fX5_isVariable x = 0) : ∃ i, i < 16 ∧ x = nI (i + 1) := by
  rw [fX5_isVariable_eq] at h; unfold fX5_isVariable_d at h
  have h1 := isWithin_of h
  have h0 : ¬ x < 0 := by
    have a := h1.1
    rw [Int32.lt_iff_toInt_lt] at a ⊢
    rw [show (1 : Int32).toInt = 1 from rfl] at a
    rw [Int32.toInt_zero]; omega
  obtain ⟨k, ek, hk⟩ := okN_of (N := 16) (M := 16) ⟨16, rfl, Nat.le_refl _⟩ (by decide) h0 h1.2
  have hk1 : 1 ≤ k := by
    have a := h1.1
    rw [ek, Int32.lt_iff_toInt_lt, show (1 : Int32).toInt = 1 from rfl, nI_toInt (by omega)] at a
    omega
  exact ⟨k - 1, by omega, by rw [ek, show k - 1 + 1 = k by omega]⟩
theorem SR.value (h : SR (dc, bc, bo, st, sta, sz, wd, on, ze, ch, ob, zb) (dn, ov, se, os, dm, be, bm, md, sm, tr, co, lg)) (x1 : Int32) : fX5_value x1 bc bo = fX6_value x1 be bm := by
  obtain ⟨⟨rfl, rfl, _⟩, _, hB, _⟩ := h
  rw [fX5_value_eq, fX6_value_eq]; unfold fX5_value_d fX6_value_d
  rw [isIn_eq, show fX5_isWithin x1 1 16 = fX5_isVariable x1 by rw [fX5_isVariable_eq]; rfl]
  by_cases h1 : fX5_isVariable x1 = 0
  · rw [if_pos h1, if_pos h1]
  · rw [if_neg h1, if_neg h1]
    obtain ⟨i, hi, rfl⟩ := var_nI h1
    rcases hB with ⟨rfl, rfl⟩ | ⟨k, hk, rfl⟩
    · rfl
    · have hn : ¬ nI k = -1 := by
        intro q
        have h2 := nI_toInt (n := k) (by omega)
        rw [q, show (-1 : Int32).toInt = -1 from rfl] at h2
        omega
      rw [if_neg hn, if_pos (show (0 : Int32) ≤ nI k from nI_pos' (by omega)), bitOf_I, nI_pred, shr_bit (by omega)]
      cases hq : bt bm i
      · rw [if_pos ((and_bI (by omega)).mpr hq)]; rfl
      · rw [if_neg (fun q => by have := (and_bI (i := i) (by omega)).mp q; rw [hq] at this; exact absurd this (by decide))]; rfl
theorem SR.logAt (h : SR (dc, bc, bo, st, sta, sz, wd, on, ze, ch, ob, zb) (dn, ov, se, os, dm, be, bm, md, sm, tr, co, lg)) (x1 : Int32) : fX5_logAt x1 sz wd = fX6_logAt x1 sm lg := by
  obtain ⟨⟨_, _, _, rfl, rfl⟩, _⟩ := h
  rw [fX5_logAt_eq, fX6_logAt_eq]; unfold fX5_logAt_d fX6_logAt_d
  rw [fX1_wordAt_eq]; unfold fX1_wordAt_d
  rw [fX1_has_eq]; unfold fX1_has_d
  by_cases h1 : x1 < 0
  · rw [if_pos h1, if_pos h1]; rfl
  · rw [if_neg h1, if_neg h1]
    by_cases h2 : sm ≤ x1
    · rw [if_pos h2, if_pos h2]; rfl
    · rw [if_neg h2, if_neg h2]; rfl
theorem i32_ne_lt {x y : Int32} (h : ¬ x = y) (h2 : ¬ y < x) : ¬ y ≤ x := by
  rw [Int32.le_iff_toInt_le]
  rw [Int32.lt_iff_toInt_lt] at h2
  intro q
  exact h (Int32.toInt_inj.mp (by omega))
theorem i32_lt_le {x y : Int32} (h : y < x) : y ≤ x := by
  rw [Int32.le_iff_toInt_le]; rw [Int32.lt_iff_toInt_lt] at h; omega
theorem SR.poke (h : SR (dc, bc, bo, st, sta, sz, wd, on, ze, ch, ob, zb) (dn, ov, se, os, dm, be, bm, md, sm, tr, co, lg)) (x1 x2 cb cv an lk : Int32) :
    ∃ (r z2 cb2 cv2 an2 lk2 : Int32) (w2 : Nat → Int32), fX5_poke x1 x2 sz wd sta cb cv = (r, z2, w2, cb2, cv2) ∧ fX6_poke x1 x2 dn sm an lk lg = (r, z2, an2, lk2, w2) ∧ SR (dc, bc, bo, st, sta, z2, w2, on, ze, ch, ob, zb) (dn, ov, se, os, dm, be, bm, md, z2, tr, co, w2) ∧ ((an2 = an ∧ lk2 = lk ∧ z2 = sz) ∨ lk2 = 0) := by
  have hdone := h.done
  obtain ⟨⟨rfl, rfl, rfl, rfl, rfl⟩, hL, hB, hst, hE⟩ := h
  rw [fX5_poke_eq, fX6_poke_eq]; unfold fX5_poke_d fX6_poke_d
  rcases hdone with ⟨q1, q2⟩ | ⟨q1, q2, q3, q4⟩
  · subst q2
    rw [q1, if_pos rfl, if_pos rfl]
    exact ⟨_, _, _, _, _, _, _, rfl, rfl, ⟨⟨rfl, rfl, rfl, rfl, rfl⟩, hL, hB, hst, hE⟩, Or.inl ⟨rfl, rfl, rfl⟩⟩
  · subst q2; subst q3; subst q4
    rw [q1, if_neg (show ¬ (1 : Int32) = 0 by decide), if_neg (show ¬ (1 : Int32) = 0 by decide), isIn_eq, fX1_replace_eq, fX6_anew_eq, fX0_beginAnew_eq]; unfold fX1_replace_d fX6_anew_d fX0_beginAnew_d
    have keep : ∀ (z2 : Int32) (w2 : Nat → Int32), okN 400 z2 → SR (dc, be, bm, md, 1, z2, w2, on, ze, ch, ob, zb) (1, 0, se, os, dm, be, bm, md, z2, tr, co, w2) := fun z2 w2 hz => ⟨⟨rfl, rfl, rfl, rfl, rfl⟩, hz, hB, Or.inr (Or.inl ⟨rfl, rfl, rfl⟩), fun q => absurd q (by decide)⟩
    by_cases e : x1 = sm
    · subst e
      have hin : fX5_isWithin x1 0 x1 = 1 := by
        rw [fX5_isWithin_eq]; unfold fX5_isWithin_d
        obtain ⟨n, rfl, hn⟩ := hL
        rw [if_neg (nI_pos (by omega)), if_neg (by rw [Int32.lt_iff_toInt_lt]; omega)]
      rw [if_pos rfl, hin, if_neg (show ¬ (1 : Int32) = 0 by decide), fX1_append_eq]; unfold fX1_append_d
      by_cases h4 : x1 = 400
      · rw [if_pos h4, if_neg (show ¬ x1 < 400 by rw [h4]; decide)]
        exact ⟨_, _, _, _, _, _, _, rfl, rfl, keep _ _ hL, Or.inl ⟨rfl, rfl, rfl⟩⟩
      · have hlt : x1 < 400 := by
          obtain ⟨n, rfl, hn⟩ := hL
          rcases Nat.lt_or_ge n 400 with q | q
          · exact nI_lt q (by decide)
          · exact absurd (show nI n = nI 400 by rw [show n = 400 by omega]) h4
        rw [if_neg h4, if_pos hlt, if_pos rfl]
        exact ⟨_, _, _, _, _, _, _, rfl, rfl, keep _ _ (okN_400 hL h4), Or.inr rfl⟩
    · rw [if_neg e]
      by_cases hh : fX1_has x1 sm = 0
      · have hin : fX5_isWithin x1 0 sm = 0 := by
          rw [fX1_has_eq] at hh; unfold fX1_has_d at hh
          rw [fX5_isWithin_eq]; unfold fX5_isWithin_d
          by_cases h1 : x1 < 0
          · rw [if_pos h1]
          · rw [if_neg h1] at hh ⊢
            by_cases h2 : sm < x1
            · rw [if_pos h2]
            · rw [if_neg (i32_ne_lt e h2)] at hh; exact absurd hh (by decide)
        rw [if_pos hh, hin, if_pos rfl]
        exact ⟨_, _, _, _, _, _, _, rfl, rfl, keep _ _ hL, Or.inl ⟨rfl, rfl, rfl⟩⟩
      · have hi := has_in hL hh
        have hin : ¬ fX5_isWithin x1 0 sm = 0 ∧ ¬ x1 = 400 := by
          rw [fX1_has_eq] at hh; unfold fX1_has_d at hh
          rw [fX5_isWithin_eq]; unfold fX5_isWithin_d
          by_cases h1 : x1 < 0
          · rw [if_pos h1] at hh; exact absurd rfl hh
          · rw [if_neg h1] at hh ⊢
            by_cases h2 : sm ≤ x1
            · rw [if_pos h2] at hh; exact absurd rfl hh
            · rw [if_neg (fun q => h2 (i32_lt_le q))]
              refine ⟨by decide, fun q => ?_⟩
              rw [vp_in_iff, q, show (400 : Int32).toInt = 400 from rfl] at hi
              omega
        rw [if_neg hh, if_neg hin.1, if_neg hin.2, if_neg e]
        exact ⟨_, _, _, _, _, _, _, rfl, rfl, keep _ _ hL, Or.inr rfl⟩
theorem SR.cut (h : SR (dc, bc, bo, st, sta, sz, wd, on, ze, ch, ob, zb) (dn, ov, se, os, dm, be, bm, md, sm, tr, co, lg)) (x1 cb cv an lk : Int32) :
    ∃ (r z2 cb2 cv2 an2 lk2 : Int32), fX5_cut x1 sz sta cb cv = (r, z2, cb2, cv2) ∧ fX6_cut x1 dn sm an lk = (r, z2, an2, lk2) ∧ SR (dc, bc, bo, st, sta, z2, wd, on, ze, ch, ob, zb) (dn, ov, se, os, dm, be, bm, md, z2, tr, co, lg) ∧ ((an2 = an ∧ lk2 = lk ∧ z2 = sz) ∨ lk2 = 0) := by
  have hdone := h.done
  obtain ⟨⟨rfl, rfl, rfl, rfl, rfl⟩, hL, hB, hst, hE⟩ := h
  rw [fX5_cut_eq, fX6_cut_eq]; unfold fX5_cut_d fX6_cut_d
  rcases hdone with ⟨q1, q2⟩ | ⟨q1, q2, q3, q4⟩
  · subst q2
    rw [q1, if_pos rfl, if_pos rfl]
    exact ⟨_, _, _, _, _, _, rfl, rfl, ⟨⟨rfl, rfl, rfl, rfl, rfl⟩, hL, hB, hst, hE⟩, Or.inl ⟨rfl, rfl, rfl⟩⟩
  · subst q2; subst q3; subst q4
    rw [q1, if_neg (show ¬ (1 : Int32) = 0 by decide), if_neg (show ¬ (1 : Int32) = 0 by decide), isIn_eq, fX1_shorten_eq, fX6_anew_eq, fX0_beginAnew_eq]; unfold fX1_shorten_d fX6_anew_d fX0_beginAnew_d
    have keep : ∀ z2 : Int32, okN 400 z2 → SR (dc, be, bm, md, 1, z2, lg, on, ze, ch, ob, zb) (1, 0, se, os, dm, be, bm, md, z2, tr, co, lg) := fun z2 hz => ⟨⟨rfl, rfl, rfl, rfl, rfl⟩, hz, hB, Or.inr (Or.inl ⟨rfl, rfl, rfl⟩), fun q => absurd q (by decide)⟩
    by_cases h1 : fX5_isWithin x1 0 sm = 0
    · rw [if_pos h1, if_pos h1]
      exact ⟨_, _, _, _, _, _, rfl, rfl, keep _ hL, Or.inl ⟨rfl, rfl, rfl⟩⟩
    · rw [if_neg h1, if_neg h1]
      have h2 := isWithin_of h1
      exact ⟨_, _, _, _, _, _, rfl, rfl, keep _ (okN_of hL (by decide) h2.1 h2.2), Or.inr rfl⟩
/-- what a step of the reference needs -/
theorem SR.use {C T : Nat} {fB : Nat → Nat} {cons : Int32} {costs coefs lits firsts bounds : Nat → Int32} (hW : PW C T fB cons costs lits firsts) (h : SR (dc, bc, bo, st, sta, sz, wd, on, ze, ch, ob, zb) (0, 0, se, os, dm, be, bm, md, sm, tr, co, lg)) :
    okN 400 sm ∧ okN 16 dm ∧ (∀ a b : Int32, ¬ fX6_forced a b cons se os costs coefs lits firsts bounds = 0 → okN 15 dm) ∧ (¬ dm = 16 → ∃ u : Nat, 1 ≤ u ∧ u ≤ 16 ∧ fX6_isSet (nI u) se = 0) ∧ sta = 2 := by
  obtain ⟨⟨rfl, rfl, rfl, rfl, rfl⟩, hL, hB, hst, hEx⟩ := h
  have h2 : sta = 2 := by
    rcases hst with ⟨q, _⟩ | ⟨_, q, _⟩ | ⟨_, _, q⟩
    · exact q
    · exact absurd q (by decide)
    · exact absurd q (by decide)
  obtain ⟨E, hE, hT, hS, rfl, rfl, rfl, rfl, rfl, rfl⟩ := hEx h2
  have hlen := len16 hE
  refine ⟨hL, ⟨E.length, rfl, hlen⟩, fun a b hf => ?_, fun hn => ?_, h2⟩
  · obtain ⟨i, hi, hb⟩ := forced_free (coefs := coefs) (bounds := bounds) hW hf
    have h1 := cnt_lt hi.1 hb
    rw [len_cnt E hE] at h1
    exact ⟨E.length, rfl, by omega⟩
  · have hlt : E.length < 16 := by
      rcases Nat.lt_or_ge E.length 16 with q | q
      · exact q
      · exact absurd (show nI E.length = 16 by rw [show E.length = 16 by omega]; rfl) hn
    obtain ⟨i, hi, hb⟩ := cnt_free (x := oE E ||| zE E) (by rw [len_cnt E hE]; exact hlt)
    exact ⟨i + 1, by omega, by omega, by rw [isSet_I (by omega), hb]; rfl⟩
end O
section M
variable {C T : Nat} {fB : Nat → Nat} {cons : Int32} {costs coefs lits firsts bounds : Nat → Int32}
/-- the measure of the reference's loop in word() -/
theorem mu_put (hW : PW C T fB cons costs lits firsts) : ∀ a b z o y : Int32, ¬ fX6_forced a b cons z o costs coefs lits firsts bounds = 0 → (0 ≤ fX6_forced a b cons z o costs coefs lits firsts bounds → 16 - cnt (fX6_put (fX6_forced a b cons z o costs coefs lits firsts bounds) y z o).1 < 16 - cnt z) ∧ (¬ 0 ≤ fX6_forced a b cons z o costs coefs lits firsts bounds → 16 - cnt (fX6_put (-(fX6_forced a b cons z o costs coefs lits firsts bounds)) y z o).1 < 16 - cnt z) := by
  intro a b z o y h
  obtain ⟨i, ⟨hi, hx⟩, hb⟩ := forced_free (coefs := coefs) (bounds := bounds) hW h
  obtain ⟨f1, f2, f3, f4, f5, f6, f7⟩ := lit_facts i hi
  have hc := cnt_lt hi hb
  have hput : 16 - cnt (fX6_put (nI (i + 1)) y z o).1 < 16 - cnt z := by
    have e : (fX6_put (nI (i + 1)) y z o).1 = z ||| bI i := by
      rw [fX6_put_eq]; unfold fX6_put_d
      rw [nI_pred]
      split <;> rfl
    rw [e, cnt_set hi hb]; omega
  rcases hx with e | e
  · rw [e]; exact ⟨fun _ => hput, fun q => absurd f1 q⟩
  · rw [e, f5]; exact ⟨fun q => absurd q f3, fun _ => hput⟩
end M
