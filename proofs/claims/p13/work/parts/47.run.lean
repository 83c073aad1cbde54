-- ===== run: so many steps on both sides =====
section R
variable {C T : Nat} {fB : Nat → Nat} {cons : Int32} {costs coefs lits bits firsts bounds : Nat → Int32}
theorem run_L (hW : PW C T fB cons costs lits firsts) (hb : bitsOk T lits bits) {x1 : Int32} {f : Nat} (hx : x1 = nI f) (hf : f ≤ 2000)
    (A1 A2 A3 A4 A5 A13 : Int32) (A14 : Nat → Int32) (A15 A16 : Int32) (A17 A18 A19 : Nat → Int32) (B2 B3 B4 B5 B6 B7 B8 B9 B10 B11 B12 B13 B14 : Int32) (B20 B21 B22 : Nat → Int32) (te be : Int32) :
    ∀ (n k : Nat) (dc bc bo st sta sz on ze dn ov se os dm ss so : Int32) (wd ch ob zb tr co : Nat → Int32), k ≤ 2000 → 2000 < k + n → SR (dc, bc, bo, st, sta, sz, wd, on, ze, ch, ob, zb) (dn, ov, se, os, dm, bc, bo, st, sz, tr, co, wd) →
    ∃ (dc2 bc2 bo2 st2 sta2 sz2 on2 ze2 dn2 ov2 se2 os2 dm2 : Int32) (wd2 ch2 ob2 zb2 tr2 co2 : Nat → Int32),
      fX3_advance_L2 x1 A1 A2 A3 A4 A5 cons costs coefs lits bits firsts bounds A13 A14 A15 A16 A17 A18 A19 n (nI k) dc bc bo st sta sz wd on ze ch ob zb = (sta2, dc2, bc2, bo2, st2, sta2, sz2, wd2, on2, ze2, ch2, ob2, zb2) ∧
      fX6_run_L56 x1 cons B2 B3 B4 B5 B6 B7 B8 B9 B10 B11 B12 B13 B14 costs coefs lits firsts bounds B20 B21 B22 n (nI k) te be dn ov se os dm ss so bc bo st sz tr co wd = (sta2, te, be, dn2, ov2, se2, os2, dm2, se2, os2, bc2, bo2, st2, sz2, tr2, co2, wd2) ∧
      SR (dc2, bc2, bo2, st2, sta2, sz2, wd2, on2, ze2, ch2, ob2, zb2) (dn2, ov2, se2, os2, dm2, bc2, bo2, st2, sz2, tr2, co2, wd2) := by
  intro n
  induction n with
  | zero => intro k dc bc bo st sta sz on ze dn ov se os dm ss so wd ch ob zb tr co h1 h2; exact absurd h2 (by omega)
  | succ n ih =>
    intro k dc bc bo st sta sz on ze dn ov se os dm ss so wd ch ob zb tr co h1 h2 hR
    have hst : stR sta dn ov := hR.2.2.2.1
    have hfin : (if ov = 0 then (if dn = 0 then ((2 : Int32), te, be, dn, ov, se, os, dm, se, os, bc, bo, st, sz, tr, co, wd) else (1, te, be, dn, ov, se, os, dm, se, os, bc, bo, st, sz, tr, co, wd)) else (-2, te, be, dn, ov, se, os, dm, se, os, bc, bo, st, sz, tr, co, wd)) = (sta, te, be, dn, ov, se, os, dm, se, os, bc, bo, st, sz, tr, co, wd) := by
      rcases hst with ⟨rfl, rfl, rfl⟩ | ⟨rfl, rfl, rfl⟩ | ⟨rfl, rfl, rfl⟩
      · rfl
      · rfl
      · rfl
    rw [fX3_advance_L2.eq_2, fX6_run_L56.eq_2]
    by_cases hk : x1 ≤ nI k
    · rw [if_pos hk, if_pos hk, hfin]
      exact ⟨dc, bc, bo, st, sta, sz, on, ze, dn, ov, se, os, dm, wd, ch, ob, zb, tr, co, rfl, rfl, hR⟩
    · rw [if_neg hk, if_neg hk, hfin]
      have hkf : k < f := k_le2 (x := nI k) rfl hx (by omega) hk
      by_cases h2s : sta = 2
      · subst h2s
        obtain ⟨rfl, rfl⟩ : dn = 0 ∧ ov = 0 := by
          rcases hst with ⟨_, q1, q2⟩ | ⟨q, _⟩ | ⟨q, _⟩
          · exact ⟨q1, q2⟩
          · exact absurd q (by decide)
          · exact absurd q (by decide)
        have hs := step_rel (coefs := coefs) (bounds := bounds) hW hb hR
        rw [if_pos rfl, if_pos rfl, if_pos rfl, nI_1]
        generalize fX3_step dc bc bo st 2 cons costs coefs lits bits firsts bounds sz wd on ze ch ob zb = xs at hs ⊢
        generalize fX6_step cons 0 0 se os dm bc bo st sz costs coefs lits firsts bounds tr co wd = ys at hs ⊢
        obtain ⟨a1, a2, a3, a4, a5, a6, a7, a8, a9, a10, a11, a12⟩ := xs
        obtain ⟨b1, b2, b3, b4, b5, b6, b7, b8, b9, b10, b11, b12⟩ := ys
        obtain ⟨⟨e1, e2, e3, e4, e5⟩, q⟩ := hs
        subst e1; subst e2; subst e3; subst e4; subst e5
        exact ih (k + 1) _ _ _ _ _ _ _ _ _ _ _ _ _ _ _ _ _ _ _ _ _ (by omega) (by omega) ⟨⟨rfl, rfl, rfl, rfl, rfl⟩, q⟩
      · rw [if_neg h2s]
        refine ⟨dc, bc, bo, st, sta, sz, on, ze, dn, ov, se, os, dm, wd, ch, ob, zb, tr, co, rfl, ?_, hR⟩
        rcases hst with ⟨q, _⟩ | ⟨_, rfl, rfl⟩ | ⟨_, rfl, rfl⟩
        · exact absurd q h2s
        · rw [if_neg (by decide)]
        · rw [if_pos rfl, if_neg (by decide)]
end R
