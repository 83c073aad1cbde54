section RR
variable {started terms cons taken begun consm termsm : Int32} {costs coefs lits bits firsts bounds costsm factors litsm begins boundsm : Nat → Int32}
variable {dc bc bo st sta sz on ze dn ov ss so dm be bm md sm set ones : Int32} {wd ch ob zb tr co lg : Nat → Int32}
theorem run_rel (hJ : JP started terms cons taken costs coefs lits bits firsts bounds begun consm termsm costsm factors litsm begins boundsm) (hS : SR (dc, bc, bo, st, sta, sz, wd, on, ze, ch, ob, zb) (dn, ov, ss, so, dm, be, bm, md, sm, tr, co, lg)) (x1 : Int32) :
    ∃ (r s2 te2 dc2 bc2 bo2 st2 sta2 sz2 on2 ze2 dn2 ov2 se2 os2 dm2 ss2 so2 : Int32) (wd2 ch2 ob2 zb2 tr2 co2 : Nat → Int32),
      fX5_run x1 started cons costs coefs lits bits firsts bounds sz wd dc bc bo st sta on ze ch ob zb = (r, s2, sz2, wd2, dc2, bc2, bo2, st2, sta2, on2, ze2, ch2, ob2, zb2) ∧
      fX6_run x1 consm termsm begun dn ov set ones dm ss so be bm md sm costsm factors litsm begins boundsm tr co lg = (r, te2, s2, dn2, ov2, se2, os2, dm2, ss2, so2, bc2, bo2, st2, sz2, tr2, co2, wd2) ∧
      SR (dc2, bc2, bo2, st2, sta2, sz2, wd2, on2, ze2, ch2, ob2, zb2) (dn2, ov2, ss2, so2, dm2, bc2, bo2, st2, sz2, tr2, co2, wd2) ∧ JP s2 terms cons taken costs coefs lits bits firsts bounds s2 consm te2 costsm factors litsm begins boundsm := by
  have hokC := hJ.okC
  obtain ⟨⟨rfl, rfl, rfl, rfl, rfl, rfl, rfl⟩, h1, h2, h3, C, T, fB, hW, hb, hs⟩ := hJ
  have hS0 := hS
  obtain ⟨⟨rfl, rfl, rfl, rfl, rfl⟩, hSr⟩ := hS
  rw [fX5_run_eq, fX6_run_eq]; unfold fX5_run_d fX6_run_d
  rw [isIn_eq]
  by_cases hin : fX5_isWithin x1 1 2000 = 0
  · rw [if_pos hin, if_pos hin]
    exact ⟨_, _, _, _, _, _, _, _, _, _, _, _, _, _, _, _, _, _, _, _, _, _, _, _, rfl, rfl, hS0, ⟨⟨rfl, rfl, rfl, rfl, rfl, rfl, rfl⟩, h1, h2, h3, C, T, fB, hW, hb, hs⟩⟩
  · rw [if_neg hin, if_neg hin]
    obtain ⟨f, ef, hf⟩ := fuel_ok hin
    have hone : ∀ te : Int32, okN 120 te → JP 1 terms consm taken costsm factors litsm bits begins boundsm 1 consm te costsm factors litsm begins boundsm := fun te hte => ⟨⟨rfl, rfl, rfl, rfl, rfl, rfl, rfl⟩, Or.inr rfl, h2, hte, C, T, fB, hW, hb, fun q => absurd q (by decide)⟩
    rw [fX3_advance_eq]; unfold fX3_advance_d
    by_cases hbg : begun = 0
    · rw [if_pos hbg]
      obtain ⟨dc2, bc2, bo2, st2, sta2, sz2, on2, ze2, dn2, ov2, se2, os2, dm2, wd2, ch2, ob2, zb2, tr2, co2, r1, r2, r3⟩ := run_L (coefs := factors) (bounds := boundsm) hW hb ef hf dc be bm md sta sm lg on ze ch ob zb termsm begun dn ov set ones dm ss so be bm md sm tr co lg (begins consm.toNatClampNeg) 1 2001 0 dc be bm md sta sm on ze dn ov ss so dm ss so lg ch ob zb tr co (by omega) (by omega) hS0
      rw [nI_0] at r1 r2
      rw [r1, r2]
      exact ⟨_, _, _, _, _, _, _, _, _, _, _, _, _, _, _, _, _, _, _, _, _, _, _, _, rfl, rfl, r3, hone _ hokC.2.2.1⟩
    · have hb1 : begun = 1 := by rcases h1 with q | q; exact absurd q hbg; exact q
      rw [if_neg hbg]
      obtain ⟨dc2, bc2, bo2, st2, sta2, sz2, on2, ze2, dn2, ov2, se2, os2, dm2, wd2, ch2, ob2, zb2, tr2, co2, r1, r2, r3⟩ := run_L (coefs := factors) (bounds := boundsm) hW hb ef hf dc be bm md sta sm lg on ze ch ob zb termsm begun dn ov set ones dm ss so be bm md sm tr co lg termsm begun 2001 0 dc be bm md sta sm on ze dn ov ss so dm ss so lg ch ob zb tr co (by omega) (by omega) hS0
      rw [nI_0] at r1 r2
      rw [r1, r2, hb1]
      exact ⟨_, _, _, _, _, _, _, _, _, _, _, _, _, _, _, _, _, _, _, _, _, _, _, _, rfl, rfl, r3, hone _ h3⟩
end RR
