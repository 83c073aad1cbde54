-- ===== what the law's calls need, out of the relation =====
def IM : Int32 → Int32 → Int32 → Int32 → Int32 → Int32 → Int32 → Int32 → Int32 → (Nat → Int32) → (Nat → Int32) → (Nat → Int32) → Prop := fun dn ov se os dm be bm md sm tr co lg => ∃ x : CS, SR x (dn, ov, se, os, dm, be, bm, md, sm, tr, co, lg)
section IJ
variable {started terms cons taken begun consm termsm : Int32} {costs coefs lits bits firsts bounds costsm factors litsm begins boundsm : Nat → Int32}
theorem IM_step (hJ : JP started terms cons taken costs coefs lits bits firsts bounds begun consm termsm costsm factors litsm begins boundsm) : ∀ (dn ov se os dm be bm md sm : Int32) (tr co lg : Nat → Int32), dn = 0 → ov = 0 → IM dn ov se os dm be bm md sm tr co lg →
    IM (fX6_step consm dn ov se os dm be bm md sm costsm factors litsm begins boundsm tr co lg).1 (fX6_step consm dn ov se os dm be bm md sm costsm factors litsm begins boundsm tr co lg).2.1 (fX6_step consm dn ov se os dm be bm md sm costsm factors litsm begins boundsm tr co lg).2.2.1 (fX6_step consm dn ov se os dm be bm md sm costsm factors litsm begins boundsm tr co lg).2.2.2.1 (fX6_step consm dn ov se os dm be bm md sm costsm factors litsm begins boundsm tr co lg).2.2.2.2.1 (fX6_step consm dn ov se os dm be bm md sm costsm factors litsm begins boundsm tr co lg).2.2.2.2.2.1 (fX6_step consm dn ov se os dm be bm md sm costsm factors litsm begins boundsm tr co lg).2.2.2.2.2.2.1 (fX6_step consm dn ov se os dm be bm md sm costsm factors litsm begins boundsm tr co lg).2.2.2.2.2.2.2.1 (fX6_step consm dn ov se os dm be bm md sm costsm factors litsm begins boundsm tr co lg).2.2.2.2.2.2.2.2.1 (fX6_step consm dn ov se os dm be bm md sm costsm factors litsm begins boundsm tr co lg).2.2.2.2.2.2.2.2.2.1 (fX6_step consm dn ov se os dm be bm md sm costsm factors litsm begins boundsm tr co lg).2.2.2.2.2.2.2.2.2.2.1 (fX6_step consm dn ov se os dm be bm md sm costsm factors litsm begins boundsm tr co lg).2.2.2.2.2.2.2.2.2.2.2 := by
  intro dn ov se os dm be bm md sm tr co lg h1 h2 hI
  obtain ⟨⟨rfl, rfl, rfl, rfl, rfl, rfl, rfl⟩, _, _, _, C, T, fB, hW, hb, hs⟩ := hJ
  obtain ⟨⟨dc, bc, bo, st, sta, sz, wd, on, ze, ch, ob, zb⟩, h⟩ := hI
  subst h1; subst h2
  have h2 := (SR.use (coefs := factors) (bounds := boundsm) hW h).2.2.2.2
  subst h2
  exact ⟨_, step_rel (coefs := factors) (bounds := boundsm) hW hb h⟩
theorem IM_use (hJ : JP started terms cons taken costs coefs lits bits firsts bounds begun consm termsm costsm factors litsm begins boundsm) : ∀ (dn ov se os dm be bm md sm : Int32) (tr co lg : Nat → Int32), dn = 0 → ov = 0 → IM dn ov se os dm be bm md sm tr co lg →
    okN 400 sm ∧ okN 16 dm ∧ (∀ a b : Int32, ¬ fX6_forced a b consm se os costsm factors litsm begins boundsm = 0 → okN 15 dm) ∧ (¬ dm = 16 → ∃ u : Nat, 1 ≤ u ∧ u ≤ 16 ∧ fX6_isSet (nI u) se = 0) := by
  intro dn ov se os dm be bm md sm tr co lg h1 h2 hI
  obtain ⟨⟨rfl, rfl, rfl, rfl, rfl, rfl, rfl⟩, _, _, _, C, T, fB, hW, hb, hs⟩ := hJ
  obtain ⟨⟨dc, bc, bo, st, sta, sz, wd, on, ze, ch, ob, zb⟩, h⟩ := hI
  subst h1; subst h2
  have h3 := SR.use (coefs := factors) (bounds := boundsm) hW h
  exact ⟨h3.1, h3.2.1, h3.2.2.1, h3.2.2.2.1⟩
theorem mu_J (hJ : JP started terms cons taken costs coefs lits bits firsts bounds begun consm termsm costsm factors litsm begins boundsm) : ∀ a b z o y : Int32, ¬ fX6_forced a b consm z o costsm factors litsm begins boundsm = 0 → (0 ≤ fX6_forced a b consm z o costsm factors litsm begins boundsm → (fun q : Int32 => 16 - cnt q) (fX6_put (fX6_forced a b consm z o costsm factors litsm begins boundsm) y z o).1 < (fun q : Int32 => 16 - cnt q) z) ∧ (¬ 0 ≤ fX6_forced a b consm z o costsm factors litsm begins boundsm → (fun q : Int32 => 16 - cnt q) (fX6_put (-(fX6_forced a b consm z o costsm factors litsm begins boundsm)) y z o).1 < (fun q : Int32 => 16 - cnt q) z) := by
  obtain ⟨⟨rfl, rfl, rfl, rfl, rfl, rfl, rfl⟩, _, _, _, C, T, fB, hW, hb, hs⟩ := hJ
  exact mu_put (coefs := factors) (bounds := boundsm) hW
end IJ
theorem law_in {i L : Nat} {x3 : Int32} (ex : x3 = nI i) (hi : i + 3 ≤ L) (hL : L ≤ 1536) : vp_in x3 L ∧ vp_in (x3 + 1) L ∧ vp_in (x3 + 2) L := by
  subst ex
  rw [nI_1, show (2 : Int32) = nI 2 from rfl, nI_add]
  exact ⟨vp_in_nI (by omega) (by omega), vp_in_nI (by omega) (by omega), vp_in_nI (by omega) (by omega)⟩
theorem law_le {i L : Nat} {x3 : Int32} (ex : x3 = nI i) (hi : i ≤ L + 3) (hL : L ≤ 1536) (c : ¬ (nI L - 3) < x3) : i + 3 ≤ L := by
  subst ex
  rw [show (3 : Int32) = nI 3 from rfl, Int32.lt_iff_toInt_lt, pk_sub_toInt (by omega) (by decide), nI_toInt (by omega)] at c
  omega
/-- at the start: a fresh object of each -/
theorem SR_0 {ch ob zb tr co wd : Nat → Int32} : SR (0, -1, 0, 0, 2, 0, wd, 0, 0, ch, ob, zb) (0, 0, 0, 0, 0, -1, 0, 0, 0, tr, co, wd) :=
  ⟨⟨rfl, rfl, rfl, rfl, rfl⟩, okN_0 400, Or.inl ⟨rfl, rfl⟩, Or.inl ⟨rfl, rfl, rfl⟩, fun _ => ⟨[], trivial, trivial, trivial, rfl, rfl, rfl, rfl, rfl, rfl⟩⟩
theorem JP_0 : JP 0 0 0 0 (fun _ => 0) (fun _ => 0) (fun _ => 0) (fun _ => 0) (fun _ => 0) (fun _ => 0) 0 0 0 (fun _ => 0) (fun _ => 0) (fun _ => 0) (fun _ => 0) (fun _ => 0) :=
  ⟨⟨rfl, rfl, rfl, rfl, rfl, rfl, rfl⟩, Or.inl rfl, okN_0 120, okN_0 120, 0, 0, fun _ => 0, ⟨rfl, by omega, by omega, fun c hc => ⟨rfl, Nat.le_refl 0⟩, fun c hc => absurd hc (by omega), fun t ht => absurd ht (by omega), fun v _ => ⟨0, by omega, rfl⟩⟩, fun t ht => absurd ht (by omega), fun _ => ⟨rfl, rfl, fun i _ => ⟨fun q => by rw [b_0] at q; exact absurd q (by decide), fun ⟨t, _, q, _⟩ => absurd q (by omega)⟩⟩⟩
