section S
variable {C T : Nat} {fB : Nat → Nat} {cons : Int32} {costs coefs lits bits firsts bounds : Nat → Int32}
variable {bc bo st sz : Int32} {wd ch ob zb tr co : Nat → Int32} {E : List Ent}
theorem L111_go {x : Int32} {i : Nat} (hi : i < 16) (hlow : ∀ j, j < i → bt x j = true) (A1 A2 A3 A5 A6 A7 A8 A9 A10 : Int32) (B1 B2 B3 B4 B5 B6 B7 B8 : Nat → Int32) : ∀ (n k : Nat), k ≤ i → i < k + n → ∃ m, fX6_step_L111 A1 A2 A3 x A5 A6 A7 A8 A9 A10 B1 B2 B3 B4 B5 B6 B7 B8 n (nI (k + 1)) = fX6_step_L111 A1 A2 A3 x A5 A6 A7 A8 A9 A10 B1 B2 B3 B4 B5 B6 B7 B8 (m + 1) (nI (i + 1)) := by
  intro n
  induction n with
  | zero => intro k h1 h2; exact absurd h2 (by omega)
  | succ n ih =>
    intro k h1 h2
    by_cases e : k = i
    · subst e; exact ⟨n, rfl⟩
    · obtain ⟨m, hm⟩ := ih (k + 1) (by omega) (by omega)
      refine ⟨m, ?_⟩
      rw [fX6_step_L111.eq_2, isSet_I (by omega), hlow k (by omega), if_neg (by decide), nI_1]
      exact hm
theorem limR_of (hB : bestR bc bo) : (bc < 0 ∧ limR bc (fX5_limitBelow bc) 0 (bc - 1)) ∨ (¬ bc < 0 ∧ limR bc (fX5_limitBelow bc) 1 (bc - 1)) := by
  rw [fX5_limitBelow_eq]; unfold fX5_limitBelow_d
  rcases hB with ⟨rfl, _⟩ | ⟨k, hk, rfl⟩
  · exact Or.inl ⟨by decide, Or.inl ⟨rfl, rfl, rfl⟩⟩
  · have hn : ¬ nI k = -1 := by
      intro q
      have h1 := nI_toInt (n := k) (by omega)
      rw [q, show (-1 : Int32).toInt = -1 from rfl] at h1
      omega
    exact Or.inr ⟨nI_pos (by omega), Or.inr ⟨⟨k, hk, rfl⟩, by rw [if_neg hn], rfl, rfl⟩⟩
theorem stepM_rel (hW : PW C T fB cons costs lits firsts) (hb : bitsOk T lits bits) (hE : okE E) (hT : trE tr co E) (hS : stE ch ob zb E) (hL : okN 400 sz) (hB : bestR bc bo) {a : Int32} (hR : limR bc (fX5_limitBelow bc) a (bc - 1)) :
    SR (fX3_step (nI (kE E)) bc bo st 2 cons costs coefs lits bits firsts bounds sz wd (oE E) (zE E) ch ob zb) (stepM a cons 0 0 (oE E ||| zE E) (oE E) (nI E.length) bc bo st sz costs coefs lits firsts bounds tr co wd) := by
  have hd := dj_E E hE
  have hlen := len16 hE
  have hkl := kE_le E
  rw [fX3_step_eq]; unfold fX3_step_d stepM
  have hfree := forced_free (coefs := coefs) (bounds := bounds) (set := oE E ||| zE E) (ones := oE E) (x1 := a) (x2 := bc - 1) hW
  rw [forced_eq (coefs := coefs) (bounds := bounds) hW hb hd hR] at hfree
  rw [broken_eq (coefs := coefs) (bounds := bounds) hW hb hd hR, forced_eq (coefs := coefs) (bounds := bounds) hW hb hd hR]
  generalize fX2_isBroken (fX5_limitBelow bc) cons costs coefs lits bits firsts bounds (oE E) (zE E) = B
  generalize fX2_forcedLiteral (fX5_limitBelow bc) cons costs coefs lits bits firsts bounds (oE E) (zE E) = lit at hfree ⊢
  by_cases h0 : B = 0
  · rw [if_pos h0, if_pos h0]
    by_cases hl : lit = 0
    · rw [if_pos hl, if_pos hl]
      by_cases h16 : E.length = 16
      · have hall : ∀ j, j < 16 → bt (oE E ||| zE E) j = true := by
          intro j hj
          cases hq : bt (oE E ||| zE E) j
          · have h1 := cnt_lt hj hq
            rw [len_cnt E hE] at h1
            exact absurd h1 (by omega)
          · rfl
        have hls : fX4_leastNotSet (oE E) (zE E) = 0 := by
          rw [fX4_leastNotSet_eq]; unfold fX4_leastNotSet_d
          exact least_none hall _ _ 17 0 (by omega)
        rw [if_pos hls, if_pos (show nI E.length = 16 by rw [h16]; rfl), cost_eq, fX3_keepBest_eq]
        unfold fX3_keepBest_d
        obtain ⟨r, hr, er⟩ := cost_nI (o := oE E) hW.2.2.2.2.2.2
        exact ⟨⟨rfl, rfl, rfl, rfl, rfl⟩, hL, Or.inr ⟨r, hr, er⟩, Or.inl ⟨rfl, rfl, rfl⟩, fun _ => ⟨E, hE, hT, hS, rfl, rfl, rfl, rfl, rfl, rfl⟩⟩
      · obtain ⟨i, hi, hbi, hlow⟩ := least_ex (cnt_free (x := oE E ||| zE E) (by rw [len_cnt E hE]; omega))
        have hls : fX4_leastNotSet (oE E) (zE E) = nI (i + 1) := by
          rw [fX4_leastNotSet_eq]; unfold fX4_leastNotSet_d
          exact least_L hi hbi hlow _ _ 17 0 (by omega) (by omega)
        have hf := lit_facts i hi
        have ho : bt (oE E) i = false ∧ bt (zE E) i = false := by
          rw [b_or] at hbi
          cases h1 : bt (oE E) i <;> cases h2 : bt (zE E) i <;> simp_all
        obtain ⟨m, hm⟩ := L111_go (x := oE E ||| zE E) hi hlow cons 0 0 (oE E) (nI E.length) bc bo st sz costs coefs lits firsts bounds tr co wd 17 0 (by omega) (by omega)
        rw [hls, if_neg hf.2.2.2.2.2.1, if_neg (show ¬ nI E.length = 16 from fun q => h16 ((nI_eq (b := 16) (by omega) (by decide)).mp q))]
        rw [show (1 : Int32) = nI (0 + 1) from rfl, hm, fX6_step_L111.eq_2, isSet_I (by omega), hbi, if_pos (by decide)]
        rw [fX3_choose_eq]; unfold fX3_choose_d
        rw [if_neg (show ¬ (16 : Int32) ≤ nI (kE E) from nI_ge (a := kE E) (b := 16) (by omega) (by decide))]
        by_cases h : sz = 400
        · rw [(wr_full (x := nI (i + 1)) (sta := 2) (ov := 0) (wd := wd) h).1, (wr_full (x := nI (i + 1)) (sta := 2) (ov := 0) (wd := wd) h).2]
          exact ⟨⟨rfl, rfl, rfl, rfl, rfl⟩, hL, hB, Or.inr (Or.inr ⟨rfl, rfl, rfl⟩), fun q => absurd (show (-2 : Int32) = 2 from q) (by decide)⟩
        · rw [(wr_ok (x := nI (i + 1)) (sta := 2) (ov := 0) (wd := wd) hL h).1, (wr_ok (x := nI (i + 1)) (sta := 2) (ov := 0) (wd := wd) hL h).2]
          rw [if_neg (show ¬ (1 : Int32) = 0 by decide), if_neg (show ¬ (1 : Int32) = 0 by decide), lay_eq, mkT_neg hi, nI_clamp (by omega), nI_clamp (by omega)]
          refine ⟨⟨rfl, rfl, rfl, rfl, rfl⟩, okN_400 hL h, hB, Or.inl ⟨rfl, rfl, rfl⟩, fun _ => ⟨(i, false, true) :: E, ⟨hi, ho.1, ho.2, hE⟩, ⟨pk_us, pk_us, trE_upd E (Nat.le_refl _) hT⟩, ⟨fun _ _ => ⟨pk_us, pk_us, pk_us⟩, stE_upd E (Nat.le_refl _) hS⟩, nI_1 _, nI_1 _, rfl, rfl, (oz_cons i false true E).symm, ?_⟩⟩
          show (if (0 : Int32) = 0 then oE E &&& (bI i ^^^ (-1)) else oE E ||| bI i) = oE E
          rw [if_pos rfl]; exact clr_free hi ho.1
    · obtain ⟨i, ⟨hi, hx⟩, hbi⟩ := hfree hl
      obtain ⟨f1, f2, f3, f4, f5, f6, f7⟩ := lit_facts i hi
      have ho : bt (oE E) i = false ∧ bt (zE E) i = false := by
        rw [b_or] at hbi
        cases h1 : bt (oE E) i <;> cases h2 : bt (zE E) i <;> simp_all
      have hlt : E.length < 16 := by
        have h1 := cnt_lt hi hbi
        rw [len_cnt E hE] at h1
        exact h1
      rw [if_neg hl, if_neg hl]
      rcases hx with rfl | rfl
      · rw [if_pos f1, if_neg f2, mkT_pos hi, lay_eq, nI_clamp (by omega)]
        exact ⟨⟨rfl, rfl, rfl, rfl, rfl⟩, hL, hB, Or.inl ⟨rfl, rfl, rfl⟩, fun _ => ⟨(i, true, false) :: E, ⟨hi, ho.1, ho.2, hE⟩, ⟨pk_us, pk_us, trE_upd E (Nat.le_refl _) hT⟩, ⟨fun q => absurd q (by decide), hS⟩, nI_1 _, rfl, rfl, rfl, (oz_cons i true false E).symm, rfl⟩⟩
      · rw [if_neg f3, if_pos f4, mkT_neg hi, f5, lay_eq, nI_clamp (by omega)]
        refine ⟨⟨rfl, rfl, rfl, rfl, rfl⟩, hL, hB, Or.inl ⟨rfl, rfl, rfl⟩, fun _ => ⟨(i, false, false) :: E, ⟨hi, ho.1, ho.2, hE⟩, ⟨pk_us, pk_us, trE_upd E (Nat.le_refl _) hT⟩, ⟨fun _ q => absurd q (by decide), hS⟩, nI_1 _, rfl, rfl, rfl, (oz_cons i false false E).symm, ?_⟩⟩
        show (if (0 : Int32) = 0 then oE E &&& (bI i ^^^ (-1)) else oE E ||| bI i) = oE E
        rw [if_pos rfl]; exact clr_free hi ho.1
  · rw [if_neg h0, if_neg h0]
    obtain ⟨d2, s2, z2, o2, e2, w2, dn, ov, se, os, dm, tr2, co2, r1, r2, r3⟩ := goBack_rel (st := st + 1) (wd := wd) hE hT hS hL hB
    rw [r1, r2]
    exact r3
theorem step_rel (hW : PW C T fB cons costs lits firsts) (hb : bitsOk T lits bits) {dc on ze dn ov se os dm be bm md sm : Int32} {lg : Nat → Int32} (h : SR (dc, bc, bo, st, 2, sz, wd, on, ze, ch, ob, zb) (dn, ov, se, os, dm, be, bm, md, sm, tr, co, lg)) :
    SR (fX3_step dc bc bo st 2 cons costs coefs lits bits firsts bounds sz wd on ze ch ob zb) (fX6_step cons dn ov se os dm be bm md sm costs coefs lits firsts bounds tr co lg) := by
  obtain ⟨⟨rfl, rfl, rfl, rfl, rfl⟩, hL, hB, hst, hEx⟩ := h
  obtain ⟨E, hE, hT, hS, rfl, rfl, rfl, rfl, rfl, rfl⟩ := hEx rfl
  obtain ⟨rfl, rfl⟩ : dn = 0 ∧ ov = 0 := by
    rcases hst with ⟨_, h1, h2⟩ | ⟨h, _⟩ | ⟨h, _⟩
    · exact ⟨h1, h2⟩
    · exact absurd h (by decide)
    · exact absurd h (by decide)
  rw [step_M]
  rcases limR_of hB with ⟨hneg, hR⟩ | ⟨hneg, hR⟩
  · rw [if_pos hneg]; exact stepM_rel hW hb hE hT hS hL hB hR
  · rw [if_neg hneg]; exact stepM_rel hW hb hE hT hS hL hB hR
end S
