-- ===== a step of the class and a step of the reference =====
abbrev CS : Type := Int32 × Int32 × Int32 × Int32 × Int32 × Int32 × (Nat → Int32) × Int32 × Int32 × (Nat → Int32) × (Nat → Int32) × (Nat → Int32)
abbrev MS : Type := Int32 × Int32 × Int32 × Int32 × Int32 × Int32 × Int32 × Int32 × Int32 × (Nat → Int32) × (Nat → Int32) × (Nat → Int32)
def bestR (bc bo : Int32) : Prop := (bc = -1 ∧ bo = 0) ∨ ∃ k : Nat, k ≤ 524272 ∧ bc = nI k
def stR (sta dn ov : Int32) : Prop := (sta = 2 ∧ dn = 0 ∧ ov = 0) ∨ (sta = 1 ∧ dn = 1 ∧ ov = 0) ∨ (sta = -2 ∧ dn = 0 ∧ ov = 1)
/-- class: depth, best, its ones, steps, state, size, words, ones, zeros, choices, before them; reference: done, over, set, ones, depth, best, its ones, made, size, trail, choice, log -/
def SR : CS → MS → Prop
  | (dc, bc, bo, st, sta, sz, wd, on, ze, ch, ob, zb), (dn, ov, se, os, dm, be, bm, md, sm, tr, co, lg) =>
    (be = bc ∧ bm = bo ∧ md = st ∧ sm = sz ∧ lg = wd) ∧ okN 400 sz ∧ bestR bc bo ∧ stR sta dn ov ∧ (sta = 2 → ∃ E : List Ent, okE E ∧ trE tr co E ∧ stE ch ob zb E ∧ dm = nI E.length ∧ dc = nI (kE E) ∧ on = oE E ∧ ze = zE E ∧ se = (oE E ||| zE E) ∧ os = oE E)
theorem len16 {E : List Ent} (h : okE E) : E.length ≤ 16 := by rw [← len_cnt E h]; exact cnt_le _
section S
variable {C T : Nat} {fB : Nat → Nat} {cons : Int32} {costs coefs lits bits firsts bounds : Nat → Int32}
variable {bc bo st sz : Int32} {wd ch ob zb tr co : Nat → Int32} {E : List Ent}
/-- the end of the search, in the log -/
theorem fin_rel {F1 F2 F3 F4 F5 F8 : Int32} {F9 F10 F11 : Nat → Int32} {m : Nat} (hL : okN 400 sz) (hB : bestR bc bo) : ∃ (s2 d2 o2 z2 : Int32) (w2 : Nat → Int32), fX3_finish bc bo 2 sz wd = (s2, z2, w2) ∧ fX6_goBack_L9 F1 F2 F3 F4 F5 bc bo F8 F9 F10 F11 (m + 1) 0 0 0 0 0 sz tr co wd = (d2, o2, 0, 0, 0, z2, tr, co, w2) ∧ okN 400 z2 ∧ stR s2 d2 o2 ∧ ¬ s2 = 2 := by
  rw [fX3_finish_eq, fX6_goBack_L9.eq_2, if_pos (by decide)]; unfold fX3_finish_d
  by_cases h : sz = 400
  · rw [(wr_full (x := bc) (sta := 2) (ov := 0) (wd := wd) h).1, (wr_full (x := bc) (sta := 2) (ov := 0) (wd := wd) h).2]
    exact ⟨-2, 0, 1, sz, wd, rfl, rfl, hL, Or.inr (Or.inr ⟨rfl, rfl, rfl⟩), by decide⟩
  · rw [(wr_ok (x := bc) (sta := 2) (ov := 0) (wd := wd) hL h).1, (wr_ok (x := bc) (sta := 2) (ov := 0) (wd := wd) hL h).2]
    rw [if_neg (show ¬ (1 : Int32) = 0 by decide), if_neg (show ¬ (1 : Int32) = 0 by decide)]
    have hL2 := okN_400 hL h
    generalize hz : sz + 1 = z1 at hL2 ⊢
    generalize upd wd sz.toNatClampNeg bc = w1
    have e0 : (if 0 ≤ bc then bo else 0) = bo := by
      rcases hB with ⟨h1, h2⟩ | ⟨k, hk, h1⟩
      · rw [h1, h2]; rfl
      · rw [if_pos (by rw [h1]; exact nI_pos' (by omega))]
    by_cases h2 : z1 = 400
    · have a1 := fun x => (wr_full (x := x) (sta := 2) (ov := 0) (wd := w1) h2).1
      have a2 := fun x => (wr_full (x := x) (sta := 2) (ov := 0) (wd := w1) h2).2
      refine ⟨-2, 0, 1, z1, w1, ?_, ?_, hL2, Or.inr (Or.inr ⟨rfl, rfl, rfl⟩), by decide⟩
      · show (if (fX3_writes bo 2 z1 w1).1 = 0 then _ else _) = _
        rw [a1]; rfl
      · show (if 0 ≤ bc then (if (fX6_write bo 0 z1 w1).1 = 0 then _ else _) else (if (fX6_write 0 0 z1 w1).1 = 0 then _ else _)) = _
        rw [a2, a2]
        split <;> rfl
    · have a1 := fun x => (wr_ok (x := x) (sta := 2) (ov := 0) (wd := w1) hL2 h2).1
      have a2 := fun x => (wr_ok (x := x) (sta := 2) (ov := 0) (wd := w1) hL2 h2).2
      refine ⟨1, 1, 0, z1 + 1, upd w1 z1.toNatClampNeg bo, ?_, ?_, okN_400 hL2 h2, Or.inr (Or.inl ⟨rfl, rfl, rfl⟩), by decide⟩
      · show (if (fX3_writes bo 2 z1 w1).1 = 0 then _ else _) = _
        rw [a1]; rfl
      · show (if 0 ≤ bc then (if (fX6_write bo 0 z1 w1).1 = 0 then _ else _) else (if (fX6_write 0 0 z1 w1).1 = 0 then _ else _)) = _
        rw [a2, a2]
        by_cases hb : 0 ≤ bc
        · rw [if_pos hb]; rfl
        · rw [if_neg hb] at e0 ⊢
          rw [← e0]; rfl
theorem goBack_rel (hE : okE E) (hT : trE tr co E) (hS : stE ch ob zb E) (hL : okN 400 sz) (hB : bestR bc bo) :
    ∃ (d2 s2 z2 o2 e2 : Int32) (w2 : Nat → Int32) (dn ov se os dm : Int32) (tr2 co2 : Nat → Int32), fX3_goBack (nI (kE E)) bc bo 2 sz wd (oE E) (zE E) ch ob zb = (d2, s2, z2, w2, o2, e2) ∧ fX6_goBack 0 0 (oE E ||| zE E) (oE E) (nI E.length) bc bo sz tr co wd = (dn, ov, se, os, dm, z2, tr2, co2, w2) ∧ SR (d2, bc, bo, st, s2, z2, w2, o2, e2, ch, ob, zb) (dn, ov, se, os, dm, bc, bo, st, z2, tr2, co2, w2) := by
  have hlen := len16 hE
  by_cases h : sz = 400
  · have hC : fX3_goBack (nI (kE E)) bc bo 2 sz wd (oE E) (zE E) ch ob zb = (nI (kE E), -2, sz, wd, oE E, zE E) := by
      rw [fX3_goBack_eq]; unfold fX3_goBack_d
      rw [(wr_full (x := 0) (sta := 2) (ov := 0) (wd := wd) h).1]; rfl
    have hM : fX6_goBack 0 0 (oE E ||| zE E) (oE E) (nI E.length) bc bo sz tr co wd = (0, 1, oE E ||| zE E, oE E, nI E.length, sz, tr, co, wd) := by
      rw [fX6_goBack_eq]; unfold fX6_goBack_d
      rw [(wr_full (x := 0) (sta := 2) (ov := 0) (wd := wd) h).2]; rfl
    exact ⟨_, _, _, _, _, _, _, _, _, _, _, _, _, hC, hM, ⟨rfl, rfl, rfl, rfl, rfl⟩, hL, hB, Or.inr (Or.inr ⟨rfl, rfl, rfl⟩), fun q => absurd q (by decide)⟩
  · have hw1 := (wr_ok (x := 0) (sta := 2) (ov := 0) (wd := wd) hL h).1
    have hw2 := (wr_ok (x := 0) (sta := 2) (ov := 0) (wd := wd) hL h).2
    have hL2 := okN_400 hL h
    by_cases hk : kE E = 0
    · obtain ⟨m, hm⟩ := back_none (F1 := 0) (F2 := 0) (F3 := oE E ||| zE E) (F4 := oE E) (F5 := nI E.length) (F6 := bc) (F7 := bo) (F8 := sz) (F9 := tr) (F10 := co) (F11 := wd) (dn := 0) (ov := 0) (s1 := sz + 1) (lg := upd wd sz.toNatClampNeg 0) E 17 hE hT hk (by omega)
      obtain ⟨s2, d2, o2, z2, w2, r1, r2, r3, r4, r5⟩ := fin_rel (F1 := 0) (F2 := 0) (F3 := oE E ||| zE E) (F4 := oE E) (F5 := nI E.length) (F8 := sz) (F9 := tr) (F10 := co) (F11 := wd) (m := m) (tr := tr) (co := co) (wd := upd wd sz.toNatClampNeg 0) hL2 hB
      have hC : fX3_goBack (nI (kE E)) bc bo 2 sz wd (oE E) (zE E) ch ob zb = (nI (kE E), s2, z2, w2, oE E, zE E) := by
        rw [fX3_goBack_eq]; unfold fX3_goBack_d
        rw [hw1, if_neg (show ¬ (1 : Int32) = 0 by decide), if_pos (show nI (kE E) = 0 by rw [hk]; exact nI_0)]
        show (nI (kE E), (fX3_finish bc bo 2 (sz + 1) (upd wd sz.toNatClampNeg 0)).1, (fX3_finish bc bo 2 (sz + 1) (upd wd sz.toNatClampNeg 0)).2.1, (fX3_finish bc bo 2 (sz + 1) (upd wd sz.toNatClampNeg 0)).2.2, oE E, zE E) = _
        rw [r1]
      have hM : fX6_goBack 0 0 (oE E ||| zE E) (oE E) (nI E.length) bc bo sz tr co wd = (d2, o2, 0, 0, 0, z2, tr, co, w2) := by
        rw [fX6_goBack_eq]; unfold fX6_goBack_d
        rw [hw2, if_neg (show ¬ (1 : Int32) = 0 by decide)]
        exact hm.trans r2
      exact ⟨_, _, _, _, _, _, _, _, _, _, _, _, _, hC, hM, ⟨rfl, rfl, rfl, rfl, rfl⟩, r3, hB, r4, fun q => absurd q r5⟩
    · obtain ⟨i, E0, q1, q2, q3, q4, q5, q6, q7, q8⟩ := back_some (F1 := 0) (F2 := 0) (F3 := oE E ||| zE E) (F4 := oE E) (F5 := nI E.length) (F6 := bc) (F7 := bo) (F8 := sz) (F9 := tr) (F10 := co) (F11 := wd) (dn := 0) (ov := 0) (s1 := sz + 1) (lg := upd wd sz.toNatClampNeg 0) E 17 hE hT hS (by omega) (by omega)
      have hkl := kE_le E
      have hC : fX3_goBack (nI (kE E)) bc bo 2 sz wd (oE E) (zE E) ch ob zb = (nI (kE E0), 2, sz + 1, upd wd sz.toNatClampNeg 0, oE E0 ||| bI i, zE E0) := by
        rw [fX3_goBack_eq]; unfold fX3_goBack_d
        rw [hw1, if_neg (show ¬ (1 : Int32) = 0 by decide), if_neg (show ¬ nI (kE E) = 0 from nI_ne0 (by omega) (by omega)), q4, nI_pred, nI_clamp (by omega), q5, q6, q7]
        rw [fX4_become_eq]; unfold fX4_become_d
        rw [mkT_pos q1.1]
      have hM : fX6_goBack 0 0 (oE E ||| zE E) (oE E) (nI E.length) bc bo sz tr co wd = (0, 0, (oE E0 ||| zE E0) ||| bI i, oE E0 ||| bI i, nI (E0.length + 1), sz + 1, upd tr E0.length (nI (i + 1)), upd co E0.length 1, upd wd sz.toNatClampNeg 0) := by
        rw [fX6_goBack_eq]; unfold fX6_goBack_d
        rw [hw2, if_neg (show ¬ (1 : Int32) = 0 by decide)]
        exact q8
      refine ⟨_, _, _, _, _, _, _, _, _, _, _, _, _, hC, hM, ⟨rfl, rfl, rfl, rfl, rfl⟩, hL2, hB, Or.inl ⟨rfl, rfl, rfl⟩, fun _ => ⟨(i, true, true) :: E0, q1, ⟨pk_us, pk_us, trE_upd E0 (Nat.le_refl _) q2⟩, ⟨fun z => absurd z (by decide), q3⟩, rfl, rfl, rfl, rfl, (oz_cons i true true E0).symm, rfl⟩⟩
theorem least_L {x : Int32} {i : Nat} (hi : i < 16) (hx : bt x i = false) (hlow : ∀ j, j < i → bt x j = true) (a b : Int32) : ∀ (n k : Nat), k ≤ i → i < k + n → fX4_leastNotSet_L12 a b n x (nI (k + 1)) = nI (i + 1) := by
  intro n
  induction n with
  | zero => intro k h1 h2; exact absurd h2 (by omega)
  | succ n ih =>
    intro k h1 h2
    rw [fX4_leastNotSet_L12.eq_2, if_neg (show ¬ (16 : Int32) < nI (k + 1) from nI_nlt (b := k + 1) (a := 16) (by omega) (by decide)), bitOf_I]
    by_cases e : k = i
    · subst e; rw [if_pos ((and_bI (by omega)).mpr hx)]
    · rw [if_neg (fun q => by have := (and_bI (i := k) (by omega)).mp q; rw [hlow k (by omega)] at this; exact absurd this (by decide)), nI_1]
      exact ih (k + 1) (by omega) (by omega)
theorem least_none {x : Int32} (hall : ∀ j, j < 16 → bt x j = true) (a b : Int32) : ∀ (n k : Nat), k ≤ 16 → fX4_leastNotSet_L12 a b n x (nI (k + 1)) = 0 := by
  intro n
  induction n with
  | zero => intro k h1; rfl
  | succ n ih =>
    intro k h1
    rw [fX4_leastNotSet_L12.eq_2]
    by_cases h : (16 : Int32) < nI (k + 1)
    · rw [if_pos h]
    · have hk := k_16 (k := k + 1) rfl (by omega) h
      rw [if_neg h, bitOf_I, if_neg (fun q => by have := (and_bI (i := k) (by omega)).mp q; rw [hall k (by omega)] at this; exact absurd this (by decide)), nI_1]
      exact ih (k + 1) (by omega)
theorem least_ex {x : Int32} (h : ∃ i, i < 16 ∧ bt x i = false) : ∃ i, i < 16 ∧ bt x i = false ∧ ∀ j, j < i → bt x j = true := by
  obtain ⟨k, ⟨hk, hb⟩, hl⟩ := pk_least (fun i => i < 16 ∧ bt x i = false) h
  exact ⟨k, hk, hb, fun j hj => by have := hl j hj; cases hq : bt x j; exact absurd ⟨by omega, hq⟩ this; rfl⟩
end S
