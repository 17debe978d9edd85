/-! blocks, by the reference; the minute assembled, by both -/
theorem X6_daysBy_v {N : Nat} (hN : 700 ≤ N) (x : Int64) : f_X6_daysBy N x = some (zI (if okV x ∧ wV x = (daV x + 5) % 7 + 1 then daV x else -1)) := by
  obtain ⟨r1, r2, r3, r4, r5, r6⟩ := V_rng x
  have y : f_X6_valueOf N x (zI 50) (zI 4) = some (zI (mv (yV x))) := X6_valueOf_v N x (s := zI 50) (s4 := zI 54) (w := zI 4) (m := 15) (by omega) (by decide +kernel) (by decide +kernel)
  have mo : f_X6_valueOf N x (zI 45) (zI 1) = some (zI (mv (moV x))) := X6_valueOf_v N x (s := zI 45) (s4 := zI 49) (w := zI 1) (m := 1) (by omega) (by decide +kernel) (by decide +kernel)
  have dd : f_X6_valueOf N x (zI 36) (zI 2) = some (zI (mv (dV x))) := X6_valueOf_v N x (s := zI 36) (s4 := zI 40) (w := zI 2) (m := 3) (by omega) (by decide +kernel) (by decide +kernel)
  have wv : f_X6_ones N x (zI 42) (zI 3) = some (zI (wV x)) := by
    rw [f_X6_ones, show ((1 : Int32) <<< (zI 3 &&& 31)) - 1 = nI 7 by decide +kernel]
    exact congrArg some (zI_self ((jushr x (zI 42)).toInt32 &&& nI 7))
  have isd := X6_isDay_v N (y := 2000 + mv (yV x)) (m := mv (moV x)) (d := mv (dV x)) (by unfold mv; grind) (by unfold mv; grind) (by unfold mv; grind)
  have isd : f_X6_isDay N (zI (2000 + mv (yV x))) (zI (mv (moV x))) (zI (mv (dV x))) = some (decide (okV x)) := isd.trans (congrArg some (decide_eq_decide.mpr (isd_v x)))
  rw [f_X6_daysBy]
  by_cases c : okV x
  · obtain ⟨c1, c2, c3, c4, c5, c6⟩ := id c
    rw [decide_eq_true c, mv_ok (by omega), mv_ok (show moV x ≠ -1 by omega), mv_ok (show dV x ≠ -1 by omega)] at isd
    rw [mv_ok (by omega)] at y mo dd
    have nf := X6_numberFor_v hN c 0 0
    have dr := daV_rng c
    rw [show 1440 * (dYr (yV x) + cum (yV x) (moV x) + dV x - 1) + 60 * 0 + 0 = 1440 * daV x by unfold daV; omega] at nf
    have pw := X6_partOf_v hN (x := 1440 * daV x) (w := 5) (by omega) (by omega) (by omega) (by omega)
    rw [show partS (1440 * daV x) 5 = (daV x + 5) % 7 + 1 by
      show (1440 * daV x / 1440 + 5) % 7 + 1 = _
      rw [show 1440 * daV x / 1440 = daV x by omega]] at pw
    have e1440 : 1440 * daV x / 1440 = daV x := by omega
    by_cases w : wV x = (daV x + 5) % 7 + 1
    · rw [if_pos ⟨c, w⟩]
      simp (maxSteps := 400000) (disch := omega) only [zI_lit, zI_neg, zI_add, zI_sub, zI_mul, zI_div, zI_tn, zI_toL, zL_lit, zL_neg, zL_add, zL_sub, zL_mul, zL_div, zL_toI, zI_ltT, zI_ltF, zI_leT, zI_leF, zI_eqT, zI_eqF, zL_ltT, zL_ltF, zL_leT, zL_leF, zL_eqT, zL_eqF, nleT, nleF, or_self, or_false, false_or, true_or, or_true, not_true_eq_false, not_false_eq_true, ↓reduceIte, Option.bind_some, Bool.false_eq_true, decide_true, decide_false, y, mo, dd, isd, nf, wv, pw, e1440]
    · rw [if_neg (fun z => w z.2)]
      simp (maxSteps := 400000) (disch := omega) only [zI_lit, zI_neg, zI_add, zI_sub, zI_mul, zI_div, zI_tn, zI_toL, zL_lit, zL_neg, zL_add, zL_sub, zL_mul, zL_div, zL_toI, zI_ltT, zI_ltF, zI_leT, zI_leF, zI_eqT, zI_eqF, zL_ltT, zL_ltF, zL_leT, zL_leF, zL_eqT, zL_eqF, nleT, nleF, or_self, or_false, false_or, true_or, or_true, not_true_eq_false, not_false_eq_true, ↓reduceIte, Option.bind_some, Bool.false_eq_true, decide_true, decide_false, y, mo, dd, isd, nf, wv, pw, e1440]
  · rw [decide_eq_false c] at isd
    rw [if_neg (fun z => c z.1)]
    simp (maxSteps := 400000) (disch := omega) only [zI_lit, zI_neg, zI_add, zI_sub, zI_mul, zI_div, zI_tn, zI_toL, zL_lit, zL_neg, zL_add, zL_sub, zL_mul, zL_div, zL_toI, zI_ltT, zI_ltF, zI_leT, zI_leF, zI_eqT, zI_eqF, zL_ltT, zL_ltF, zL_leT, zL_leF, zL_eqT, zL_eqF, nleT, nleF, or_self, or_false, false_or, true_or, or_true, not_true_eq_false, not_false_eq_true, ↓reduceIte, Option.bind_some, Bool.false_eq_true, decide_true, decide_false, y, mo, dd, isd]
theorem X6_blockOf_v {N : Nat} (hN : 700 ≤ N) {b k : Nat} (hb : b < 3) (hk : k < 8) (mo : Ob) : f_X6_blockOf N (zI k) (zI b) mo = some (zI (blkV (mo.2.2.2 0 (16 + 2 * k)) (mo.2.2.2 0 (17 + 2 * k)) b)) := by
  obtain ⟨i1, i2, i3, i4, i5⟩ := frm_ix N (k := k) hk
  obtain ⟨s0, s1, s2⟩ := X6_span_v hN
  have e := f_X6_blockOf.eq_1 N (zI (k : Int)) (zI (b : Int)) mo
  rw [ifF i2] at e
  generalize ho : mo.2.2.2 0 (16 + 2 * k) = o
  generalize hd : mo.2.2.2 0 (17 + 2 * k) = d
  obtain ⟨r1, r2, r3, r4, r5, r6⟩ := V_rng o
  rcases (show b = 0 ∨ b = 1 ∨ b = 2 by omega) with rfl | rfl | rfl
  · have f1 : f_X6_firstOf N (zI ((0 : Nat) : Int)) = some 21 := rfl
    have f2 : f_X6_lastOf N (zI ((0 : Nat) : Int)) = some 28 := rfl
    have od : f_X6_isOdd N o 21 28 = some (oddB o 21 8) := X6_isOdd_v hN o (a := 21) (b := 28) (by omega) (by omega) (by omega)
    have mi : f_X6_valueOf N o 21 3 = some (zI (mv (miV o))) := X6_valueOf_v N o (s := zI 21) (s4 := zI 25) (w := zI 3) (m := 7) (by omega) (by decide +kernel) (by decide +kernel)
    rw [f1, f2, Option.bind_some, Option.bind_some, s0, Option.bind_some, ifF i3, i4, i5, ho, hd, Option.bind_some, Option.bind_some, od, Option.bind_some, mi, Option.bind_some] at e
    rw [e]
    unfold blkV
    by_cases g : d &&& mskB 0 = 0
    · rw [if_pos g, if_pos g, show bS ((0 : Nat) : Int) = 21 from rfl, show bN ((0 : Nat) : Int) = 8 from rfl]
      cases oddB o 21 8
      · rw [ifb0, ifb0, if_neg (show ¬ zI ((0 : Nat) : Int) = 2 by decide), if_pos (show zI ((0 : Nat) : Int) = 0 from rfl), if_pos (show (0 : Nat) = 0 from rfl)]
        unfold mv
        by_cases q : miV o = -1
        · rw [if_pos q, q]
          rfl
        · rw [if_neg q]
          by_cases q2 : miV o ≤ 59
          · rw [if_pos q2, if_pos (show zI (miV o) ≤ 59 by rw [zI_lit, zI_le (by omega) (by omega) (by omega) (by omega)]; exact q2)]
            rfl
          · rw [if_neg q2, if_neg (show ¬ zI (miV o) ≤ 59 by rw [zI_lit, zI_le (by omega) (by omega) (by omega) (by omega)]; exact q2)]
            rfl
      · rw [ifb1, ifb1]
        rfl
    · rw [if_neg g, if_neg g]
      rfl
  · have f1 : f_X6_firstOf N (zI ((1 : Nat) : Int)) = some 29 := rfl
    have f2 : f_X6_lastOf N (zI ((1 : Nat) : Int)) = some 35 := rfl
    have od : f_X6_isOdd N o 29 35 = some (oddB o 29 7) := X6_isOdd_v hN o (a := 29) (b := 35) (by omega) (by omega) (by omega)
    have hh : f_X6_valueOf N o 29 2 = some (zI (mv (hV o))) := X6_valueOf_v N o (s := zI 29) (s4 := zI 33) (w := zI 2) (m := 3) (by omega) (by decide +kernel) (by decide +kernel)
    rw [f1, f2, Option.bind_some, Option.bind_some, s1, Option.bind_some, ifF i3, i4, i5, ho, hd, Option.bind_some, Option.bind_some, od, Option.bind_some, hh, Option.bind_some] at e
    rw [e]
    unfold blkV
    by_cases g : d &&& mskB 1 = 0
    · rw [if_pos g, if_pos g, show bS ((1 : Nat) : Int) = 29 from rfl, show bN ((1 : Nat) : Int) = 7 from rfl]
      cases oddB o 29 7
      · rw [ifb0, ifb0, if_neg (show ¬ zI ((1 : Nat) : Int) = 2 by decide), if_neg (show ¬ zI ((1 : Nat) : Int) = 0 by decide), if_neg (show ¬ zI ((1 : Nat) : Int) = 0 by decide), if_neg (show ¬ (1 : Nat) = 0 by decide), if_pos (show (1 : Nat) = 1 from rfl)]
        unfold mv
        by_cases q : hV o = -1
        · rw [if_pos q, q]
          rfl
        · rw [if_neg q]
          by_cases q2 : hV o ≤ 23
          · rw [if_pos q2, if_pos (show zI (hV o) ≤ 23 by rw [zI_lit, zI_le (by omega) (by omega) (by omega) (by omega)]; exact q2)]
          · rw [if_neg q2, if_neg (show ¬ zI (hV o) ≤ 23 by rw [zI_lit, zI_le (by omega) (by omega) (by omega) (by omega)]; exact q2)]
            rfl
      · rw [ifb1, ifb1]
        rfl
    · rw [if_neg g, if_neg g]
      rfl
  · have f1 : f_X6_firstOf N (zI ((2 : Nat) : Int)) = some 36 := rfl
    have f2 : f_X6_lastOf N (zI ((2 : Nat) : Int)) = some 58 := rfl
    have od : f_X6_isOdd N o 36 58 = some (oddB o 36 23) := X6_isOdd_v hN o (a := 36) (b := 58) (by omega) (by omega) (by omega)
    rw [f1, f2, Option.bind_some, Option.bind_some, s2, Option.bind_some, ifF i3, i4, i5, ho, hd, Option.bind_some, Option.bind_some, od, Option.bind_some, X6_daysBy_v hN, Option.bind_some] at e
    rw [e]
    unfold blkV
    by_cases g : d &&& mskB 2 = 0
    · rw [if_pos g, if_pos g, show bS ((2 : Nat) : Int) = 36 from rfl, show bN ((2 : Nat) : Int) = 23 from rfl]
      cases oddB o 36 23
      · rw [ifb0, ifb0, if_pos (show zI ((2 : Nat) : Int) = 2 from rfl), if_neg (show ¬ (2 : Nat) = 0 by decide), if_neg (show ¬ (2 : Nat) = 1 by decide)]
      · rw [ifb1, ifb1]
        rfl
    · rw [if_neg g, if_neg g]
      rfl
theorem st_block {N : Nat} (hN : 700 ≤ N) : S_block Rel N := by
  intro u0 u1 u2 u3 mo h x w
  obtain ⟨x, x1, x2, rfl⟩ := zI_get x
  obtain ⟨w, w1, w2, rfl⟩ := zI_get w
  obtain ⟨st, pos, mark, bef, ign, len, F, told, votd, X, xm, xt, hS, hK, hC, ⟨⟨f1, f2, f3⟩, f4, f5⟩, hT, hX, hI⟩ := id h.1
  have f1 : (u2 0).1 11 = zI F := f1
  have e5 := f_X5_block.eq_1 N (zI x) (zI w) u0 u1 u2 u3
  have e6 := f_X6_block.eq_1 N (zI x) (zI w) mo
  rw [hasFrame_v N f1 f2 x1 x2, Option.bind_some] at e5
  rw [isFrame_v N f5 f2 x1 x2, Option.bind_some] at e6
  have c1 : (zI w < 0) = (w < 0) := by rw [zI_lit, zI_lt (by omega) (by omega) (by omega) (by omega)]
  have c2 : (zI w < 3) = (w < 3) := by rw [zI_lit, zI_lt (by omega) (by omega) (by omega) (by omega)]
  by_cases g : 0 ≤ x ∧ x < F
  · rw [decide_eq_true g, if_pos rfl] at e5 e6
    obtain ⟨k, rfl⟩ : ∃ k : Nat, x = k := ⟨x.toNat, by omega⟩
    obtain ⟨i1, i2, i3, i4, i5⟩ := frm_ix N (k := k) (by omega)
    obtain ⟨g1, g2, g3⟩ := f3 k (by omega)
    have g1 : (u2 0).2.2.2 8 k = mo.2.2.2 0 (16 + 2 * k) := g1
    have g2 : (u2 0).2.2.2 9 k = mo.2.2.2 0 (17 + 2 * k) := g2
    rw [ifF i1, ifF i1, zI_tnN (by omega), g1, g2] at e5
    rw [zI_toL w1 w2] at e6
    by_cases gw : 0 ≤ w ∧ w ≤ 2
    · have j := isIn_T N (a := w) (b := 0) (c := 2) (by omega) (by omega) (by omega) gw
      rw [show (0 : Int64) = zL 0 from rfl, show (2 : Int64) = zL 2 from rfl, j, Option.bind_some, if_pos rfl] at e6
      rw [ifN c1 (by omega), ifP c2 (by omega)] at e5
      obtain ⟨s, rfl⟩ : ∃ s : Nat, w = s := ⟨w.toNat, by omega⟩
      rw [X2_blockValue_v N _ _ (by omega)] at e5
      rw [X6_blockOf_v hN (by omega) (by omega) (oi mo 7 0)] at e6
      exact S_r h _ e5 e6
    · have j := isIn_F N (a := w) (b := 0) (c := 2) (by omega) (by omega) (by omega) gw
      rw [show (0 : Int64) = zL 0 from rfl, show (2 : Int64) = zL 2 from rfl, j, Option.bind_some, if_neg (by decide)] at e6
      by_cases g3 : w < 0
      · rw [ifP c1 g3] at e5
        exact S_e h e5 e6 (okX2 (by decide) 0)
      · rw [ifN c1 g3, ifN c2 (by omega)] at e5
        exact S_e h e5 e6 (okX2 (by decide) 0)
  · rw [decide_eq_false g, if_neg (by decide)] at e5 e6
    exact S_e h e5 e6 (okX1 2 1 0)
