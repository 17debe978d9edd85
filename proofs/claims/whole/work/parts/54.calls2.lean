/-! frame, frameBit, votes, favourite, block -/
theorem S_rs {α : Type} {u0 u1 : Ob} {u2 u3 u3' : Nat → Ob} {mo v : Ob} (h : Rel (u0, u1, u2, u3) mo) {f5 : Option ((Nat ⊕ α) × Ob × Ob × (Nat → Ob) × (Nat → Ob))} {f6 : Option (α × Ob)} {k1 k2 : Nat} (r : α) (h5 : f5 = some (.inr r, u0, u1, u2, u3')) (h6 : f6 = some (r, v)) (hs : Sc (oi mo 7 0) v) :
    ∃ q b m9, f5 = some q ∧ f6 = some (b, m9) ∧ okX k1 k2 q.1 b (m9.1 7) ∧ Rel q.2 m9 := ⟨_, r, _, h5, h6, ⟨(hs.1 7 (by decide)).trans (oi_s mo 7 0), rfl⟩, Rel_sc (Rel_7 h 0) hs⟩
theorem hasFrame_v (N : Nat) {u : Ob} {F : Nat} {x : Int} (h : u.1 11 = zI F) (F8 : F ≤ 8) (x1 : -2147483648 ≤ x) (x2 : x < 2147483648) : f_X4_hasFrame N (zI x) u = some (decide (0 ≤ x ∧ x < F)) := by
  rw [f_X4_hasFrame, h]
  by_cases g1 : x < 0
  · rw [decide_eq_false (by omega)]
    simp (maxSteps := 400000) (disch := omega) only [zI_lit, zI_neg, zI_add, zI_sub, zI_mul, zI_div, zI_tn, zI_toL, zL_lit, zL_neg, zL_add, zL_sub, zL_mul, zL_div, zL_toI, zI_ltT, zI_ltF, zI_leT, zI_leF, zI_eqT, zI_eqF, zL_ltT, zL_ltF, zL_leT, zL_leF, zL_eqT, zL_eqF, nleT, nleF, or_self, or_false, false_or, true_or, or_true, not_true_eq_false, not_false_eq_true, ↓reduceIte, Option.bind_some, Bool.false_eq_true, decide_true, decide_false]
  · by_cases g2 : (F : Int) ≤ x
    · rw [decide_eq_false (by omega)]
      simp (maxSteps := 400000) (disch := omega) only [zI_lit, zI_neg, zI_add, zI_sub, zI_mul, zI_div, zI_tn, zI_toL, zL_lit, zL_neg, zL_add, zL_sub, zL_mul, zL_div, zL_toI, zI_ltT, zI_ltF, zI_leT, zI_leF, zI_eqT, zI_eqF, zL_ltT, zL_ltF, zL_leT, zL_leF, zL_eqT, zL_eqF, nleT, nleF, or_self, or_false, false_or, true_or, or_true, not_true_eq_false, not_false_eq_true, ↓reduceIte, Option.bind_some, Bool.false_eq_true, decide_true, decide_false]
    · rw [decide_eq_true (by omega)]
      simp (maxSteps := 400000) (disch := omega) only [zI_lit, zI_neg, zI_add, zI_sub, zI_mul, zI_div, zI_tn, zI_toL, zL_lit, zL_neg, zL_add, zL_sub, zL_mul, zL_div, zL_toI, zI_ltT, zI_ltF, zI_leT, zI_leF, zI_eqT, zI_eqF, zL_ltT, zL_ltF, zL_leT, zL_leF, zL_eqT, zL_eqF, nleT, nleF, or_self, or_false, false_or, true_or, or_true, not_true_eq_false, not_false_eq_true, ↓reduceIte, Option.bind_some, Bool.false_eq_true, decide_true, decide_false]
theorem isFrame_v (N : Nat) {mo : Ob} {F : Nat} {x : Int} (h : mo.2.2.2 0 12 = zL F) (F8 : F ≤ 8) (x1 : -2147483648 ≤ x) (x2 : x < 2147483648) : f_X6_isFrame N (zI x) mo = some (decide (0 ≤ x ∧ x < F)) := by
  have z : zL (F : Int) - 1 = zL ((F : Int) - 1) := by rw [zL_lit, zL_sub]
  rw [f_X6_isFrame, zI_toL x1 x2, show (12 : Int32).toNatClampNeg = 12 from rfl, h, z, show (0 : Int64) = zL 0 from rfl, X6_isIn_v N (by omega) (by omega) (by omega), Option.bind_some]
  congr 1
  exact decide_eq_decide.mpr (by omega)
/-- what both read of a frame -/
theorem frm_ix (N : Nat) {k : Nat} (hk : k < 8) : ((zI (k : Int) < 0 ∨ 8 ≤ (zI (k : Int)).toNatClampNeg) = False) ∧ ((((16 : Int32) + 2 * zI (k : Int)) < 0 ∨ 48 ≤ ((16 : Int32) + 2 * zI (k : Int)).toNatClampNeg) = False) ∧ ((((16 : Int32) + 2 * zI (k : Int) + 1) < 0 ∨ 48 ≤ ((16 : Int32) + 2 * zI (k : Int) + 1).toNatClampNeg) = False) ∧ ((16 : Int32) + 2 * zI (k : Int)).toNatClampNeg = 16 + 2 * k ∧ ((16 : Int32) + 2 * zI (k : Int) + 1).toNatClampNeg = 17 + 2 * k := by
  have z1 : (16 : Int32) + 2 * zI (k : Int) = zI ((16 + 2 * k : Nat) : Int) := by simp (maxSteps := 400000) (disch := omega) only [zI_lit, zI_neg, zI_add, zI_sub, zI_mul, zI_div, zI_tn, zI_toL, zL_lit, zL_neg, zL_add, zL_sub, zL_mul, zL_div, zL_toI, zI_lt, zI_le, zI_eq, zL_lt, zL_le, zL_eq]; rfl
  have z2 : (16 : Int32) + 2 * zI (k : Int) + 1 = zI ((17 + 2 * k : Nat) : Int) := by
    rw [z1]
    simp (maxSteps := 400000) (disch := omega) only [zI_lit, zI_neg, zI_add, zI_sub, zI_mul, zI_div, zI_tn, zI_toL, zL_lit, zL_neg, zL_add, zL_sub, zL_mul, zL_div, zL_toI, zI_lt, zI_le, zI_eq, zL_lt, zL_le, zL_eq]
    congr 1
    omega
  rw [z2, z1, zI_tnN (by omega), zI_tnN (by omega), zI_tnN (by omega)]
  refine ⟨?_, ?_, ?_, rfl, rfl⟩ <;> simp (maxSteps := 400000) (disch := omega) only [zI_lit, zI_neg, zI_add, zI_sub, zI_mul, zI_div, zI_tn, zI_toL, zL_lit, zL_neg, zL_add, zL_sub, zL_mul, zL_div, zL_toI, zI_ltT, zI_ltF, zI_leT, zI_leF, zI_eqT, zI_eqF, zL_ltT, zL_ltF, zL_leT, zL_leF, zL_eqT, zL_eqF, nleT, nleF, or_self, or_false, false_or, true_or, or_true, not_true_eq_false, not_false_eq_true, ↓reduceIte, Option.bind_some, Bool.false_eq_true, decide_true, decide_false]
theorem st_frame {N : Nat} (hN : 700 ≤ N) : S_frame Rel N := by
  intro u0 u1 u2 u3 mo h x w
  obtain ⟨x, x1, x2, rfl⟩ := zI_get x
  obtain ⟨w, w1, w2, rfl⟩ := zI_get w
  obtain ⟨st, pos, mark, bef, ign, len, F, told, votd, X, xm, xt, hS, hK, hC, ⟨hFr, f4, f5⟩, hT, hX, hI⟩ := id h.1
  have hFr : FrC (u2 0) (mo.2.2.2 0) F := hFr
  obtain ⟨f1, f2, f3⟩ := id hFr
  have so := hS.1
  unfold stOk at so
  have s3 := hS.2 3 (by omega)
  have s3 : (u2 0).2.2.1 0 3 = zI (st 3) ∧ mo.2.2.2 0 3 = zL (st 3) := s3
  have e5 := f_X5_frame.eq_1 N (zI x) (zI w) u0 u1 u2 u3
  have e6 := f_X6_frame.eq_1 N (zI x) (zI w) mo
  rw [hasFrame_v N f1 f2 x1 x2, Option.bind_some] at e5
  rw [isFrame_v N f5 f2 x1 x2, Option.bind_some] at e6
  by_cases g : 0 ≤ x ∧ x < F
  · rw [decide_eq_true g, if_pos rfl] at e5 e6
    obtain ⟨k, rfl⟩ : ∃ k : Nat, x = k := ⟨x.toNat, by omega⟩
    obtain ⟨i1, i2, i3, i4, i5⟩ := frm_ix N (k := k) (by omega)
    obtain ⟨g1, g2, g3⟩ := f3 k (by omega)
    rw [ifF i1, ifF i1, zI_tnN (by omega), g1, g2] at e5
    rw [ifF i2, ifF i3, i4, i5, zI_toL w1 w2] at e6
    by_cases gw : 0 ≤ w ∧ w ≤ 3
    · have j := isIn_T N (a := w) (b := 0) (c := 3) (by omega) (by omega) (by omega) gw
      rw [show (0 : Int64) = zL 0 from rfl, show (3 : Int64) = zL 3 from rfl, j, Option.bind_some, if_pos rfl] at e6
      rcases (show w = 0 ∨ w = 1 ∨ w = 2 ∨ w = 3 by omega) with rfl | rfl | rfl | rfl
      · rw [if_pos (show zI 0 = 0 from rfl)] at e5 e6
        have hb : f_J13_bitCount_95d88 N (mo.2.2.2 0 (17 + 2 * k) &&& 576460752302899201) = some (zI (cb (gM (mo.2.2.2 0 (17 + 2 * k))) 0 59)) := by rw [← gM_cb]; exact bitCount_v N _
        have hb6 : f_X6_bits N (mo.2.2.2 0 (17 + 2 * k) &&& 576460752302899201) 0 58 = some (zI (cb (gM (mo.2.2.2 0 (17 + 2 * k))) 0 59)) := X6_bits_v hN (gM (mo.2.2.2 0 (17 + 2 * k))) (a := 0) (b := 58) (by omega) (by omega) (by omega)
        rw [hb] at e5
        rw [hb6] at e6
        exact S_r h _ e5 e6
      · rw [if_neg (show ¬ zI 1 = 0 by decide), if_pos (show zI 1 = 1 from rfl)] at e5 e6
        obtain ⟨v, v1, v2, v3, v4⟩ := X6_faultOf_v hN (mo.2.2.2 0 (16 + 2 * k)) (mo.2.2.2 0 (17 + 2 * k)) (oi mo 7 0)
        rw [X2_faultOf_v hN] at e5
        rw [v1] at e6
        exact S_rs h _ e5 e6 v2
      · rw [if_neg (show ¬ zI 2 = 0 by decide), if_neg (show ¬ zI 2 = 1 by decide), if_pos (show zI 2 = 2 from rfl)] at e5 e6
        obtain ⟨v, v1, v2, v3⟩ := X6_tells_v hN (k := (k : Int)) (m := st 3) (by omega) (by omega) (oi mo 7 0) s3.2 (by omega) (by omega)
        rw [X4_told_v N hFr s3.1 (by omega) (by omega) (by omega)] at e5
        rw [v1] at e6
        exact S_rs h _ e5 e6 v2
      · rw [if_neg (show ¬ zI 3 = 0 by decide), if_neg (show ¬ zI 3 = 1 by decide), if_neg (show ¬ zI 3 = 2 by decide)] at e5 e6
        rw [if_pos (show zI 3 = 3 from rfl)] at e5
        obtain ⟨b1, b2⟩ := bitOf_v N (mo.2.2.2 0 (16 + 2 * k)) (mo.2.2.2 0 (17 + 2 * k)) (s := 19) (by omega)
        rw [show (19 : Int32) = zI ((19 : Nat) : Int) from rfl] at e5 e6
        rw [b1] at e5
        rw [b2] at e6
        exact S_r h _ e5 e6
    · have j := isIn_F N (a := w) (b := 0) (c := 3) (by omega) (by omega) (by omega) gw
      rw [show (0 : Int64) = zL 0 from rfl, show (3 : Int64) = zL 3 from rfl, j, Option.bind_some, if_neg (by decide)] at e6
      rw [if_neg (show ¬ zI w = 0 by rw [zI_lit, zI_eq (by omega) (by omega) (by omega) (by omega)]; omega), if_neg (show ¬ zI w = 1 by rw [zI_lit, zI_eq (by omega) (by omega) (by omega) (by omega)]; omega), if_neg (show ¬ zI w = 2 by rw [zI_lit, zI_eq (by omega) (by omega) (by omega) (by omega)]; omega), if_neg (show ¬ zI w = 3 by rw [zI_lit, zI_eq (by omega) (by omega) (by omega) (by omega)]; omega)] at e5
      exact S_e h e5 e6 (okX2 (by decide) 0)
  · rw [decide_eq_false g, if_neg (by decide)] at e5 e6
    exact S_e h e5 e6 (okX1 2 1 0)
theorem st_frameBit (N : Nat) : S_frameBit Rel N := by
  intro u0 u1 u2 u3 mo h x w
  obtain ⟨x, x1, x2, rfl⟩ := zI_get x
  obtain ⟨w, w1, w2, rfl⟩ := zI_get w
  obtain ⟨st, pos, mark, bef, ign, len, F, told, votd, X, xm, xt, hS, hK, hC, ⟨⟨f1, f2, f3⟩, f4, f5⟩, hT, hX, hI⟩ := id h.1
  have f1 : (u2 0).1 11 = zI F := f1
  have e5 := f_X5_frameBit.eq_1 N (zI x) (zI w) u0 u1 u2 u3
  have e6 := f_X6_frameBit.eq_1 N (zI x) (zI w) mo
  rw [hasFrame_v N f1 f2 x1 x2, Option.bind_some] at e5
  rw [isFrame_v N f5 f2 x1 x2, Option.bind_some] at e6
  have c1 : (zI w < 0) = (w < 0) := by rw [zI_lit, zI_lt (by omega) (by omega) (by omega) (by omega)]
  have c2 : (zI w ≤ 58) = (w ≤ 58) := by rw [zI_lit, zI_le (by omega) (by omega) (by omega) (by omega)]
  by_cases g : 0 ≤ x ∧ x < F
  · rw [decide_eq_true g, if_pos rfl] at e5 e6
    obtain ⟨k, rfl⟩ : ∃ k : Nat, x = k := ⟨x.toNat, by omega⟩
    obtain ⟨i1, i2, i3, i4, i5⟩ := frm_ix N (k := k) (by omega)
    obtain ⟨g1, g2, g3⟩ := f3 k (by omega)
    have g1 : (u2 0).2.2.2 8 k = mo.2.2.2 0 (16 + 2 * k) := g1
    have g2 : (u2 0).2.2.2 9 k = mo.2.2.2 0 (17 + 2 * k) := g2
    rw [ifF i1, ifF i1, zI_tnN (by omega), g1, g2] at e5
    rw [ifF i2, ifF i3, i4, i5, zI_toL w1 w2] at e6
    by_cases gw : 0 ≤ w ∧ w ≤ 58
    · have j := isIn_T N (a := w) (b := 0) (c := 58) (by omega) (by omega) (by omega) gw
      rw [show (0 : Int64) = zL 0 from rfl, show (58 : Int64) = zL 58 from rfl, j, Option.bind_some, if_pos rfl] at e6
      rw [ifN c1 (by omega), ifP c2 gw.2] at e5
      obtain ⟨s, rfl⟩ : ∃ s : Nat, w = s := ⟨w.toNat, by omega⟩
      obtain ⟨b1, b2⟩ := bitOf_v N (mo.2.2.2 0 (16 + 2 * k)) (mo.2.2.2 0 (17 + 2 * k)) (s := s) (by omega)
      rw [b1] at e5
      rw [b2] at e6
      exact S_r h _ e5 e6
    · have j := isIn_F N (a := w) (b := 0) (c := 58) (by omega) (by omega) (by omega) gw
      rw [show (0 : Int64) = zL 0 from rfl, show (58 : Int64) = zL 58 from rfl, j, Option.bind_some, if_neg (by decide)] at e6
      by_cases g3 : w < 0
      · rw [ifP c1 g3] at e5
        exact S_e h e5 e6 (okX1 2 2 0)
      · rw [ifN c1 g3, ifN c2 (by omega)] at e5
        exact S_e h e5 e6 (okX1 2 2 0)
  · rw [decide_eq_false g, if_neg (by decide)] at e5 e6
    exact S_e h e5 e6 (okX1 2 2 0)
theorem RR_va {u : Ob} {a : Nat → Int64} (h : RR u a) : ∃ (F q : Nat) (m : Int), VA a F q m ∧ FrC u a F ∧ u.2.2.1 0 3 = zI m ∧ u.2.2.1 0 1 = zI q := by
  obtain ⟨st, pos, mark, bef, ign, len, F, told, votd, X, xm, xt, hS, hK, hC, ⟨hFr, f4, f5⟩, hT, hX, hI⟩ := h
  have so := hS.1
  unfold stOk at so
  have s1 := hS.2 1 (by omega)
  have s3 := hS.2 3 (by omega)
  obtain ⟨Q, hQ⟩ : ∃ Q : Nat, st 1 = Q := ⟨(st 1).toNat, by omega⟩
  rw [hQ] at s1
  exact ⟨F, Q, st 3, ⟨f5, hFr.2.1, s1.2, by omega, by omega, s3.2, by omega, by omega⟩, hFr, s3.1, s1.1⟩
theorem st_votes {N : Nat} (hN : 700 ≤ N) : S_votes Rel N := by
  intro u0 u1 u2 u3 mo h x
  obtain ⟨x, x1, x2, rfl⟩ := zI_get x
  obtain ⟨F, q, m, hV, hF, hm, hq⟩ := RR_va h.1
  obtain ⟨b', T, c1, c2⟩ := X4_castVotes_v hN hF hm hV.2.2.2.2.2.2.1 hV.2.2.2.2.2.2.2 (u3 0)
  have c1 : f_X4_castVotes N (u2 0) (u3 0) = some (u2 0, b') := c1
  obtain ⟨v, v1, v2, v3⟩ := X6_votesNow_v hN hV (x := x) x1 x2 (oi mo 7 0) rfl
  refine ⟨(zI (cnV (voW (mo.2.2.2 0) m) F x), u0, u1, u2, va_up u3 0 b'), _, v, ?_, ?_, rfl, Rel_sc (Rel_7 h 0) v2⟩
  · rw [f_X5_votes, c1, Option.bind_some, X0_votesFor_v hN c2 x1 x2, Option.bind_some, va_up_id]
  · rw [f_X6_votes, v1]
    rfl
theorem st_favourite {N : Nat} (hN : 700 ≤ N) : S_favourite Rel N := by
  intro u0 u1 u2 u3 mo h
  obtain ⟨F, q, m, hV, hF, hm, hq⟩ := RR_va h.1
  obtain ⟨b', T, c1, c2⟩ := X4_castVotes_v hN hF hm hV.2.2.2.2.2.2.1 hV.2.2.2.2.2.2.2 (u3 0)
  have c1 : f_X4_castVotes N (u2 0) (u3 0) = some (u2 0, b') := c1
  have F8 := hV.2.1
  obtain ⟨v, v1, v2⟩ := X6_favourite_l hN hV F 0 N (-1) mo rfl (by omega) (by omega) (Or.inl ⟨rfl, fun i hi => by omega⟩)
  have v1 : f_X6_favourite N mo = _ := v1
  have hl : -1 ≤ leadN (cnV (voW (mo.2.2.2 0) m) F) ∧ leadN (cnV (voW (mo.2.2.2 0) m) F) < 60000000 := by
    obtain ⟨t1, t2, c, t3, t4⟩ := c2
    rw [t4]
    rcases leadN_spec (fun i hi => (t3 i hi).2) with ⟨s1, s2⟩ | ⟨s1, s2, s3, s4⟩
    · rw [s2]; omega
    · omega
  have e5 : f_X5_favourite N u0 u1 u2 u3 = (if zI (leadN (cnV (voW (mo.2.2.2 0) m) F)) = -1 then some (.inl 3, u0, u1, u2, va_up u3 0 b') else some (.inr (zI (leadN (cnV (voW (mo.2.2.2 0) m) F))), (u0, (u1, (u2, va_up u3 0 b'))))) := by
    rw [f_X5_favourite, c1, Option.bind_some, X0_leader_v hN c2, Option.bind_some, va_up_id]
  by_cases g : leadN (cnV (voW (mo.2.2.2 0) m) F) = -1
  · rw [ifP (zI_m1 (by omega) (by omega)) g] at e5
    rw [if_pos g, if_pos g] at v1
    exact ⟨_, _, _, e5, v1, Or.inl ⟨rfl, oi_s v 7 1⟩, Rel_sc (u3 := u3) h v2 |> fun r => Rel_7 r 1⟩
  · rw [ifN (zI_m1 (by omega) (by omega)) g] at e5
    rw [if_neg g, if_neg g] at v1
    exact ⟨_, _, _, e5, v1, ⟨oi_s v 7 0, rfl⟩, Rel_sc (u3 := u3) h v2 |> fun r => Rel_7 r 0⟩
/-- a block's value, by both -/
def mskB (b : Nat) : Int64 := if b = 0 then 534773760 else if b = 1 then 68182605824 else 576460683583946752
def blkV (o d : Int64) (b : Nat) : Int := if d &&& mskB b = 0 then (if oddB o (bS b) (bN b) = true then -1 else if b = 0 then (if miV o ≤ 59 then miV o else -1) else if b = 1 then (if hV o ≤ 23 then hV o else -1) else if okV o ∧ wV o = (daV o + 5) % 7 + 1 then daV o else -1) else -1
theorem blkV_rng (o d : Int64) (b : Nat) : -1 ≤ blkV o d b ∧ blkV o d b < 36525 := by
  obtain ⟨r1, r2, r3, r4, r5, r6⟩ := V_rng o
  unfold blkV
  by_cases k : okV o
  · have := daV_rng k
    grind (splits := 20)
  · grind (splits := 20)
theorem X2_blockValue_v (N : Nat) (o d : Int64) {b : Nat} (hb : b < 3) : f_X2_blockValue N o d (zI b) = some (zI (blkV o d b)) := by
  have h0 := aEn_v N
  have hm : f_X2_maskOf N (zI (b : Int)) = some (mskB b) := by
    rcases (show b = 0 ∨ b = 1 ∨ b = 2 by omega) with rfl | rfl | rfl
    · exact h0.1
    · exact h0.2.1
    · exact h0.2.2
  have ho := X2_isOdd_v N o (b := (b : Int)) (by omega)
  have hmi := X2_minuteIn_v N o
  have hh := X2_hourIn_v N o
  have hd := X2_dayIn_v N o
  rw [f_X2_blockValue, hm, Option.bind_some]
  unfold blkV
  by_cases g : d &&& mskB b = 0
  · rw [if_pos g, if_pos g, ho, Option.bind_some]
    cases oddB o (bS b) (bN b)
    · rw [ifb0, ifb0]
      rcases (show b = 0 ∨ b = 1 ∨ b = 2 by omega) with rfl | rfl | rfl
      · rw [if_pos (show zI ((0 : Nat) : Int) = 0 from rfl), hmi, if_pos rfl]
        rfl
      · rw [if_neg (show ¬ zI ((1 : Nat) : Int) = 0 by decide), if_pos (show zI ((1 : Nat) : Int) = 1 from rfl), hh, if_neg (show ¬ ((1 : Nat) = 0) by decide), if_pos (show (1 : Nat) = 1 from rfl)]
        rfl
      · rw [if_neg (show ¬ zI ((2 : Nat) : Int) = 0 by decide), if_neg (show ¬ zI ((2 : Nat) : Int) = 1 by decide), hd, Option.bind_some, if_neg (show ¬ (2 = 0) by decide), if_neg (show ¬ (2 = 1) by decide)]
        by_cases k : okV o
        · have kr := daV_rng k
          rw [if_pos k, ifN (zI_m1 (by omega) (by omega)) (by omega), X2_hasWeekdayOf_v N o kr.1 kr.2, Option.bind_some]
          by_cases w : wV o = (daV o + 5) % 7 + 1
          · rw [decide_eq_true w, ifb1, if_pos ⟨k, w⟩]
          · rw [decide_eq_false w, ifb0, if_neg (fun z => w z.2)]
            rfl
        · rw [if_neg k, if_pos (show zI (-1) = -1 from rfl), if_neg (show ¬ (okV o ∧ wV o = (daV o + 5) % 7 + 1) from fun z => k z.1)]
          rfl
    · rw [ifb1, ifb1]
      rfl
  · rw [if_neg g, if_neg g]
    rfl
theorem X6_span_l (N : Nat) (x0 : Int32) {e : Nat} (he : e < 62) : ∀ (j s n : Nat) (x : Int64), s + j = e + 1 → j < n → ∃ y, l_X6_span_5 N x0 (zI e) n x (zI s) = some y ∧ ∀ i, i < 64 → lb y i = (lb x i || decide (s ≤ i ∧ i ≤ e)) := by
  intro j
  induction j with
  | zero =>
    intro s n x hs hn
    obtain ⟨n, rfl⟩ : ∃ k, n = k + 1 := ⟨n - 1, by omega⟩
    refine ⟨x, ?_, fun i hi => ?_⟩
    · rw [l_X6_span_5, if_pos (show zI (e : Int) < zI (s : Int) by rw [zI_lt (by omega) (by omega) (by omega) (by omega)]; omega)]
    · rw [decide_eq_false (by omega), Bool.or_false]
  | succ j ih =>
    intro s n x hs hn
    obtain ⟨n, rfl⟩ : ∃ k, n = k + 1 := ⟨n - 1, by omega⟩
    obtain ⟨y, y1, y2⟩ := ih (s + 1) n (x ||| jshl 1 (zI s)) (by omega) (by omega)
    refine ⟨y, ?_, fun i hi => ?_⟩
    · rw [l_X6_span_5, if_neg (show ¬ zI (e : Int) < zI (s : Int) by rw [zI_lt (by omega) (by omega) (by omega) (by omega)]; omega), zI_suc]
      exact y1
    · rw [y2 i hi, lb_or, lb_one (by omega), Bool.or_assoc, ← Bool.decide_or]
      congr 1
      exact decide_eq_decide.mpr (by omega)
theorem X6_span_v {N : Nat} (hN : 700 ≤ N) : f_X6_span N 21 28 = some (mskB 0) ∧ f_X6_span N 29 35 = some (mskB 1) ∧ f_X6_span N 36 58 = some (mskB 2) := by
  have key : ∀ (s e b n : Nat), s ≤ e → e < 62 → (∀ k, k < 64 → lb (mskB b) k = decide (s ≤ k ∧ k < s + n)) → s + n = e + 1 → f_X6_span N (zI s) (zI e) = some (mskB b) := by
    intro s e b n h1 h2 h3 h4
    obtain ⟨y, y1, y2⟩ := X6_span_l N (zI s) h2 (e + 1 - s) s N 0 (by omega) (by omega)
    rw [f_X6_span]
    refine y1.trans ?_
    congr 1
    apply lb_ext
    intro i hi
    rw [y2 i hi, h3 i hi, lb_0, Bool.false_or]
    exact decide_eq_decide.mpr (by omega)
  exact ⟨key 21 28 0 8 (by decide) (by decide) msk_0 (by decide), key 29 35 1 7 (by decide) (by decide) msk_1 (by decide), key 36 58 2 23 (by decide) (by decide) msk_2 (by decide)⟩
