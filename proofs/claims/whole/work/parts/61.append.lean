/-! bytes put behind the text -/
theorem byte_v (y : Int32) : byR (vp_nar .byte y.toInt8.toInt32) (y &&& 255) := by
  have r := and_rng y (m := 255) (by omega)
  have e1 : (y &&& nI 255).toInt = y.toInt % 256 := by
    have h1 : (y &&& nI 255).toBitVec.toNat = y.toBitVec.toNat % 256 := by
      rw [Int32.toBitVec_and, BitVec.toNat_and]
      exact Nat.and_two_pow_sub_one_eq_mod _ 8
    have h3 : (y &&& nI 255).toInt = ((y &&& nI 255).toBitVec.toNat : Int) := by
      show (y &&& nI 255).toBitVec.toInt = _
      exact BitVec.toInt_eq_toNat_of_lt (by omega)
    have h4 : y.toInt = (y.toBitVec.toNat : Int) ∨ y.toInt = (y.toBitVec.toNat : Int) - 4294967296 := by
      have h5 : y.toInt = y.toBitVec.toInt := rfl
      have h6 := BitVec.toInt_eq_toNat_cond y.toBitVec
      rw [h5, h6]
      split
      · exact Or.inl rfl
      · exact Or.inr rfl
    omega
  have e2 : (y.toInt8.toInt32).toInt = y.toInt.bmod 256 := by
    rw [Int8.toInt_toInt32, Int32.toInt_toInt8]
  have e3 : vp_nar .byte y.toInt8.toInt32 = y.toInt8.toInt32 := by
    show (y.toInt8.toInt32).toInt8.toInt32 = _
    rw [Int8.toInt8_toInt32]
  refine ⟨y.toInt % 256, by omega, by omega, ?_, ?_⟩
  · rw [← e1]
    exact zI_self _
  · rw [e3, zI_self y.toInt8.toInt32, e2]
    congr 1
def AC (u1 mo u m : Ob) (n : Nat) : Prop := (u.1 1 = zI n ∧ m.1 10 = zI n ∧ ∀ k, k < n → byR (u.2.2.1 0 k) (m.2.2.1 9 k)) ∧ (∀ k, k ≠ 1 → u.1 k = u1.1 k) ∧ (∀ k, k ≠ 10 → m.1 k = mo.1 k) ∧ (∀ k, k ≠ 9 → m.2.2.1 k = mo.2.2.1 k) ∧ m.2.2.2 = mo.2.2.2
def cPut (u : Ob) (n : Nat) (b : Int32) : Ob := oi (oa u 0 (upd (u.2.2.1 0) n b)) 1 (zI ((n + 1 : Nat) : Int))
def mPut (u : Ob) (n : Nat) (b : Int32) : Ob := oi (oa u 9 (upd (u.2.2.1 9) n b)) 10 (zI ((n + 1 : Nat) : Int))
theorem AC_put {u1 mo u m : Ob} {n : Nat} (h : AC u1 mo u m n) {b c : Int32} (hb : byR b c) : AC u1 mo (cPut u n b) (mPut m n c) (n + 1) := by
  obtain ⟨⟨h1, h2, h3⟩, h4, h5, h6, h7⟩ := h
  refine ⟨⟨oi_s _ 1 _, oi_s _ 10 _, fun k hk => ?_⟩, fun k hk => ?_, fun k hk => ?_, fun k hk => ?_, h7⟩
  · show byR ((oa u 0 (upd (u.2.2.1 0) n b)).2.2.1 0 k) ((oa m 9 (upd (m.2.2.1 9) n c)).2.2.1 9 k)
    rw [oa_s, oa_s]
    unfold upd
    by_cases e : k = n
    · rw [if_pos e, if_pos e]
      exact hb
    · rw [if_neg e, if_neg e]
      exact h3 k (by omega)
  · show (oi (oa u 0 (upd (u.2.2.1 0) n b)) 1 (zI ((n + 1 : Nat) : Int))).1 k = _
    rw [oi_n _ _ hk]
    exact h4 k hk
  · show (oi (oa m 9 (upd (m.2.2.1 9) n c)) 10 (zI ((n + 1 : Nat) : Int))).1 k = _
    rw [oi_n _ _ hk]
    exact h5 k hk
  · show (oa m 9 (upd (m.2.2.1 9) n c)).2.2.1 k = _
    rw [oa_n _ _ hk]
    exact h6 k hk
theorem cPut_1 (u : Ob) (n : Nat) (b : Int32) : (cPut u n b).1 1 = zI ((n + 1 : Nat) : Int) := oi_s _ 1 _
theorem mPut_10 (u : Ob) (n : Nat) (b : Int32) : (mPut u n b).1 10 = zI ((n + 1 : Nat) : Int) := oi_s _ 10 _
theorem buf_s (N : Nat) (x : Int32) {s n : Nat} (hs : s ≤ 24) (hn : n < 600) (t : Nat) {u : Ob} (hu : u.1 1 = zI n) : l_X3_buffer_3 N x (t + 1) (zI s) u = l_X3_buffer_3 N x t (zI ((s : Int) - 8)) (cPut u n (vp_nar .byte (x >>> (zI s &&& 31)).toInt8.toInt32)) := by
  have c0 : (zI (s : Int) < 0) = False := by simp (maxSteps := 400000) (disch := omega) only [zI_lit, zI_neg, zI_add, zI_sub, zI_mul, zI_div, zI_tn, zI_toL, zL_lit, zL_neg, zL_add, zL_sub, zL_mul, zL_div, zL_toI, zI_ltT, zI_ltF, zI_leT, zI_leF, zI_eqT, zI_eqF, zL_ltT, zL_ltF, zL_leT, zL_leF, zL_eqT, zL_eqF, nleT, nleF, or_self, or_false, false_or, true_or, or_true, not_true_eq_false, not_false_eq_true, ↓reduceIte, Option.bind_some, Bool.false_eq_true, decide_true, decide_false]
  have c1 : ((600 : Int32) ≤ zI (n : Int)) = False := by simp (maxSteps := 400000) (disch := omega) only [zI_lit, zI_neg, zI_add, zI_sub, zI_mul, zI_div, zI_tn, zI_toL, zL_lit, zL_neg, zL_add, zL_sub, zL_mul, zL_div, zL_toI, zI_ltT, zI_ltF, zI_leT, zI_leF, zI_eqT, zI_eqF, zL_ltT, zL_ltF, zL_leT, zL_leF, zL_eqT, zL_eqF, nleT, nleF, or_self, or_false, false_or, true_or, or_true, not_true_eq_false, not_false_eq_true, ↓reduceIte, Option.bind_some, Bool.false_eq_true, decide_true, decide_false]
  have c2 : (zI (n : Int) < 0 ∨ 600 ≤ n) = False := by simp (maxSteps := 400000) (disch := omega) only [zI_lit, zI_neg, zI_add, zI_sub, zI_mul, zI_div, zI_tn, zI_toL, zL_lit, zL_neg, zL_add, zL_sub, zL_mul, zL_div, zL_toI, zI_ltT, zI_ltF, zI_leT, zI_leF, zI_eqT, zI_eqF, zL_ltT, zL_ltF, zL_leT, zL_leF, zL_eqT, zL_eqF, nleT, nleF, or_self, or_false, false_or, true_or, or_true, not_true_eq_false, not_false_eq_true, ↓reduceIte, Option.bind_some, Bool.false_eq_true, decide_true, decide_false]
  have z : zI (s : Int) + -8 = zI ((s : Int) - 8) := by
    simp (maxSteps := 400000) (disch := omega) only [zI_lit, zI_neg, zI_add, zI_sub, zI_mul, zI_div, zI_tn, zI_toL, zL_lit, zL_neg, zL_add, zL_sub, zL_mul, zL_div, zL_toI, zI_lt, zI_le, zI_eq, zL_lt, zL_le, zL_eq]
    congr 1
  rw [l_X3_buffer_3, ifF c0, hu, zI_tnN (by omega), ifF c1, ifF c2, z, zI_suc]
  rfl
theorem buf_e (N : Nat) (x : Int32) (t : Nat) (u : Ob) : l_X3_buffer_3 N x (t + 1) (zI (((0 : Nat) : Int) - 8)) u = some u := by
  rw [l_X3_buffer_3, if_pos (show zI (((0 : Nat) : Int) - 8) < 0 by decide)]
def wdK (x1 x2 x3 x4 x5 : Int32) (k : Nat) : Int32 := if k < 4 then x1 else if k < 8 then x2 else if k < 12 then x3 else if k < 16 then x4 else x5
theorem app_s (N : Nat) (x1 x2 x3 x4 x5 : Int32) {k n : Nat} (hk : k < 20) (hn : n < 600) (t : Nat) {u : Ob} (hu : u.1 10 = zI n) : l_X6_append_34 N x1 x2 x3 x4 x5 (t + 1) (zI k) u = l_X6_append_34 N x1 x2 x3 x4 x5 t (zI ((k + 1 : Nat) : Int)) (mPut u n ((wdK x1 x2 x3 x4 x5 k >>> (zI ((24 - 8 * (k % 4) : Nat) : Int) &&& 31)) &&& 255)) := by
  have c1 : (zI (n : Int) < 0 ∨ 600 ≤ n) = False := by simp (maxSteps := 400000) (disch := omega) only [zI_lit, zI_neg, zI_add, zI_sub, zI_mul, zI_div, zI_tn, zI_toL, zL_lit, zL_neg, zL_add, zL_sub, zL_mul, zL_div, zL_toI, zI_ltT, zI_ltF, zI_leT, zI_leF, zI_eqT, zI_eqF, zL_ltT, zL_ltF, zL_leT, zL_leF, zL_eqT, zL_eqF, nleT, nleF, or_self, or_false, false_or, true_or, or_true, not_true_eq_false, not_false_eq_true, ↓reduceIte, Option.bind_some, Bool.false_eq_true, decide_true, decide_false]
  have z : (24 : Int32) - 8 * (zI (k : Int) - zI (k : Int) / 4 * 4) = zI ((24 - 8 * (k % 4) : Nat) : Int) := by
    simp (maxSteps := 400000) (disch := omega) only [zI_lit, zI_neg, zI_add, zI_sub, zI_mul, zI_div, zI_tn, zI_toL, zL_lit, zL_neg, zL_add, zL_sub, zL_mul, zL_div, zL_toI, zI_lt, zI_le, zI_eq, zL_lt, zL_le, zL_eq]
    congr 1
    omega
  have le : ∀ b : Nat, b < 100 → (zI (b : Int) ≤ zI (k : Int)) = (b ≤ k) := fun b hb => by
    rw [zI_le (by omega) (by omega) (by omega) (by omega)]
    exact propext (by omega)
  have l20 : ((20 : Int32) ≤ zI (k : Int)) = (20 ≤ k) := le 20 (by omega)
  have l4 : ((4 : Int32) ≤ zI (k : Int)) = (4 ≤ k) := le 4 (by omega)
  have l8 : ((8 : Int32) ≤ zI (k : Int)) = (8 ≤ k) := le 8 (by omega)
  have l12 : ((12 : Int32) ≤ zI (k : Int)) = (12 ≤ k) := le 12 (by omega)
  have l16 : ((16 : Int32) ≤ zI (k : Int)) = (16 ≤ k) := le 16 (by omega)
  have e := l_X6_append_34.eq_2 N x1 x2 x3 x4 x5 (zI (k : Int)) u t
  rw [ifN l20 (by omega), hu, zI_tnN (by omega), z, zI_suc, zI_suc] at e
  unfold wdK
  by_cases g4 : 4 ≤ k
  · rw [ifP l4 g4] at e
    rw [if_neg (show ¬ k < 4 by omega)]
    by_cases g8 : 8 ≤ k
    · rw [ifP l8 g8] at e
      rw [if_neg (show ¬ k < 8 by omega)]
      by_cases g12 : 12 ≤ k
      · rw [ifP l12 g12] at e
        rw [if_neg (show ¬ k < 12 by omega)]
        by_cases g16 : 16 ≤ k
        · rw [ifP l16 g16, ifF c1] at e
          rw [if_neg (show ¬ k < 16 by omega)]
          exact e
        · rw [ifN l16 g16, ifF c1] at e
          rw [if_pos (show k < 16 by omega)]
          exact e
      · rw [ifN l12 g12, ifF c1] at e
        rw [if_pos (show k < 12 by omega)]
        exact e
    · rw [ifN l8 g8, ifF c1] at e
      rw [if_pos (show k < 8 by omega)]
      exact e
  · rw [ifN l4 g4, ifF c1] at e
    rw [if_pos (show k < 4 by omega)]
    exact e
theorem word_v {N : Nat} (hN : 700 ≤ N) (x1 x2 x3 x4 x5 : Int32) {u1 mo u m : Ob} {n j : Nat} (h : AC u1 mo u m n) (hn : n + 4 ≤ 600) (hj : j < 5) : ∃ u' m', f_X3_buffer N (wdK x1 x2 x3 x4 x5 (4 * j)) u = some u' ∧ (∀ t, l_X6_append_34 N x1 x2 x3 x4 x5 (t + 4) (zI ((4 * j : Nat) : Int)) m = l_X6_append_34 N x1 x2 x3 x4 x5 t (zI ((4 * (j + 1) : Nat) : Int)) m') ∧ AC u1 mo u' m' (n + 4) := by
  have w : ∀ i, i < 4 → wdK x1 x2 x3 x4 x5 (4 * j + i) = wdK x1 x2 x3 x4 x5 (4 * j) := by
    intro i hi
    unfold wdK
    rcases (show j = 0 ∨ j = 1 ∨ j = 2 ∨ j = 3 ∨ j = 4 by omega) with rfl | rfl | rfl | rfl | rfl <;> grind
  have sh : ∀ i, i < 4 → (4 * j + i) % 4 = i := fun i hi => by omega
  generalize hx : wdK x1 x2 x3 x4 x5 (4 * j) = x at *
  obtain ⟨t, rfl⟩ : ∃ t, N = t + 1 + 1 + 1 + 1 + 1 := ⟨N - 5, by omega⟩
  have a0 := AC_put h (byte_v (x >>> (zI ((24 : Nat) : Int) &&& 31)))
  have a1 := AC_put a0 (byte_v (x >>> (zI ((16 : Nat) : Int) &&& 31)))
  have a2 := AC_put a1 (byte_v (x >>> (zI ((8 : Nat) : Int) &&& 31)))
  have a3 := AC_put a2 (byte_v (x >>> (zI ((0 : Nat) : Int) &&& 31)))
  refine ⟨_, _, ?_, fun t' => ?_, a3⟩
  · rw [f_X3_buffer]
    refine (buf_s _ x (s := 24) (by omega) (by omega) _ h.1.1).trans ?_
    refine (buf_s _ x (s := 16) (by omega) (by omega) _ a0.1.1).trans ?_
    refine (buf_s _ x (s := 8) (by omega) (by omega) _ a1.1.1).trans ?_
    refine (buf_s _ x (s := 0) (by omega) (by omega) _ a2.1.1).trans ?_
    exact buf_e _ x _ _
  · have s0 := app_s (t + 1 + 1 + 1 + 1 + 1) x1 x2 x3 x4 x5 (k := 4 * j + 0) (by omega) (by omega) (t' + 3) h.1.2.1
    have s1 := app_s (t + 1 + 1 + 1 + 1 + 1) x1 x2 x3 x4 x5 (k := 4 * j + 1) (by omega) (by omega) (t' + 2) a0.1.2.1
    have s2 := app_s (t + 1 + 1 + 1 + 1 + 1) x1 x2 x3 x4 x5 (k := 4 * j + 2) (by omega) (by omega) (t' + 1) a1.1.2.1
    have s3 := app_s (t + 1 + 1 + 1 + 1 + 1) x1 x2 x3 x4 x5 (k := 4 * j + 3) (by omega) (by omega) t' a2.1.2.1
    rw [w 0 (by omega), sh 0 (by omega)] at s0
    rw [w 1 (by omega), sh 1 (by omega)] at s1
    rw [w 2 (by omega), sh 2 (by omega)] at s2
    rw [w 3 (by omega), sh 3 (by omega)] at s3
    exact ((s0.trans s1).trans s2).trans s3
theorem st_append {N : Nat} (hN : 700 ≤ N) : S_append Rel N := by
  intro u0 u1 u2 u3 mo h x1 x2 x3 x4 x5
  obtain ⟨r1, r2, r3, r4, ⟨n, n1, n2, n3, n4, n5⟩, r6⟩ := id h
  have n2 : u1.1 1 = zI n := n2
  have n4 : u1.1 6 = mo.1 17 := n4
  have e5 := f_X5_append.eq_1 N x1 x2 x3 x4 x5 u0 u1 u2 u3
  have e6 := f_X6_append.eq_1 N x1 x2 x3 x4 x5 mo
  have c : (zI (n : Int) + 20 ≤ 600) = (n + 20 ≤ 600) := by
    rw [zI_lit, zI_lit, zI_add, zI_le (by omega) (by omega) (by omega) (by omega)]
    exact propext (by omega)
  rw [n2] at e5
  rw [n3] at e6
  by_cases g : n + 20 ≤ 600
  · rw [ifP c g] at e5 e6
    have A0 : AC u1 (oi mo 7 0) u1 (oi mo 7 0) n := ⟨⟨n2, (oi_n mo 0 (by decide)).trans n3, n5⟩, fun _ _ => rfl, fun _ _ => rfl, fun _ _ => rfl, rfl⟩
    obtain ⟨a1, b1, s1, t1, A1⟩ := word_v hN x1 x2 x3 x4 x5 (j := 0) A0 (by omega) (by omega)
    obtain ⟨a2, b2, s2, t2, A2⟩ := word_v hN x1 x2 x3 x4 x5 (j := 1) A1 (by omega) (by omega)
    obtain ⟨a3, b3, s3, t3, A3⟩ := word_v hN x1 x2 x3 x4 x5 (j := 2) A2 (by omega) (by omega)
    obtain ⟨a4, b4, s4, t4, A4⟩ := word_v hN x1 x2 x3 x4 x5 (j := 3) A3 (by omega) (by omega)
    obtain ⟨a5, b5, s5, t5, A5⟩ := word_v hN x1 x2 x3 x4 x5 (j := 4) A4 (by omega) (by omega)
    have s1 : f_X3_buffer N x1 u1 = some a1 := s1
    have s2 : f_X3_buffer N x2 a1 = some a2 := s2
    have s3 : f_X3_buffer N x3 a2 = some a3 := s3
    have s4 : f_X3_buffer N x4 a3 = some a4 := s4
    have s5 : f_X3_buffer N x5 a4 = some a5 := s5
    obtain ⟨⟨w1, w2, w3⟩, w4, w5, w6, w7⟩ := A5
    rw [s1, Option.bind_some, s2, Option.bind_some, s3, Option.bind_some, s4, Option.bind_some, s5, Option.bind_some, w1] at e5
    have e6 : f_X6_append N x1 x2 x3 x4 x5 mo = some (zI ((n + 4 + 4 + 4 + 4 + 4 : Nat) : Int), b5) := by
      rw [e6]
      obtain ⟨t, ht⟩ : ∃ t, N = t + 1 + 4 + 4 + 4 + 4 + 4 := ⟨N - 21, by omega⟩
      have q := ((((t1 (t + 1 + 4 + 4 + 4 + 4)).trans (t2 (t + 1 + 4 + 4 + 4))).trans (t3 (t + 1 + 4 + 4))).trans (t4 (t + 1 + 4))).trans (t5 (t + 1))
      rw [← ht] at q
      refine Eq.trans q ?_
      rw [l_X6_append_34, if_pos (show (20 : Int32) ≤ zI ((4 * (4 + 1) : Nat) : Int) by decide), w2]
    refine ⟨_, _, _, e5, e6, ⟨?_, rfl⟩, ?_, r2, RU_up r3 rfl rfl (fun _ _ => rfl) ?_ ?_, RV_up r4 rfl (fun _ _ => rfl) ?_ ?_, ⟨_, by omega, w1, w2, ?_, w3⟩, RW_up r6 rfl rfl ?_ ?_⟩
    · rw [w5 7 (by decide), oi_s]
    · show RR (u2 0) (b5.2.2.2 0)
      rw [w7]
      exact r1
    · rw [w5 6 (by decide), oi_n _ _ (by decide)]
    · rw [w7]
      rfl
    · rw [w6 5 (by decide)]
      rfl
    · rw [w7]
      rfl
    · show a5.1 6 = b5.1 17
      rw [w4 6 (by decide), w5 17 (by decide), oi_n _ _ (by decide)]
      exact n4
    · rw [w5 21 (by decide), oi_n _ _ (by decide)]
    · rw [w6 20 (by decide)]
      rfl
  · rw [ifN c g] at e5 e6
    exact S_e h e5 e6 (okX1 0 0 0)
