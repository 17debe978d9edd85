/-! a text loaded -/
def end5 (N : Nat) (u0 u1 : Ob) (u2 u3 : Nat → Ob) : Option ((Nat ⊕ Int32) × Ob × Ob × (Nat → Ob) × (Nat → Ob)) := ((f_X5_remember N u0 u1 u2 u3).bind fun q9 => ((f_X4_copyFrom N (q9.2.2.1 0) (q9.2.2.1 2)).bind fun q11 => some (.inr (q11.1.1 11), (q9.1, (q9.2.1, ((va_up (va_up q9.2.2.1 0 q11.1) 2 q11.2), q9.2.2.2))))))
def LR (N : Nat) (T : Nat → Int) (L : Nat) (u0 u1 : Ob) (u2 : Nat → Ob) (m : Ob) (y : Int32) (r5 : Option ((Nat ⊕ Int32) × Ob × Ob × (Nat → Ob) × (Nat → Ob))) (r6 : Option (Int32 × Ob)) : Prop := ∃ (u1' : Ob) (u2' u3' : Nat → Ob) (m' : Ob), LF m m' ∧ u1'.1 1 = u1.1 1 ∧ (∀ j, j ≠ 2 → u2' j = u2 j) ∧
  ((PE T L u1' m' ∧ r5 = some (.inr (u1'.1 5), u0, u1', u2', u3') ∧ r6 = l_X6_load_138 N y N 0 (oi m' 17 (m'.1 16))) ∨
   (u1'.1 6 = -1 ∧ m'.1 15 = 0 ∧ RR (u2' 2) (m'.2.2.2 0) ∧ r5 = end5 N u0 u1' u2' u3' ∧ r6 = l_X6_load_138 N y N 0 (oi m' 17 (-1))))
theorem load_l {N : Nat} (hN : 700 ≤ N) {T : Nat → Int} {L : Nat} (y z : Int32) (u0 : Ob) : ∀ (j p i n n' : Nat) (u1 m : Ob) (u2 u3 : Nat → Ob), L ≤ j + p → j < n → j + 1 < n' → i ≤ p → PT T L u1 m p → RR (u2 2) (m.2.2.2 0) →
    LR N T L u0 u1 u2 m y (l_X5_load_46 N (zI L) n (zI i) u0 u1 u2 u3) (l_X6_load_95 N y n' z m) := by
  have done : ∀ (p i n n' : Nat) (u1 m : Ob) (u2 u3 : Nat → Ob), 0 < n → 0 < n' → L ≤ sk spc T L p → i ≤ 600 → PT T L u1 m p → RR (u2 2) (m.2.2.2 0) → LR N T L u0 u1 u2 m y (l_X5_load_46 N (zI L) n (zI i) u0 u1 u2 u3) (l_X6_load_95 N y n' z m) := by
    intro p i n n' u1 m u2 u3 hn hn' hL hi h hR
    obtain ⟨n, rfl⟩ : ∃ k, n = k + 1 := ⟨n - 1, by omega⟩
    obtain ⟨n', rfl⟩ : ∃ k, n' = k + 1 := ⟨n' - 1, by omega⟩
    obtain ⟨a1, a2, a3, a4, a5, a6, a7⟩ := id h
    have t2 := a1.2.1
    have k3 : m.1 14 = 3 := by
      rw [a5.2.2.1]
      unfold tkK
      rw [if_pos hL]
      rfl
    have e6 : l_X6_load_95 N y (n' + 1) z m = l_X6_load_138 N y N 0 (oi m 17 (-1)) := by
      rw [l_X6_load_95, if_pos a7, if_pos k3, if_pos a7]
    have r := sk_rng spc T a4
    by_cases g : L ≤ i
    · refine ⟨u1, u2, u3, m, LF_rfl m, rfl, fun _ _ => rfl, Or.inr ⟨a1.1.2, a7, hR, ?_, e6⟩⟩
      rw [l_X5_load_46, if_pos (show zI (L : Int) ≤ zI (i : Int) by rw [zI_le (by omega) (by omega) (by omega) (by omega)]; omega), if_pos a6]
      rfl
    · have x6 : (oi u1 3 (zI (sk spc T L p))).1 6 = -1 := (oi_n u1 _ (by decide)).trans a1.1.2
      have x5 : (oi u1 3 (zI (sk spc T L p))).1 5 = 0 := (oi_n u1 _ (by decide)).trans a6
      refine ⟨oi u1 3 (zI (sk spc T L p)), u2, u3, m, LF_rfl m, oi_n u1 _ (by decide), fun _ _ => rfl, Or.inr ⟨x6, a7, hR, ?_, e6⟩⟩
      have fs : f_X3_findStatement N u1 = some (false, oi u1 3 (zI (sk spc T L p))) := by
        rw [f_X3_findStatement, X3_skipSpaces_v hN a1 a3 a4, Option.bind_some, oi_s, oi_n u1 _ (by decide), a1.1.1, if_pos (show zI (L : Int) ≤ zI (sk spc T L p : Int) by rw [zI_le (by omega) (by omega) (by omega) (by omega)]; omega)]
      rw [l_X5_load_46, if_neg (show ¬ zI (L : Int) ≤ zI (i : Int) by rw [zI_le (by omega) (by omega) (by omega) (by omega)]; omega), fs, Option.bind_some]
      show (if false = true then _ else (if (oi u1 3 (zI (sk spc T L p))).1 5 = 0 then _ else _)) = _
      rw [ifb0, if_pos x5]
      rfl
  intro j
  induction j with
  | zero =>
    intro p i n n' u1 m u2 u3 hj hn hn' hi h hR
    have a4 := h.2.2.2.1
    have r := sk_rng spc T a4
    have t2 := h.1.2.1
    exact done p i n n' u1 m u2 u3 (by omega) (by omega) (by omega) (by omega) h hR
  | succ j ih =>
    intro p i n n' u1 m u2 u3 hj hn hn' hi h hR
    obtain ⟨a1, a2, a3, a4, a5, a6, a7⟩ := id h
    have r := sk_rng spc T a4
    have t2 := a1.2.1
    by_cases gL : L ≤ sk spc T L p
    · exact done p i n n' u1 m u2 u3 (by omega) (by omega) gL (by omega) h hR
    · obtain ⟨n, rfl⟩ : ∃ k, n = k + 1 := ⟨n - 1, by omega⟩
      obtain ⟨n', rfl⟩ : ∃ k, n' = k + 1 + 1 := ⟨n' - 2, by omega⟩
      have k3 : ¬ (m.1 14 = 3) := by
        have kr := tkK_rng T L (sk spc T L p)
        rw [a5.2.2.1, zI_lit, zI_eq (by omega) (by omega) (by omega) (by omega)]
        unfold tkK
        rw [if_neg gL]
        split
        · omega
        · split <;> omega
      have e6 : l_X6_load_95 N y (n' + 1 + 1) z m = ((f_X6_readsStatement N m).bind fun q27 => l_X6_load_95 N y (n' + 1) z q27) := by
        rw [l_X6_load_95, if_pos a7, if_neg k3]
      have P1 : PT T L (oi u1 3 (zI (sk spc T L p))) m (sk spc T L p) := ⟨CT_up a1 (oi_n u1 _ (by decide)) (oi_n u1 _ (by decide)) rfl, a2, oi_s u1 3 _, r.2, by rw [sk_sk a4]; exact a5, (oi_n u1 _ (by decide)).trans a6, a7⟩
      have fs : f_X3_findStatement N u1 = some (true, oi u1 3 (zI (sk spc T L p))) := by
        rw [f_X3_findStatement, X3_skipSpaces_v hN a1 a3 a4, Option.bind_some, oi_s, oi_n u1 _ (by decide), a1.1.1, if_neg (show ¬ zI (L : Int) ≤ zI (sk spc T L p : Int) by rw [zI_le (by omega) (by omega) (by omega) (by omega)]; omega)]
      obtain ⟨v, m1, s1, s2, s3, s4, s5, s6⟩ := stm_p hN (b := u3 2) P1 hR
      have e5 := l_X5_load_46.eq_2 N (zI (L : Int)) (zI (i : Int)) u0 u1 u2 u3 n
      rw [if_neg (show ¬ zI (L : Int) ≤ zI (i : Int) by rw [zI_le (by omega) (by omega) (by omega) (by omega)]; omega), fs, Option.bind_some] at e5
      rw [if_pos rfl] at e5
      rw [s1, Option.bind_some] at e5
      rw [s2, Option.bind_some] at e6
      have v1 : v.1 1 = u1.1 1 := s4.trans (oi_n u1 _ (by decide))
      rcases s6 with s6 | ⟨w', b', q, x1, x2, x3, x4⟩
      · -- an error
        obtain ⟨n1, n2⟩ := PE_n0 s6
        refine ⟨v, u2, u3, m1, s3, v1, fun _ _ => rfl, Or.inl ⟨s6, ?_, ?_⟩⟩
        · rw [e5]
          show (if v.1 5 = 0 then _ else (if v.1 5 = 0 then _ else some (Sum.inr (v.1 5), u0, v, va_up u2 2 (u2 2), u3))) = _
          rw [if_neg n1, if_neg n1, va_up_id]
        · rw [e6, l_X6_load_95, if_neg n2, if_neg n2]
      · have z5 : v.1 5 = 0 := x4.2.2.2.2.2.1
        have goon : ∀ (u3' : Nat → Ob), l_X5_load_46 N (zI (L : Int)) (n + 1) (zI (i : Int)) u0 u1 u2 u3 = l_X5_load_46 N (zI (L : Int)) n (zI ((i + 1 : Nat) : Int)) u0 v (va_up u2 2 w') u3' → LR N T L u0 u1 u2 m y (l_X5_load_46 N (zI (L : Int)) (n + 1) (zI (i : Int)) u0 u1 u2 u3) (l_X6_load_95 N y (n' + 1 + 1) z m) := by
          intro u3' he
          obtain ⟨c1, c2, c3, c4, d1, d2, d3, d4⟩ := ih q (i + 1) n (n' + 1) v m1 (va_up u2 2 w') u3' (by omega) (by omega) (by omega) (by omega) x4 (by rw [va_up_self]; exact x2)
          refine ⟨c1, c2, c3, c4, LF_tr s3 d1, d2.trans v1, fun k hk => (d3 k hk).trans (va_up_ne _ _ hk), ?_⟩
          rw [he, e6]
          exact d4
        have vv : ∀ x : Ob, va_up (va_up u2 2 (u2 2)) 2 x = va_up u2 2 x := fun x => va_up_up _ _ _ _
        rcases x1 with ⟨y7, rr, p1⟩ | ⟨y7, rr, lp, y10, p1⟩ | ⟨y5, y6, p1, p2⟩
        · refine goon (va_up u3 2 b') ?_
          rw [e5]
          show (if v.1 5 = 0 then (if v.1 7 = 5 then ((f_X4_takePulse N (v.1 8) (v.1 9) (u2 2) (u3 2)).bind _) else _) else _) = _
          rw [if_pos z5, if_pos y7, p1, Option.bind_some, zI_suc]
          show l_X5_load_46 N (zI (L : Int)) n (zI ((i + 1 : Nat) : Int)) u0 v (va_up (va_up u2 2 (u2 2)) 2 w') (va_up u3 2 b') = _
          rw [vv]
        · refine goon (va_up u3 2 b') ?_
          rw [e5]
          have n5 : ¬ (v.1 7 = 5) := by rw [y7]; decide
          show (if v.1 5 = 0 then (if v.1 7 = 5 then _ else (if v.1 7 = 6 then (if v.1 10 = 0 then ((f_X4_hearMinute N (v.1 8) false (v.2.1 11) (u2 2) (u3 2)).bind _) else (if v.1 10 = 1 then ((f_X4_hearMinute N (v.1 8) true (v.2.1 11) (u2 2) (u3 2)).bind _) else none)) else _)) else _) = _
          rw [if_pos z5, if_neg n5, if_pos y7, y10]
          cases lp
          · rw [if_pos (show ((if false = true then (1 : Int32) else 0) = 0) by decide), p1, Option.bind_some, zI_suc]
            show l_X5_load_46 N (zI (L : Int)) n (zI ((i + 1 : Nat) : Int)) u0 v (va_up (va_up u2 2 (u2 2)) 2 w') (va_up u3 2 b') = _
            rw [vv]
          · rw [if_neg (show ¬ ((if true = true then (1 : Int32) else 0) = 0) by decide), if_pos (show ((if true = true then (1 : Int32) else 0) = 1) by decide), p1, Option.bind_some, zI_suc]
            show l_X5_load_46 N (zI (L : Int)) n (zI ((i + 1 : Nat) : Int)) u0 v (va_up (va_up u2 2 (u2 2)) 2 w') (va_up u3 2 b') = _
            rw [vv]
        · refine goon u3 ?_
          rw [e5]
          show (if v.1 5 = 0 then (if v.1 7 = 5 then _ else (if v.1 7 = 6 then _ else ((f_X4_change N (v.1 7) (v.1 8) (u2 2)).bind fun q26 => l_X5_load_46 N (zI (L : Int)) n (zI (i : Int) + 1) u0 v (va_up (va_up u2 2 (u2 2)) 2 q26) u3))) else _) = _
          rw [if_pos z5, if_neg y5, if_neg y6, p1, Option.bind_some, zI_suc, vv]
/-- the reference's rows set aside, begun anew, and brought back -/
theorem load54_l (N : Nat) (x : Int32) : ∀ (j s n : Nat) (u : Ob), s + j = 48 → j < n → ∃ b, l_X6_load_54 N x n (zI s) u = ((f_X6_begins N (oj u 2 b)).bind fun q7 => ((f_X6_becomes_1 N 0 q7).bind fun q9 => ((f_X6_next N q9).bind fun q11 => l_X6_load_95 N x N (zI 48) q11))) ∧ ∀ k, b k = if s ≤ k ∧ k < 48 then u.2.2.2 0 k else u.2.2.2 2 k := by
  intro j
  induction j with
  | zero =>
    intro s n u hs hn
    obtain ⟨n, rfl⟩ : ∃ k, n = k + 1 := ⟨n - 1, by omega⟩
    have : s = 48 := by omega
    subst this
    refine ⟨u.2.2.2 2, ?_, fun k => by rw [if_neg (by omega)]⟩
    rw [oj_id, l_X6_load_54, if_pos (show (48 : Int32) ≤ zI ((48 : Nat) : Int) by decide)]
    rfl
  | succ j ih =>
    intro s n u hs hn
    obtain ⟨n, rfl⟩ : ∃ k, n = k + 1 := ⟨n - 1, by omega⟩
    have c48 : ((48 : Int32) ≤ zI (s : Int)) = False := by simp (maxSteps := 400000) (disch := omega) only [zI_lit, zI_neg, zI_add, zI_sub, zI_mul, zI_div, zI_tn, zI_toL, zL_lit, zL_neg, zL_add, zL_sub, zL_mul, zL_div, zL_toI, zI_ltT, zI_ltF, zI_leT, zI_leF, zI_eqT, zI_eqF, zL_ltT, zL_ltF, zL_leT, zL_leF, zL_eqT, zL_eqF, nleT, nleF, or_self, or_false, false_or, true_or, or_true, not_true_eq_false, not_false_eq_true, ↓reduceIte, Option.bind_some, Bool.false_eq_true, decide_true, decide_false]
    have c1 : (zI (s : Int) < 0 ∨ 48 ≤ (zI (s : Int)).toNatClampNeg) = False := by
      rw [zI_tnN (by omega)]
      simp (maxSteps := 400000) (disch := omega) only [zI_lit, zI_neg, zI_add, zI_sub, zI_mul, zI_div, zI_tn, zI_toL, zL_lit, zL_neg, zL_add, zL_sub, zL_mul, zL_div, zL_toI, zI_ltT, zI_ltF, zI_leT, zI_leF, zI_eqT, zI_eqF, zL_ltT, zL_ltF, zL_leT, zL_leF, zL_eqT, zL_eqF, nleT, nleF, or_self, or_false, false_or, true_or, or_true, not_true_eq_false, not_false_eq_true, ↓reduceIte, Option.bind_some, Bool.false_eq_true, decide_true, decide_false]
    obtain ⟨b, b1, b2⟩ := ih (s + 1) n (oj u 2 (vp_updL (u.2.2.2 2) s (u.2.2.2 0 s))) (by omega) (by omega)
    refine ⟨b, ?_, fun k => ?_⟩
    · rw [l_X6_load_54, ifF c48, ifF c1, ifF c1, zI_tnN (by omega), zI_suc, b1, oj_oj]
    · rw [b2 k, oj_s, oj_n _ _ (by decide)]
      by_cases e : k = s
      · rw [if_neg (by omega), if_pos (by omega), e, vp_s]
      · rw [vp_n _ _ e]
        by_cases g : s ≤ k ∧ k < 48
        · rw [if_pos g, if_pos (by omega)]
        · rw [if_neg g, if_neg (by omega)]
theorem load138_l (N : Nat) (x : Int32) : ∀ (j s n : Nat) (u : Ob), s + j = 48 → j < n → ∃ b, l_X6_load_138 N x n (zI s) u = ((f_X6_becomes_2 N 0 (oj u 1 b)).bind fun q16 => (if (q16.1 15) = 0 then ((f_X6_keeps N q16).bind fun q19 => ((f_X6_becomes_1 N 0 q19).bind fun q21 => some (((q21.2.2.2 0) 12).toInt32, q21))) else some ((q16.1 15), q16))) ∧ ∀ k, b k = if s ≤ k ∧ k < 48 then u.2.2.2 0 k else u.2.2.2 1 k := by
  intro j
  induction j with
  | zero =>
    intro s n u hs hn
    obtain ⟨n, rfl⟩ : ∃ k, n = k + 1 := ⟨n - 1, by omega⟩
    have : s = 48 := by omega
    subst this
    refine ⟨u.2.2.2 1, ?_, fun k => by rw [if_neg (by omega)]⟩
    rw [oj_id, l_X6_load_138, if_pos (show (48 : Int32) ≤ zI ((48 : Nat) : Int) by decide)]
    rfl
  | succ j ih =>
    intro s n u hs hn
    obtain ⟨n, rfl⟩ : ∃ k, n = k + 1 := ⟨n - 1, by omega⟩
    have c48 : ((48 : Int32) ≤ zI (s : Int)) = False := by simp (maxSteps := 400000) (disch := omega) only [zI_lit, zI_neg, zI_add, zI_sub, zI_mul, zI_div, zI_tn, zI_toL, zL_lit, zL_neg, zL_add, zL_sub, zL_mul, zL_div, zL_toI, zI_ltT, zI_ltF, zI_leT, zI_leF, zI_eqT, zI_eqF, zL_ltT, zL_ltF, zL_leT, zL_leF, zL_eqT, zL_eqF, nleT, nleF, or_self, or_false, false_or, true_or, or_true, not_true_eq_false, not_false_eq_true, ↓reduceIte, Option.bind_some, Bool.false_eq_true, decide_true, decide_false]
    have c1 : (zI (s : Int) < 0 ∨ 48 ≤ (zI (s : Int)).toNatClampNeg) = False := by
      rw [zI_tnN (by omega)]
      simp (maxSteps := 400000) (disch := omega) only [zI_lit, zI_neg, zI_add, zI_sub, zI_mul, zI_div, zI_tn, zI_toL, zL_lit, zL_neg, zL_add, zL_sub, zL_mul, zL_div, zL_toI, zI_ltT, zI_ltF, zI_leT, zI_leF, zI_eqT, zI_eqF, zL_ltT, zL_ltF, zL_leT, zL_leF, zL_eqT, zL_eqF, nleT, nleF, or_self, or_false, false_or, true_or, or_true, not_true_eq_false, not_false_eq_true, ↓reduceIte, Option.bind_some, Bool.false_eq_true, decide_true, decide_false]
    obtain ⟨b, b1, b2⟩ := ih (s + 1) n (oj u 1 (vp_updL (u.2.2.2 1) s (u.2.2.2 0 s))) (by omega) (by omega)
    refine ⟨b, ?_, fun k => ?_⟩
    · rw [l_X6_load_138, ifF c48, ifF c1, ifF c1, zI_tnN (by omega), zI_suc, b1, oj_oj]
    · rw [b2 k, oj_s, oj_n _ _ (by decide)]
      by_cases e : k = s
      · rw [if_neg (by omega), if_pos (by omega), e, vp_s]
      · rw [vp_n _ _ e]
        by_cases g : s ≤ k ∧ k < 48
        · rw [if_pos g, if_pos (by omega)]
        · rw [if_neg g, if_neg (by omega)]
theorem begins_l (N : Nat) : ∀ (j s n : Nat) (u : Ob), s + j = 48 → j < n → (∀ k, k < s → u.2.2.2 1 k = 0) → ∃ b, l_X6_begins_2 N n (zI s) u = some (oj u 1 b) ∧ ∀ k, k < 48 → b k = a00 k := by
  intro j
  induction j with
  | zero =>
    intro s n u hs hn h0
    obtain ⟨n, rfl⟩ : ∃ k, n = k + 1 := ⟨n - 1, by omega⟩
    have : s = 48 := by omega
    subst this
    refine ⟨vp_updL (vp_updL (vp_updL (vp_updL (vp_updL (vp_updL (vp_updL (u.2.2.2 1) 0 100) 1 3) 2 5) 5 (-1)) 6 (-1)) 7 (-1)) 9 (-1), ?_, fun k hk => ?_⟩
    · rw [l_X6_begins_2, if_pos (show (48 : Int32) ≤ zI ((48 : Nat) : Int) by decide), oj_oj, oj_oj, oj_oj, oj_oj, oj_oj, oj_oj]
      rfl
    · unfold a00 vp_updL
      have := h0 k hk
      grind
  | succ j ih =>
    intro s n u hs hn h0
    obtain ⟨n, rfl⟩ : ∃ k, n = k + 1 := ⟨n - 1, by omega⟩
    have c48 : ((48 : Int32) ≤ zI (s : Int)) = False := by simp (maxSteps := 400000) (disch := omega) only [zI_lit, zI_neg, zI_add, zI_sub, zI_mul, zI_div, zI_tn, zI_toL, zL_lit, zL_neg, zL_add, zL_sub, zL_mul, zL_div, zL_toI, zI_ltT, zI_ltF, zI_leT, zI_leF, zI_eqT, zI_eqF, zL_ltT, zL_ltF, zL_leT, zL_leF, zL_eqT, zL_eqF, nleT, nleF, or_self, or_false, false_or, true_or, or_true, not_true_eq_false, not_false_eq_true, ↓reduceIte, Option.bind_some, Bool.false_eq_true, decide_true, decide_false]
    have c1 : (zI (s : Int) < 0 ∨ 48 ≤ (zI (s : Int)).toNatClampNeg) = False := by
      rw [zI_tnN (by omega)]
      simp (maxSteps := 400000) (disch := omega) only [zI_lit, zI_neg, zI_add, zI_sub, zI_mul, zI_div, zI_tn, zI_toL, zL_lit, zL_neg, zL_add, zL_sub, zL_mul, zL_div, zL_toI, zI_ltT, zI_ltF, zI_leT, zI_leF, zI_eqT, zI_eqF, zL_ltT, zL_ltF, zL_leT, zL_leF, zL_eqT, zL_eqF, nleT, nleF, or_self, or_false, false_or, true_or, or_true, not_true_eq_false, not_false_eq_true, ↓reduceIte, Option.bind_some, Bool.false_eq_true, decide_true, decide_false]
    obtain ⟨b, b1, b2⟩ := ih (s + 1) n (oj u 1 (vp_updL (u.2.2.2 1) s 0)) (by omega) (by omega) (fun k hk => by
      rw [oj_s]
      by_cases e : k = s
      · rw [e, vp_s]
      · rw [vp_n _ _ e]
        exact h0 k (by omega))
    refine ⟨b, ?_, b2⟩
    rw [l_X6_begins_2, ifF c48, ifF c1, zI_tnN (by omega), zI_suc, b1, oj_oj]
