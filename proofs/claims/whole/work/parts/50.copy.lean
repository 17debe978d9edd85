/-! copies -/
theorem cpy0 {α : Type} (f g : Nat → α) (n i : Nat) (h : i < n) : va_cpy f g 0 0 n i = f i := by
  unfold va_cpy
  rw [if_pos (by omega)]
  congr 1
  omega
/-- what a copy has of another one -/
def CpC (v w : Ob) : Prop := (∀ k, (k = 1 ∨ k = 2 ∨ k = 3 ∨ k = 4 ∨ k = 5 ∨ k = 11 ∨ k = 12 ∨ k = 13 ∨ k = 16) → v.1 k = w.1 k) ∧ v.2.1 6 = w.2.1 6 ∧ v.2.1 7 = w.2.1 7 ∧ (∀ i, i < 5 → v.2.2.1 0 i = w.2.2.1 0 i) ∧ ∀ i, i < 8 → v.2.2.2 8 i = w.2.2.2 8 i ∧ v.2.2.2 9 i = w.2.2.2 9 i ∧ v.2.2.1 10 i = w.2.2.1 10 i ∧ v.2.2.1 14 i = w.2.2.1 14 i ∧ v.2.2.1 15 i = w.2.2.1 15 i
theorem X4_copyFrom_v (N : Nat) (u w : Ob) : ∃ v, f_X4_copyFrom N u w = some (v, w) ∧ CpC v w := by
  refine ⟨_, rfl, fun k hk => ?_, rfl, rfl, fun i hi => ?_, fun i hi => ⟨?_, ?_, ?_, ?_, ?_⟩⟩
  · rcases hk with rfl | rfl | rfl | rfl | rfl | rfl | rfl | rfl | rfl <;> rfl
  · exact cpy0 (w.2.2.1 0) (u.2.2.1 0) 5 i hi
  · exact cpy0 (w.2.2.2 8) (u.2.2.2 8) 8 i hi
  · exact cpy0 (w.2.2.2 9) (u.2.2.2 9) 8 i hi
  · exact cpy0 (w.2.2.1 10) (u.2.2.1 10) 8 i hi
  · exact cpy0 (w.2.2.1 14) (u.2.2.1 14) 8 i hi
  · exact cpy0 (w.2.2.1 15) (u.2.2.1 15) 8 i hi
theorem RR_cp {v w : Ob} {a b : Nat → Int64} (h : CpC v w) (hb : ∀ k, k < 48 → b k = a k) (hR : RR w a) : RR v b := by
  obtain ⟨st, pos, mark, bef, ign, len, F, told, votd, X, xm, xt, hS, hK, hC, ⟨⟨f1, f2, f3⟩, f4, f5⟩, hT, ⟨x1, x2, x3⟩, hI⟩ := hR
  obtain ⟨c1, c6, c7, c0, c8⟩ := h
  refine ⟨st, pos, mark, bef, ign, len, F, told, votd, X, xm, xt, ⟨hS.1, fun i hi => ?_⟩, ?_, fun hp => ?_, ⟨⟨?_, f2, fun k hk => ?_⟩, f4, ?_⟩, ?_, ⟨?_, x2, fun k hk => ?_⟩, hI⟩
  · rw [c0 i hi, hb i (by omega)]
    exact hS.2 i hi
  · unfold RK
    rw [c1 1 (by omega), c1 2 (by omega), c1 3 (by omega), c1 4 (by omega), hb 7 (by omega), hb 6 (by omega), hb 11 (by omega), hb 5 (by omega)]
    exact hK
  · rw [c1 5 (by omega), c6, c7, hb 8 (by omega), hb 14 (by omega), hb 15 (by omega)]
    exact hC hp
  · rw [c1 11 (by omega)]
    exact f1
  · obtain ⟨d1, d2, d3, d4, d5⟩ := c8 k (by omega)
    rw [d1, d2, d3, hb _ (by omega), hb _ (by omega)]
    exact f3 k hk
  · rw [hb 12 (by omega)]
    exact f5
  · unfold RT
    rw [c1 12 (by omega), c1 13 (by omega), hb 9 (by omega), hb 10 (by omega)]
    exact hT
  · rw [c1 16 (by omega), hb 13 (by omega)]
    exact x1
  · obtain ⟨d1, d2, d3, d4, d5⟩ := c8 k (by omega)
    rw [d4, d5, hb _ (by omega), hb _ (by omega)]
    exact x3 k hk
theorem CpC_rfl (u : Ob) : CpC u u := ⟨fun _ _ => rfl, rfl, rfl, fun _ _ => rfl, fun _ _ => ⟨rfl, rfl, rfl, rfl, rfl⟩⟩
theorem RR_row {u : Ob} {a b : Nat → Int64} (hb : ∀ k, k < 48 → b k = a k) (hR : RR u a) : RR u b := RR_cp (CpC_rfl u) hb hR
/-- the reference's rows moved -/
theorem becomes1_l (N : Nat) : ∀ (j s n : Nat) (u : Ob), s + j = 48 → j < n → ∃ b, l_X6_becomes_1_2 N 0 n (zI s) u = some (oj u 0 b) ∧ ∀ k, b k = if s ≤ k ∧ k < 48 then u.2.2.2 1 k else u.2.2.2 0 k := by
  intro j
  induction j with
  | zero =>
    intro s n u hs hn
    obtain ⟨n, rfl⟩ : ∃ k, n = k + 1 := ⟨n - 1, by omega⟩
    refine ⟨u.2.2.2 0, ?_, fun k => by rw [if_neg (by omega)]⟩
    rw [oj_id, l_X6_becomes_1_2, if_pos (show (48 : Int32) ≤ zI (s : Int) by rw [zI_lit, zI_le (by omega) (by omega) (by omega) (by omega)]; omega)]
  | succ j ih =>
    intro s n u hs hn
    obtain ⟨n, rfl⟩ : ∃ k, n = k + 1 := ⟨n - 1, by omega⟩
    have c48 : ((48 : Int32) ≤ zI (s : Int)) = False := by simp (maxSteps := 400000) (disch := omega) only [zI_lit, zI_neg, zI_add, zI_sub, zI_mul, zI_div, zI_tn, zI_toL, zL_lit, zL_neg, zL_add, zL_sub, zL_mul, zL_div, zL_toI, zI_ltT, zI_ltF, zI_leT, zI_leF, zI_eqT, zI_eqF, zL_ltT, zL_ltF, zL_leT, zL_leF, zL_eqT, zL_eqF, nleT, nleF, or_self, or_false, false_or, true_or, or_true, not_true_eq_false, not_false_eq_true, ↓reduceIte, Option.bind_some, Bool.false_eq_true, decide_true, decide_false]
    have z0 : (0 : Int32) + zI (s : Int) = zI s := by rw [zI_lit, zI_add]; congr 1; omega
    have c1 : (zI (s : Int) < 0 ∨ 48 ≤ (zI (s : Int)).toNatClampNeg) = False := by
      rw [zI_tnN (by omega)]
      simp (maxSteps := 400000) (disch := omega) only [zI_lit, zI_neg, zI_add, zI_sub, zI_mul, zI_div, zI_tn, zI_toL, zL_lit, zL_neg, zL_add, zL_sub, zL_mul, zL_div, zL_toI, zI_ltT, zI_ltF, zI_leT, zI_leF, zI_eqT, zI_eqF, zL_ltT, zL_ltF, zL_leT, zL_leF, zL_eqT, zL_eqF, nleT, nleF, or_self, or_false, false_or, true_or, or_true, not_true_eq_false, not_false_eq_true, ↓reduceIte, Option.bind_some, Bool.false_eq_true, decide_true, decide_false]
    obtain ⟨b, b1, b2⟩ := ih (s + 1) n (oj u 0 (vp_updL (u.2.2.2 0) s (u.2.2.2 1 s))) (by omega) (by omega)
    refine ⟨b, ?_, fun k => ?_⟩
    · rw [l_X6_becomes_1_2, ifF c48, z0, ifF c1, ifF c1, zI_tnN (by omega), zI_suc, b1, oj_oj]
    · rw [b2 k, oj_s, oj_n _ _ (by decide)]
      by_cases e : k = s
      · rw [if_neg (by omega), if_pos (by omega), e, vp_s]
      · rw [vp_n _ _ e]
        by_cases g : s ≤ k ∧ k < 48
        · rw [if_pos g, if_pos (by omega)]
        · rw [if_neg g, if_neg (by omega)]
theorem becomes2_l (N : Nat) : ∀ (j s n : Nat) (u : Ob), s + j = 48 → j < n → ∃ b, l_X6_becomes_2_2 N 0 n (zI s) u = some (oj u 0 b) ∧ ∀ k, b k = if s ≤ k ∧ k < 48 then u.2.2.2 2 k else u.2.2.2 0 k := by
  intro j
  induction j with
  | zero =>
    intro s n u hs hn
    obtain ⟨n, rfl⟩ : ∃ k, n = k + 1 := ⟨n - 1, by omega⟩
    refine ⟨u.2.2.2 0, ?_, fun k => by rw [if_neg (by omega)]⟩
    rw [oj_id, l_X6_becomes_2_2, if_pos (show (48 : Int32) ≤ zI (s : Int) by rw [zI_lit, zI_le (by omega) (by omega) (by omega) (by omega)]; omega)]
  | succ j ih =>
    intro s n u hs hn
    obtain ⟨n, rfl⟩ : ∃ k, n = k + 1 := ⟨n - 1, by omega⟩
    have c48 : ((48 : Int32) ≤ zI (s : Int)) = False := by simp (maxSteps := 400000) (disch := omega) only [zI_lit, zI_neg, zI_add, zI_sub, zI_mul, zI_div, zI_tn, zI_toL, zL_lit, zL_neg, zL_add, zL_sub, zL_mul, zL_div, zL_toI, zI_ltT, zI_ltF, zI_leT, zI_leF, zI_eqT, zI_eqF, zL_ltT, zL_ltF, zL_leT, zL_leF, zL_eqT, zL_eqF, nleT, nleF, or_self, or_false, false_or, true_or, or_true, not_true_eq_false, not_false_eq_true, ↓reduceIte, Option.bind_some, Bool.false_eq_true, decide_true, decide_false]
    have z0 : (0 : Int32) + zI (s : Int) = zI s := by rw [zI_lit, zI_add]; congr 1; omega
    have c1 : (zI (s : Int) < 0 ∨ 48 ≤ (zI (s : Int)).toNatClampNeg) = False := by
      rw [zI_tnN (by omega)]
      simp (maxSteps := 400000) (disch := omega) only [zI_lit, zI_neg, zI_add, zI_sub, zI_mul, zI_div, zI_tn, zI_toL, zL_lit, zL_neg, zL_add, zL_sub, zL_mul, zL_div, zL_toI, zI_ltT, zI_ltF, zI_leT, zI_leF, zI_eqT, zI_eqF, zL_ltT, zL_ltF, zL_leT, zL_leF, zL_eqT, zL_eqF, nleT, nleF, or_self, or_false, false_or, true_or, or_true, not_true_eq_false, not_false_eq_true, ↓reduceIte, Option.bind_some, Bool.false_eq_true, decide_true, decide_false]
    obtain ⟨b, b1, b2⟩ := ih (s + 1) n (oj u 0 (vp_updL (u.2.2.2 0) s (u.2.2.2 2 s))) (by omega) (by omega)
    refine ⟨b, ?_, fun k => ?_⟩
    · rw [l_X6_becomes_2_2, ifF c48, z0, ifF c1, ifF c1, zI_tnN (by omega), zI_suc, b1, oj_oj]
    · rw [b2 k, oj_s, oj_n _ _ (by decide)]
      by_cases e : k = s
      · rw [if_neg (by omega), if_pos (by omega), e, vp_s]
      · rw [vp_n _ _ e]
        by_cases g : s ≤ k ∧ k < 48
        · rw [if_pos g, if_pos (by omega)]
        · rw [if_neg g, if_neg (by omega)]
theorem becomes3_l (N : Nat) {o : Nat} (ho : o ≤ 336) : ∀ (j s n : Nat) (u : Ob), s + j = 48 → j < n → ∃ b, l_X6_becomes_3_2 N (zI o) n (zI s) u = some (oj u 0 b) ∧ ∀ k, b k = if s ≤ k ∧ k < 48 then u.2.2.2 3 (o + k) else u.2.2.2 0 k := by
  intro j
  induction j with
  | zero =>
    intro s n u hs hn
    obtain ⟨n, rfl⟩ : ∃ k, n = k + 1 := ⟨n - 1, by omega⟩
    refine ⟨u.2.2.2 0, ?_, fun k => by rw [if_neg (by omega)]⟩
    rw [oj_id, l_X6_becomes_3_2, if_pos (show (48 : Int32) ≤ zI (s : Int) by rw [zI_lit, zI_le (by omega) (by omega) (by omega) (by omega)]; omega)]
  | succ j ih =>
    intro s n u hs hn
    obtain ⟨n, rfl⟩ : ∃ k, n = k + 1 := ⟨n - 1, by omega⟩
    have c48 : ((48 : Int32) ≤ zI (s : Int)) = False := by simp (maxSteps := 400000) (disch := omega) only [zI_lit, zI_neg, zI_add, zI_sub, zI_mul, zI_div, zI_tn, zI_toL, zL_lit, zL_neg, zL_add, zL_sub, zL_mul, zL_div, zL_toI, zI_ltT, zI_ltF, zI_leT, zI_leF, zI_eqT, zI_eqF, zL_ltT, zL_ltF, zL_leT, zL_leF, zL_eqT, zL_eqF, nleT, nleF, or_self, or_false, false_or, true_or, or_true, not_true_eq_false, not_false_eq_true, ↓reduceIte, Option.bind_some, Bool.false_eq_true, decide_true, decide_false]
    have z0 : zI (o : Int) + zI (s : Int) = zI ((o + s : Nat) : Int) := by rw [zI_add]; rfl
    have c1 : (zI (s : Int) < 0 ∨ 48 ≤ (zI (s : Int)).toNatClampNeg) = False := by
      rw [zI_tnN (by omega)]
      simp (maxSteps := 400000) (disch := omega) only [zI_lit, zI_neg, zI_add, zI_sub, zI_mul, zI_div, zI_tn, zI_toL, zL_lit, zL_neg, zL_add, zL_sub, zL_mul, zL_div, zL_toI, zI_ltT, zI_ltF, zI_leT, zI_leF, zI_eqT, zI_eqF, zL_ltT, zL_ltF, zL_leT, zL_leF, zL_eqT, zL_eqF, nleT, nleF, or_self, or_false, false_or, true_or, or_true, not_true_eq_false, not_false_eq_true, ↓reduceIte, Option.bind_some, Bool.false_eq_true, decide_true, decide_false]
    have c2 : (zI ((o + s : Nat) : Int) < 0 ∨ 384 ≤ (zI ((o + s : Nat) : Int)).toNatClampNeg) = False := by
      rw [zI_tnN (by omega)]
      simp (maxSteps := 400000) (disch := omega) only [zI_lit, zI_neg, zI_add, zI_sub, zI_mul, zI_div, zI_tn, zI_toL, zL_lit, zL_neg, zL_add, zL_sub, zL_mul, zL_div, zL_toI, zI_ltT, zI_ltF, zI_leT, zI_leF, zI_eqT, zI_eqF, zL_ltT, zL_ltF, zL_leT, zL_leF, zL_eqT, zL_eqF, nleT, nleF, or_self, or_false, false_or, true_or, or_true, not_true_eq_false, not_false_eq_true, ↓reduceIte, Option.bind_some, Bool.false_eq_true, decide_true, decide_false]
    obtain ⟨b, b1, b2⟩ := ih (s + 1) n (oj u 0 (vp_updL (u.2.2.2 0) s (u.2.2.2 3 (o + s)))) (by omega) (by omega)
    refine ⟨b, ?_, fun k => ?_⟩
    · rw [l_X6_becomes_3_2, ifF c48, z0, ifF c2, ifF c1, zI_tnN (by omega), zI_tnN (by omega), zI_suc, b1, oj_oj]
    · rw [b2 k, oj_s, oj_n _ _ (by decide)]
      by_cases e : k = s
      · rw [if_neg (by omega), if_pos (by omega), e, vp_s]
      · rw [vp_n _ _ e]
        by_cases g : s ≤ k ∧ k < 48
        · rw [if_pos g, if_pos (by omega)]
        · rw [if_neg g, if_neg (by omega)]
theorem becomes4_l (N : Nat) {o : Nat} (ho : o ≤ 48) : ∀ (j s n : Nat) (u : Ob), s + j = 48 → j < n → ∃ b, l_X6_becomes_4_2 N (zI o) n (zI s) u = some (oj u 0 b) ∧ ∀ k, b k = if s ≤ k ∧ k < 48 then u.2.2.2 4 (o + k) else u.2.2.2 0 k := by
  intro j
  induction j with
  | zero =>
    intro s n u hs hn
    obtain ⟨n, rfl⟩ : ∃ k, n = k + 1 := ⟨n - 1, by omega⟩
    refine ⟨u.2.2.2 0, ?_, fun k => by rw [if_neg (by omega)]⟩
    rw [oj_id, l_X6_becomes_4_2, if_pos (show (48 : Int32) ≤ zI (s : Int) by rw [zI_lit, zI_le (by omega) (by omega) (by omega) (by omega)]; omega)]
  | succ j ih =>
    intro s n u hs hn
    obtain ⟨n, rfl⟩ : ∃ k, n = k + 1 := ⟨n - 1, by omega⟩
    have c48 : ((48 : Int32) ≤ zI (s : Int)) = False := by simp (maxSteps := 400000) (disch := omega) only [zI_lit, zI_neg, zI_add, zI_sub, zI_mul, zI_div, zI_tn, zI_toL, zL_lit, zL_neg, zL_add, zL_sub, zL_mul, zL_div, zL_toI, zI_ltT, zI_ltF, zI_leT, zI_leF, zI_eqT, zI_eqF, zL_ltT, zL_ltF, zL_leT, zL_leF, zL_eqT, zL_eqF, nleT, nleF, or_self, or_false, false_or, true_or, or_true, not_true_eq_false, not_false_eq_true, ↓reduceIte, Option.bind_some, Bool.false_eq_true, decide_true, decide_false]
    have z0 : zI (o : Int) + zI (s : Int) = zI ((o + s : Nat) : Int) := by rw [zI_add]; rfl
    have c1 : (zI (s : Int) < 0 ∨ 48 ≤ (zI (s : Int)).toNatClampNeg) = False := by
      rw [zI_tnN (by omega)]
      simp (maxSteps := 400000) (disch := omega) only [zI_lit, zI_neg, zI_add, zI_sub, zI_mul, zI_div, zI_tn, zI_toL, zL_lit, zL_neg, zL_add, zL_sub, zL_mul, zL_div, zL_toI, zI_ltT, zI_ltF, zI_leT, zI_leF, zI_eqT, zI_eqF, zL_ltT, zL_ltF, zL_leT, zL_leF, zL_eqT, zL_eqF, nleT, nleF, or_self, or_false, false_or, true_or, or_true, not_true_eq_false, not_false_eq_true, ↓reduceIte, Option.bind_some, Bool.false_eq_true, decide_true, decide_false]
    have c2 : (zI ((o + s : Nat) : Int) < 0 ∨ 96 ≤ (zI ((o + s : Nat) : Int)).toNatClampNeg) = False := by
      rw [zI_tnN (by omega)]
      simp (maxSteps := 400000) (disch := omega) only [zI_lit, zI_neg, zI_add, zI_sub, zI_mul, zI_div, zI_tn, zI_toL, zL_lit, zL_neg, zL_add, zL_sub, zL_mul, zL_div, zL_toI, zI_ltT, zI_ltF, zI_leT, zI_leF, zI_eqT, zI_eqF, zL_ltT, zL_ltF, zL_leT, zL_leF, zL_eqT, zL_eqF, nleT, nleF, or_self, or_false, false_or, true_or, or_true, not_true_eq_false, not_false_eq_true, ↓reduceIte, Option.bind_some, Bool.false_eq_true, decide_true, decide_false]
    obtain ⟨b, b1, b2⟩ := ih (s + 1) n (oj u 0 (vp_updL (u.2.2.2 0) s (u.2.2.2 4 (o + s)))) (by omega) (by omega)
    refine ⟨b, ?_, fun k => ?_⟩
    · rw [l_X6_becomes_4_2, ifF c48, z0, ifF c2, ifF c1, zI_tnN (by omega), zI_tnN (by omega), zI_suc, b1, oj_oj]
    · rw [b2 k, oj_s, oj_n _ _ (by decide)]
      by_cases e : k = s
      · rw [if_neg (by omega), if_pos (by omega), e, vp_s]
      · rw [vp_n _ _ e]
        by_cases g : s ≤ k ∧ k < 48
        · rw [if_pos g, if_pos (by omega)]
        · rw [if_neg g, if_neg (by omega)]
/-- the present row kept as the c-th one -/
theorem keeps51_l (N : Nat) {c : Nat} (hc : c ≤ 7) : ∀ (j s n : Nat) (u : Ob), u.1 6 = zI c → s + j = 48 → j < n → ∃ b, l_X6_keeps_51 N n (zI s) u = some (oi (oj u 3 b) 6 (zI ((c + 1 : Nat) : Int))) ∧ ∀ k, b k = if 48 * c + s ≤ k ∧ k < 48 * c + 48 then u.2.2.2 0 (k - 48 * c) else u.2.2.2 3 k := by
  intro j
  induction j with
  | zero =>
    intro s n u h6 hs hn
    obtain ⟨n, rfl⟩ : ∃ k, n = k + 1 := ⟨n - 1, by omega⟩
    refine ⟨u.2.2.2 3, ?_, fun k => by rw [if_neg (by omega)]⟩
    rw [oj_id, l_X6_keeps_51, if_pos (show (48 : Int32) ≤ zI (s : Int) by rw [zI_lit, zI_le (by omega) (by omega) (by omega) (by omega)]; omega), h6, zI_suc]
  | succ j ih =>
    intro s n u h6 hs hn
    obtain ⟨n, rfl⟩ : ∃ k, n = k + 1 := ⟨n - 1, by omega⟩
    have c48 : ((48 : Int32) ≤ zI (s : Int)) = False := by simp (maxSteps := 400000) (disch := omega) only [zI_lit, zI_neg, zI_add, zI_sub, zI_mul, zI_div, zI_tn, zI_toL, zL_lit, zL_neg, zL_add, zL_sub, zL_mul, zL_div, zL_toI, zI_ltT, zI_ltF, zI_leT, zI_leF, zI_eqT, zI_eqF, zL_ltT, zL_ltF, zL_leT, zL_leF, zL_eqT, zL_eqF, nleT, nleF, or_self, or_false, false_or, true_or, or_true, not_true_eq_false, not_false_eq_true, ↓reduceIte, Option.bind_some, Bool.false_eq_true, decide_true, decide_false]
    have z0 : (48 : Int32) * zI (c : Int) + zI (s : Int) = zI ((48 * c + s : Nat) : Int) := by rw [zI_lit, zI_mul, zI_add]; rfl
    have c1 : (zI (s : Int) < 0 ∨ 48 ≤ (zI (s : Int)).toNatClampNeg) = False := by
      rw [zI_tnN (by omega)]
      simp (maxSteps := 400000) (disch := omega) only [zI_lit, zI_neg, zI_add, zI_sub, zI_mul, zI_div, zI_tn, zI_toL, zL_lit, zL_neg, zL_add, zL_sub, zL_mul, zL_div, zL_toI, zI_ltT, zI_ltF, zI_leT, zI_leF, zI_eqT, zI_eqF, zL_ltT, zL_ltF, zL_leT, zL_leF, zL_eqT, zL_eqF, nleT, nleF, or_self, or_false, false_or, true_or, or_true, not_true_eq_false, not_false_eq_true, ↓reduceIte, Option.bind_some, Bool.false_eq_true, decide_true, decide_false]
    have c2 : (zI ((48 * c + s : Nat) : Int) < 0 ∨ 384 ≤ (zI ((48 * c + s : Nat) : Int)).toNatClampNeg) = False := by
      rw [zI_tnN (by omega)]
      simp (maxSteps := 400000) (disch := omega) only [zI_lit, zI_neg, zI_add, zI_sub, zI_mul, zI_div, zI_tn, zI_toL, zL_lit, zL_neg, zL_add, zL_sub, zL_mul, zL_div, zL_toI, zI_ltT, zI_ltF, zI_leT, zI_leF, zI_eqT, zI_eqF, zL_ltT, zL_ltF, zL_leT, zL_leF, zL_eqT, zL_eqF, nleT, nleF, or_self, or_false, false_or, true_or, or_true, not_true_eq_false, not_false_eq_true, ↓reduceIte, Option.bind_some, Bool.false_eq_true, decide_true, decide_false]
    obtain ⟨b, b1, b2⟩ := ih (s + 1) n (oj u 3 (vp_updL (u.2.2.2 3) (48 * c + s) (u.2.2.2 0 s))) h6 (by omega) (by omega)
    refine ⟨b, ?_, fun k => ?_⟩
    · rw [l_X6_keeps_51, ifF c48, h6, z0, ifF c1, ifF c2, zI_tnN (by omega), zI_tnN (by omega), zI_suc, b1, oj_oj]
    · rw [b2 k, oj_s, oj_n _ _ (by decide)]
      by_cases e : k = 48 * c + s
      · rw [if_neg (by omega), if_pos (by omega), e, vp_s, show 48 * c + s - 48 * c = s by omega]
      · rw [vp_n _ _ e]
        by_cases g : 48 * c + s ≤ k ∧ k < 48 * c + 48
        · rw [if_pos g, if_pos (by omega)]
        · rw [if_neg g, if_neg (by omega)]
theorem keeps11_l (N : Nat) : ∀ (j s n : Nat) (u : Ob), u.1 6 = zI 8 → s + j = 336 → j < n → ∃ b, l_X6_keeps_11 N n (zI s) u = l_X6_keeps_51 N N 0 (oi (oj u 3 b) 6 (zI 7)) ∧ ∀ k, b k = if s ≤ k ∧ k < 336 then u.2.2.2 3 (k + 48) else u.2.2.2 3 k := by
  intro j
  induction j with
  | zero =>
    intro s n u h6 hs hn
    obtain ⟨n, rfl⟩ : ∃ k, n = k + 1 := ⟨n - 1, by omega⟩
    refine ⟨u.2.2.2 3, ?_, fun k => by rw [if_neg (by omega)]⟩
    rw [oj_id, l_X6_keeps_11, if_pos (show (336 : Int32) ≤ zI (s : Int) by rw [zI_lit, zI_le (by omega) (by omega) (by omega) (by omega)]; omega), h6]
    rfl
  | succ j ih =>
    intro s n u h6 hs hn
    obtain ⟨n, rfl⟩ : ∃ k, n = k + 1 := ⟨n - 1, by omega⟩
    have c48 : ((336 : Int32) ≤ zI (s : Int)) = False := by simp (maxSteps := 400000) (disch := omega) only [zI_lit, zI_neg, zI_add, zI_sub, zI_mul, zI_div, zI_tn, zI_toL, zL_lit, zL_neg, zL_add, zL_sub, zL_mul, zL_div, zL_toI, zI_ltT, zI_ltF, zI_leT, zI_leF, zI_eqT, zI_eqF, zL_ltT, zL_ltF, zL_leT, zL_leF, zL_eqT, zL_eqF, nleT, nleF, or_self, or_false, false_or, true_or, or_true, not_true_eq_false, not_false_eq_true, ↓reduceIte, Option.bind_some, Bool.false_eq_true, decide_true, decide_false]
    have z0 : zI (s : Int) + 48 = zI ((s + 48 : Nat) : Int) := by rw [zI_lit, zI_add]; rfl
    have c1 : (zI (s : Int) < 0 ∨ 384 ≤ (zI (s : Int)).toNatClampNeg) = False := by
      rw [zI_tnN (by omega)]
      simp (maxSteps := 400000) (disch := omega) only [zI_lit, zI_neg, zI_add, zI_sub, zI_mul, zI_div, zI_tn, zI_toL, zL_lit, zL_neg, zL_add, zL_sub, zL_mul, zL_div, zL_toI, zI_ltT, zI_ltF, zI_leT, zI_leF, zI_eqT, zI_eqF, zL_ltT, zL_ltF, zL_leT, zL_leF, zL_eqT, zL_eqF, nleT, nleF, or_self, or_false, false_or, true_or, or_true, not_true_eq_false, not_false_eq_true, ↓reduceIte, Option.bind_some, Bool.false_eq_true, decide_true, decide_false]
    have c2 : (zI ((s + 48 : Nat) : Int) < 0 ∨ 384 ≤ (zI ((s + 48 : Nat) : Int)).toNatClampNeg) = False := by
      rw [zI_tnN (by omega)]
      simp (maxSteps := 400000) (disch := omega) only [zI_lit, zI_neg, zI_add, zI_sub, zI_mul, zI_div, zI_tn, zI_toL, zL_lit, zL_neg, zL_add, zL_sub, zL_mul, zL_div, zL_toI, zI_ltT, zI_ltF, zI_leT, zI_leF, zI_eqT, zI_eqF, zL_ltT, zL_ltF, zL_leT, zL_leF, zL_eqT, zL_eqF, nleT, nleF, or_self, or_false, false_or, true_or, or_true, not_true_eq_false, not_false_eq_true, ↓reduceIte, Option.bind_some, Bool.false_eq_true, decide_true, decide_false]
    obtain ⟨b, b1, b2⟩ := ih (s + 1) n (oj u 3 (vp_updL (u.2.2.2 3) s (u.2.2.2 3 (s + 48)))) h6 (by omega) (by omega)
    refine ⟨b, ?_, fun k => ?_⟩
    · rw [l_X6_keeps_11, ifF c48, z0, ifF c2, ifF c1, zI_tnN (by omega), zI_tnN (by omega), zI_suc, b1, oj_oj]
    · rw [b2 k, oj_s]
      by_cases e : k = s
      · rw [if_neg (by omega), if_pos (by omega), e, vp_s]
      · rw [vp_n _ _ e]
        by_cases g : s ≤ k ∧ k < 336
        · by_cases g2 : s + 1 ≤ k ∧ k < 336
          · rw [if_pos g, if_pos g2, vp_n _ _ (by omega)]
          · omega
        · rw [if_neg g, if_neg (by omega)]
theorem keeps_v {N : Nat} (hN : 700 ≤ N) {c : Nat} (hc : c ≤ 8) (u : Ob) (h6 : u.1 6 = zI c) : ∃ b, f_X6_keeps N u = some (oi (oj u 3 b) 6 (zI ((if c = 8 then 8 else c + 1 : Nat) : Int))) ∧ (∀ i k, i < (if c = 8 then 7 else c) → k < 48 → b (48 * i + k) = u.2.2.2 3 (48 * (if c = 8 then i + 1 else i) + k)) ∧ ∀ k, k < 48 → b (48 * (if c = 8 then 7 else c) + k) = u.2.2.2 0 k := by
  have e8 : (zI (c : Int) = 8) = (c = 8) := by
    rw [zI_lit, zI_eq (by omega) (by omega) (by omega) (by omega)]
    exact propext (by omega)
  by_cases g : c = 8
  · subst g
    obtain ⟨b, b1, b2⟩ := keeps11_l N 336 0 N u h6 (by omega) (by omega)
    obtain ⟨d, d1, d2⟩ := keeps51_l N (c := 7) (by omega) 48 0 N (oi (oj u 3 b) 6 (zI 7)) (oi_s _ 6 _) (by omega) (by omega)
    refine ⟨d, ?_, fun i k hi hk => ?_, fun k hk => ?_⟩
    · rw [f_X6_keeps, h6, ifP e8 rfl]
      refine (b1.trans d1).trans ?_
      show some (va_up (va_up u.1 6 (zI 7)) 6 (zI 8), u.2.1, u.2.2.1, va_up (va_up u.2.2.2 3 b) 3 d) = _
      rw [va_up_up, va_up_up]
      rfl
    · rw [if_pos rfl] at hi
      rw [d2, if_neg (by omega)]
      show (oj u 3 b).2.2.2 3 _ = _
      rw [oj_s, b2, if_pos (by omega), if_pos rfl, show 48 * i + k + 48 = 48 * (i + 1) + k by omega]
    · rw [if_pos rfl, d2, if_pos (by omega)]
      show (oj u 3 b).2.2.2 0 _ = _
      rw [oj_n _ _ (by decide), show 48 * 7 + k - 48 * 7 = k by omega]
  · obtain ⟨d, d1, d2⟩ := keeps51_l N (c := c) (by omega) 48 0 N u h6 (by omega) (by omega)
    refine ⟨d, ?_, fun i k hi hk => ?_, fun k hk => ?_⟩
    · rw [f_X6_keeps, h6, ifN e8 g, if_neg g]
      exact d1
    · rw [if_neg g] at hi
      rw [d2, if_neg (by omega), if_neg g]
    · rw [if_neg g, d2, if_pos (by omega), show 48 * c + k - 48 * c = k by omega]
