/-! the reference's end of a minute -/
def SHR (o : Nat) (j : Nat) (a b : Nat → Int64) : Prop := ∀ k, b k = if o + 2 ≤ k ∧ k < o + 2 + j then a (k - 2) else a k
theorem SHR_step {o j : Nat} {a b : Nat → Int64} (h : SHR o j (vp_updL a (o + 2 + j) (a (o + j))) b) : SHR o (j + 1) a b := by
  intro k
  rw [h k]
  by_cases g : o + 2 ≤ k ∧ k < o + 2 + j
  · rw [if_pos g, if_pos (by omega), vp_n _ _ (by omega)]
  · rw [if_neg g]
    by_cases e : k = o + 2 + j
    · rw [if_pos (by omega), e, vp_s]
      congr 1
      omega
    · rw [if_neg (by omega), vp_n _ _ e]
theorem X6_ends_l35 (N : Nat) (x1 x2 : Int32) (x3 : Int64) : ∀ (j n : Nat) (u : Ob), j ≤ 14 → j < n → ∃ b, SHR 16 j (u.2.2.2 0) b ∧ l_X6_endsMinute_35 N x1 x2 x3 n (zI (j + 1 : Nat)) u = l_X6_endsMinute_35 N x1 x2 x3 1 1 (oj u 0 b) := by
  intro j
  induction j with
  | zero =>
    intro n u hj hn
    obtain ⟨n, rfl⟩ : ∃ k, n = k + 1 := ⟨n - 1, by omega⟩
    refine ⟨u.2.2.2 0, fun k => by rw [if_neg (by omega)], ?_⟩
    rw [oj_id, show zI ((0 + 1 : Nat) : Int) = (1 : Int32) from rfl, l_X6_endsMinute_35, l_X6_endsMinute_35]
    rw [if_pos (Int32.le_refl 1), if_pos (Int32.le_refl 1)]
  | succ j ih =>
    intro n u hj hn
    obtain ⟨n, rfl⟩ : ∃ k, n = k + 1 := ⟨n - 1, by omega⟩
    have z1 : ((16 : Int32) + zI ((j + 1 + 1 : Nat) : Int)) = zI ((16 + (j + 1 + 1) : Nat) : Int) := by simp (maxSteps := 400000) (disch := omega) only [zI_lit, zI_neg, zI_add, zI_sub, zI_mul, zI_div, zI_tn, zI_toL, zL_lit, zL_neg, zL_add, zL_sub, zL_mul, zL_div, zL_toI, zI_lt, zI_le, zI_eq, zL_lt, zL_le, zL_eq]; rfl
    have z2 : ((16 : Int32) + zI ((j + 1 + 1 : Nat) : Int) - 2) = zI ((16 + j : Nat) : Int) := by
      rw [z1]
      simp (maxSteps := 400000) (disch := omega) only [zI_lit, zI_neg, zI_add, zI_sub, zI_mul, zI_div, zI_tn, zI_toL, zL_lit, zL_neg, zL_add, zL_sub, zL_mul, zL_div, zL_toI, zI_lt, zI_le, zI_eq, zL_lt, zL_le, zL_eq]
      congr 1
      omega
    have z3 : zI ((j + 1 + 1 : Nat) : Int) + -1 = zI ((j + 1 : Nat) : Int) := by
      simp (maxSteps := 400000) (disch := omega) only [zI_lit, zI_neg, zI_add, zI_sub, zI_mul, zI_div, zI_tn, zI_toL, zL_lit, zL_neg, zL_add, zL_sub, zL_mul, zL_div, zL_toI, zI_lt, zI_le, zI_eq, zL_lt, zL_le, zL_eq]
      congr 1
      omega
    have c1 : (zI ((16 + j : Nat) : Int) < 0 ∨ 48 ≤ (zI ((16 + j : Nat) : Int)).toNatClampNeg) = False := by
      rw [zI_tnN (by omega)]
      simp (maxSteps := 400000) (disch := omega) only [zI_lit, zI_neg, zI_add, zI_sub, zI_mul, zI_div, zI_tn, zI_toL, zL_lit, zL_neg, zL_add, zL_sub, zL_mul, zL_div, zL_toI, zI_ltT, zI_ltF, zI_leT, zI_leF, zI_eqT, zI_eqF, zL_ltT, zL_ltF, zL_leT, zL_leF, zL_eqT, zL_eqF, nleT, nleF, or_self, or_false, false_or, true_or, or_true, not_true_eq_false, not_false_eq_true, ↓reduceIte, Option.bind_some, Bool.false_eq_true, decide_true, decide_false]
    have c2 : (zI ((16 + (j + 1 + 1) : Nat) : Int) < 0 ∨ 48 ≤ (zI ((16 + (j + 1 + 1) : Nat) : Int)).toNatClampNeg) = False := by
      rw [zI_tnN (by omega)]
      simp (maxSteps := 400000) (disch := omega) only [zI_lit, zI_neg, zI_add, zI_sub, zI_mul, zI_div, zI_tn, zI_toL, zL_lit, zL_neg, zL_add, zL_sub, zL_mul, zL_div, zL_toI, zI_ltT, zI_ltF, zI_leT, zI_leF, zI_eqT, zI_eqF, zL_ltT, zL_ltF, zL_leT, zL_leF, zL_eqT, zL_eqF, nleT, nleF, or_self, or_false, false_or, true_or, or_true, not_true_eq_false, not_false_eq_true, ↓reduceIte, Option.bind_some, Bool.false_eq_true, decide_true, decide_false]
    have c0 : (zI ((j + 1 + 1 : Nat) : Int) ≤ 1) = False := by simp (maxSteps := 400000) (disch := omega) only [zI_lit, zI_neg, zI_add, zI_sub, zI_mul, zI_div, zI_tn, zI_toL, zL_lit, zL_neg, zL_add, zL_sub, zL_mul, zL_div, zL_toI, zI_ltT, zI_ltF, zI_leT, zI_leF, zI_eqT, zI_eqF, zL_ltT, zL_ltF, zL_leT, zL_leF, zL_eqT, zL_eqF, nleT, nleF, or_self, or_false, false_or, true_or, or_true, not_true_eq_false, not_false_eq_true, ↓reduceIte, Option.bind_some, Bool.false_eq_true, decide_true, decide_false]
    obtain ⟨b, b1, b2⟩ := ih n (oj u 0 (vp_updL (u.2.2.2 0) (16 + 2 + j) (u.2.2.2 0 (16 + j)))) (by omega) (by omega)
    rw [oj_s] at b1
    refine ⟨b, SHR_step b1, ?_⟩
    rw [l_X6_endsMinute_35, ifF c0, z2, z1, ifF c1, ifF c2, zI_tnN (by omega), zI_tnN (by omega), z3, show 16 + (j + 1 + 1) = 16 + 2 + j by omega, b2, oj_oj]
theorem X6_fixes_l (N : Nat) (x1 x3 : Int64) : ∀ (j n : Nat) (u : Ob), j ≤ 14 → j < n → ∃ b, SHR 32 j (u.2.2.2 0) b ∧ l_X6_fixes_4 N x1 x3 n (zI (j + 1 : Nat)) u = l_X6_fixes_4 N x1 x3 1 1 (oj u 0 b) := by
  intro j
  induction j with
  | zero =>
    intro n u hj hn
    obtain ⟨n, rfl⟩ : ∃ k, n = k + 1 := ⟨n - 1, by omega⟩
    refine ⟨u.2.2.2 0, fun k => by rw [if_neg (by omega)], ?_⟩
    rw [oj_id, show zI ((0 + 1 : Nat) : Int) = (1 : Int32) from rfl, l_X6_fixes_4, l_X6_fixes_4]
    rw [if_pos (Int32.le_refl 1), if_pos (Int32.le_refl 1)]
  | succ j ih =>
    intro n u hj hn
    obtain ⟨n, rfl⟩ : ∃ k, n = k + 1 := ⟨n - 1, by omega⟩
    have z1 : ((32 : Int32) + zI ((j + 1 + 1 : Nat) : Int)) = zI ((32 + (j + 1 + 1) : Nat) : Int) := by simp (maxSteps := 400000) (disch := omega) only [zI_lit, zI_neg, zI_add, zI_sub, zI_mul, zI_div, zI_tn, zI_toL, zL_lit, zL_neg, zL_add, zL_sub, zL_mul, zL_div, zL_toI, zI_lt, zI_le, zI_eq, zL_lt, zL_le, zL_eq]; rfl
    have z2 : ((32 : Int32) + zI ((j + 1 + 1 : Nat) : Int) - 2) = zI ((32 + j : Nat) : Int) := by
      rw [z1]
      simp (maxSteps := 400000) (disch := omega) only [zI_lit, zI_neg, zI_add, zI_sub, zI_mul, zI_div, zI_tn, zI_toL, zL_lit, zL_neg, zL_add, zL_sub, zL_mul, zL_div, zL_toI, zI_lt, zI_le, zI_eq, zL_lt, zL_le, zL_eq]
      congr 1
      omega
    have z3 : zI ((j + 1 + 1 : Nat) : Int) + -1 = zI ((j + 1 : Nat) : Int) := by
      simp (maxSteps := 400000) (disch := omega) only [zI_lit, zI_neg, zI_add, zI_sub, zI_mul, zI_div, zI_tn, zI_toL, zL_lit, zL_neg, zL_add, zL_sub, zL_mul, zL_div, zL_toI, zI_lt, zI_le, zI_eq, zL_lt, zL_le, zL_eq]
      congr 1
      omega
    have c1 : (zI ((32 + j : Nat) : Int) < 0 ∨ 48 ≤ (zI ((32 + j : Nat) : Int)).toNatClampNeg) = False := by
      rw [zI_tnN (by omega)]
      simp (maxSteps := 400000) (disch := omega) only [zI_lit, zI_neg, zI_add, zI_sub, zI_mul, zI_div, zI_tn, zI_toL, zL_lit, zL_neg, zL_add, zL_sub, zL_mul, zL_div, zL_toI, zI_ltT, zI_ltF, zI_leT, zI_leF, zI_eqT, zI_eqF, zL_ltT, zL_ltF, zL_leT, zL_leF, zL_eqT, zL_eqF, nleT, nleF, or_self, or_false, false_or, true_or, or_true, not_true_eq_false, not_false_eq_true, ↓reduceIte, Option.bind_some, Bool.false_eq_true, decide_true, decide_false]
    have c2 : (zI ((32 + (j + 1 + 1) : Nat) : Int) < 0 ∨ 48 ≤ (zI ((32 + (j + 1 + 1) : Nat) : Int)).toNatClampNeg) = False := by
      rw [zI_tnN (by omega)]
      simp (maxSteps := 400000) (disch := omega) only [zI_lit, zI_neg, zI_add, zI_sub, zI_mul, zI_div, zI_tn, zI_toL, zL_lit, zL_neg, zL_add, zL_sub, zL_mul, zL_div, zL_toI, zI_ltT, zI_ltF, zI_leT, zI_leF, zI_eqT, zI_eqF, zL_ltT, zL_ltF, zL_leT, zL_leF, zL_eqT, zL_eqF, nleT, nleF, or_self, or_false, false_or, true_or, or_true, not_true_eq_false, not_false_eq_true, ↓reduceIte, Option.bind_some, Bool.false_eq_true, decide_true, decide_false]
    have c0 : (zI ((j + 1 + 1 : Nat) : Int) ≤ 1) = False := by simp (maxSteps := 400000) (disch := omega) only [zI_lit, zI_neg, zI_add, zI_sub, zI_mul, zI_div, zI_tn, zI_toL, zL_lit, zL_neg, zL_add, zL_sub, zL_mul, zL_div, zL_toI, zI_ltT, zI_ltF, zI_leT, zI_leF, zI_eqT, zI_eqF, zL_ltT, zL_ltF, zL_leT, zL_leF, zL_eqT, zL_eqF, nleT, nleF, or_self, or_false, false_or, true_or, or_true, not_true_eq_false, not_false_eq_true, ↓reduceIte, Option.bind_some, Bool.false_eq_true, decide_true, decide_false]
    obtain ⟨b, b1, b2⟩ := ih n (oj u 0 (vp_updL (u.2.2.2 0) (32 + 2 + j) (u.2.2.2 0 (32 + j)))) (by omega) (by omega)
    rw [oj_s] at b1
    refine ⟨b, SHR_step b1, ?_⟩
    rw [l_X6_fixes_4, ifF c0, z2, z1, ifF c1, ifF c2, zI_tnN (by omega), zI_tnN (by omega), z3, show 32 + (j + 1 + 1) = 32 + 2 + j by omega, b2, oj_oj]
theorem X6_fixes_v {N : Nat} (hN : 700 ≤ N) (x1 x3 : Int64) {u : Ob} {X : Nat} (hX : u.2.2.2 0 13 = zL X) (hX8 : X ≤ 8) : ∃ b, f_X6_fixes N x1 x3 u = some (oj u 0 b) ∧ (∀ k, k < 32 → k ≠ 13 → b k = u.2.2.2 0 k) ∧ b 13 = zL ((if X < 8 then X + 1 else 8 : Nat) : Int) ∧ b 32 = x1 ∧ b 33 = x3 ∧ ∀ k, k < 7 → b (32 + 2 * (k + 1)) = u.2.2.2 0 (32 + 2 * k) ∧ b (33 + 2 * (k + 1)) = u.2.2.2 0 (33 + 2 * k) := by
  obtain ⟨b, b1, b2⟩ := X6_fixes_l N x1 x3 14 N u (by omega) (by omega)
  have r13 : (vp_updL (vp_updL b 32 x1) 33 x3) 13 = zL X := by
    rw [vp_n _ _ (by decide), vp_n _ _ (by decide), b1 13, if_neg (by omega)]
    exact hX
  have e1 : ((8 : Int64) ≤ zL (X : Int)) = (8 ≤ X) := by
    rw [zL_lit, zL_le (by omega) (by omega) (by omega) (by omega)]
    exact propext (by omega)
  have e2 : f_X6_fixes N x1 x3 u = some (oj u 0 (vp_updL (vp_updL (vp_updL b 32 x1) 33 x3) 13 (zL ((if X < 8 then X + 1 else 8 : Nat) : Int)))) := by
    rw [f_X6_fixes]
    refine b2.trans ?_
    rw [l_X6_fixes_4, if_pos (Int32.le_refl 1), oj_s]
    show (if (8 : Int64) ≤ (vp_updL (vp_updL b 32 x1) 33 x3) 13 then some (oj (oj (oj (oj u 0 b) 0 (vp_updL b 32 x1)) 0 (vp_updL (vp_updL b 32 x1) 33 x3)) 0 (vp_updL (vp_updL (vp_updL b 32 x1) 33 x3) 13 ((vp_updL (vp_updL b 32 x1) 33 x3) 13 + 0))) else some (oj (oj (oj (oj u 0 b) 0 (vp_updL b 32 x1)) 0 (vp_updL (vp_updL b 32 x1) 33 x3)) 0 (vp_updL (vp_updL (vp_updL b 32 x1) 33 x3) 13 ((vp_updL (vp_updL b 32 x1) 33 x3) 13 + 1)))) = _
    rw [r13, oj_oj, oj_oj, oj_oj, oj_oj, oj_oj, oj_oj]
    by_cases g : X < 8
    · rw [ifN e1 (by omega), if_pos g, zL_lit, zL_add]
      rfl
    · rw [ifP e1 (by omega), if_neg g, zL_lit, zL_add]
      congr 4
      omega
  refine ⟨_, e2, fun k k1 k2 => ?_, vp_s _ _ _, ?_, ?_, fun k hk => ⟨?_, ?_⟩⟩
  · rw [vp_n _ _ k2, vp_n _ _ (by omega), vp_n _ _ (by omega), b1 k, if_neg (by omega)]
  · rw [vp_n _ _ (by decide), vp_n _ _ (by decide), vp_s]
  · rw [vp_n _ _ (by decide), vp_s]
  · rw [vp_n _ _ (by omega), vp_n _ _ (by omega), vp_n _ _ (by omega), b1, if_pos (by omega)]
    congr 1
  · rw [vp_n _ _ (by omega), vp_n _ _ (by omega), vp_n _ _ (by omega), b1, if_pos (by omega)]
    congr 1
/-- the reference's state but for its row and what the search for a way leaves -/
def Sd (u v : Ob) : Prop := (∀ k, k ≠ 8 → v.1 k = u.1 k) ∧ (∀ k, k ≠ 19 → v.2.1 k = u.2.1 k) ∧ v.2.2.1 = u.2.2.1 ∧ ∀ k, k ≠ 0 → v.2.2.2 k = u.2.2.2 k
theorem Sd_rfl (u : Ob) : Sd u u := ⟨fun _ _ => rfl, fun _ _ => rfl, rfl, fun _ _ => rfl⟩
theorem Sd_tr {u v w : Ob} (h1 : Sd u v) (h2 : Sd v w) : Sd u w := ⟨fun k hk => (h2.1 k hk).trans (h1.1 k hk), fun k hk => (h2.2.1 k hk).trans (h1.2.1 k hk), h2.2.2.1.trans h1.2.2.1, fun k hk => (h2.2.2.2 k hk).trans (h1.2.2.2 k hk)⟩
theorem Sd_oj (u : Ob) (f : Nat → Int64) : Sd u (oj u 0 f) := ⟨fun _ _ => rfl, fun _ _ => rfl, rfl, fun k hk => oj_n u f hk⟩
theorem Sd_Sc {u v : Ob} (h : Sc u v) : Sd u v := ⟨h.1, h.2.1, congrArg Prod.fst h.2.2, fun k _ => congrFun (congrArg Prod.snd h.2.2) k⟩
/-- the row ahead of the count: the minute's bits are the latest frame -/
theorem X6_endsMinute_v {N : Nat} (hN : 700 ≤ N) {p over bit F q W X : Nat} {m : Int} {x3 : Int64} (hp : p < 61) (ho : over < 50) (hb : bit ≤ 2) (u : Ob) (h5 : u.2.2.2 0 5 = zL p) (hF : u.2.2.2 0 12 = zL F) (hW : u.2.2.2 0 2 = zL W) (hFW : F ≤ W) (hW1 : 1 ≤ W) (hW8 : W ≤ 8) (hq : u.2.2.2 0 1 = zL q) (q2 : 2 ≤ q) (q5 : q ≤ 5) (hm : u.2.2.2 0 3 = zL m) (m0 : 0 ≤ m) (m3 : m ≤ 3) (hX : u.2.2.2 0 13 = zL X) (hX8 : X ≤ 8) :
    ∃ (c d : Nat → Int64) (v : Ob), f_X6_endsMinute N (zI over) (zI bit) x3 u = some (3, v) ∧ Sd u v ∧ v.2.2.2 0 = d ∧
      (∃ o e : Int64, (∀ i, i < 64 → lb o i = (lb (u.2.2.2 0 14) i && !dB (p + 1) 59 i) ∧ lb e i = (lb (u.2.2.2 0 15) i || dB (p + 1) 59 i)) ∧ c 16 = o ∧ c 17 = e) ∧
      (∀ k, k < 7 → c (16 + 2 * (k + 1)) = u.2.2.2 0 (16 + 2 * k) ∧ c (17 + 2 * (k + 1)) = u.2.2.2 0 (17 + 2 * k)) ∧
      (∀ k, k ≠ 5 → k ≠ 8 → k ≠ 9 → k ≠ 10 → k ≠ 12 → k ≠ 13 → k ≠ 14 → k ≠ 15 → k < 16 → d k = u.2.2.2 0 k) ∧ (∀ k, k < 16 → d (16 + k) = c (16 + k)) ∧ VA c (if F < W then F + 1 else W) q m ∧
      d 12 = zL ((if F < W then F + 1 else W : Nat) : Int) ∧ d 9 = zL (toldS c (if F < W then F + 1 else W) q m) ∧ d 10 = zL (votdS c (if F < W then F + 1 else W) q m) ∧ d 5 = zL over ∧ d 8 = (if longS c (if F < W then F + 1 else W) q m = true then 61 else 60) ∧
      (∀ i, i < 64 → lb (d 14) i = decide (i = over ∧ over < 59 ∧ bit = 1) ∧ lb (d 15) i = (dB 0 over i || decide (i = over ∧ over < 59 ∧ bit = 2))) ∧
      (toldS c (if F < W then F + 1 else W) q m = -1 → d 13 = zL X ∧ ∀ k, k < 16 → d (32 + k) = u.2.2.2 0 (32 + k)) ∧
      (toldS c (if F < W then F + 1 else W) q m ≠ -1 → d 13 = zL ((if X < 8 then X + 1 else 8 : Nat) : Int) ∧ d 32 = zL (toldS c (if F < W then F + 1 else W) q m + 1) ∧ d 33 = x3 - 1000 * zL over ∧ ∀ k, k < 7 → d (32 + 2 * (k + 1)) = u.2.2.2 0 (32 + 2 * k) ∧ d (33 + 2 * (k + 1)) = u.2.2.2 0 (33 + 2 * k)) := by
  have t5 : (u.2.2.2 0 ((5 : Int32).toNatClampNeg)).toInt32 + 1 = zI ((p + 1 : Nat) : Int) := by
    rw [show (5 : Int32).toNatClampNeg = 5 from rfl, h5, zL_toI, zI_suc]
  obtain ⟨b, b1, b2⟩ : ∃ b, LAY (p + 1) 59 (u.2.2.2 0) b ∧ l_X6_endsMinute_11 N (zI over) (zI bit) x3 N (zI ((p + 1 : Nat) : Int)) u = l_X6_endsMinute_35 N (zI over) (zI bit) x3 N 15 (oj u 0 b) := by
    by_cases g : p + 1 ≤ 59
    · exact X6_ends_l11 N (zI over) (zI bit) x3 (59 - (p + 1)) (p + 1) N u (by omega) (by omega)
    · refine ⟨u.2.2.2 0, ⟨fun _ _ _ => rfl, fun i hi => ?_⟩, ?_⟩
      · have e : dB (p + 1) 59 i = false := decide_eq_false (by omega)
        rw [e]
        simp
      · obtain ⟨n, rfl⟩ : ∃ k, N = k + 1 := ⟨N - 1, by omega⟩
        rw [oj_id, l_X6_endsMinute_11, if_pos (show (59 : Int32) ≤ zI ((p + 1 : Nat) : Int) by rw [zI_lit, zI_le (by omega) (by omega) (by omega) (by omega)]; omega)]
  obtain ⟨s, s1, s2⟩ := X6_ends_l35 N (zI over) (zI bit) x3 14 N (oj u 0 b) (by omega) (by omega)
  rw [oj_s] at s1
  have sl : ∀ k, k < 18 → s k = b k := fun k hk => by rw [s1 k, if_neg (by omega)]
  have bl : ∀ k, k ≠ 14 → k ≠ 15 → b k = u.2.2.2 0 k := b1.1
  generalize hR : vp_updL (vp_updL s 16 (s 14)) 17 ((vp_updL s 16 (s 14)) 15) = R
  have R15 : ∀ k, k < 16 → R k = s k := fun k hk => by rw [← hR, vp_n _ _ (by omega), vp_n _ _ (by omega)]
  have R2 : R 2 = zL W := by rw [R15 2 (by decide), sl 2 (by decide), bl 2 (by decide) (by decide)]; exact hW
  have R12 : R 12 = zL F := by rw [R15 12 (by decide), sl 12 (by decide), bl 12 (by decide) (by decide)]; exact hF
  have e1 : (zL (W : Int) ≤ zL (F : Int)) = (W ≤ F) := by
    rw [zL_le (by omega) (by omega) (by omega) (by omega)]
    exact propext (by omega)
  generalize hF' : (if F < W then F + 1 else W) = F'
  have F'8 : F' ≤ 8 := by rw [← hF']; split <;> omega
  have hR12 : (if R 2 ≤ R 12 then R 2 else R 12 + 1) = zL (F' : Int) := by
    rw [R2, R12, ← hF']
    by_cases g : F < W
    · rw [ifN e1 (by omega), if_pos g, zL_lit, zL_add]
      rfl
    · rw [ifP e1 (by omega), if_neg g]
  have ec : f_X6_endsMinute N (zI over) (zI bit) x3 u = ((f_X6_countsVotes N (oj u 0 (vp_updL R 12 (zL (F' : Int))))).bind fun q4 => (if q4.2.2.2.2 0 9 = -1 then (if q4.1 = true then ((f_X6_beginsMinute N (zI over) (zI bit) 61 q4.2).bind fun q10 => some (3, q10)) else ((f_X6_beginsMinute N (zI over) (zI bit) 60 q4.2).bind fun q8 => some (3, q8))) else ((f_X6_fixes N (q4.2.2.2.2 0 9 + 1) (x3 - (1000 * (zI (over : Int)).toInt64)) q4.2).bind fun q12 => (if q4.1 = true then ((f_X6_beginsMinute N (zI over) (zI bit) 61 q12).bind fun q17 => some (3, q17)) else ((f_X6_beginsMinute N (zI over) (zI bit) 60 q12).bind fun q15 => some (3, q15)))))) := by
    rw [f_X6_endsMinute, t5, b2]
    refine s2.trans ?_
    rw [l_X6_endsMinute_35, if_pos (Int32.le_refl 1), oj_s]
    show (if (vp_updL (vp_updL s 16 (s 14)) 17 ((vp_updL s 16 (s 14)) 15)) 2 ≤ (vp_updL (vp_updL s 16 (s 14)) 17 ((vp_updL s 16 (s 14)) 15)) 12 then ((f_X6_countsVotes N (oj (oj (oj (oj (oj u 0 b) 0 s) 0 (vp_updL s 16 (s 14))) 0 (vp_updL (vp_updL s 16 (s 14)) 17 ((vp_updL s 16 (s 14)) 15))) 0 (vp_updL (vp_updL (vp_updL s 16 (s 14)) 17 ((vp_updL s 16 (s 14)) 15)) 12 ((vp_updL (vp_updL s 16 (s 14)) 17 ((vp_updL s 16 (s 14)) 15)) 2)))).bind _) else ((f_X6_countsVotes N (oj (oj (oj (oj (oj u 0 b) 0 s) 0 (vp_updL s 16 (s 14))) 0 (vp_updL (vp_updL s 16 (s 14)) 17 ((vp_updL s 16 (s 14)) 15))) 0 (vp_updL (vp_updL (vp_updL s 16 (s 14)) 17 ((vp_updL s 16 (s 14)) 15)) 12 ((vp_updL (vp_updL s 16 (s 14)) 17 ((vp_updL s 16 (s 14)) 15)) 12 + 1)))).bind _)) = _
    rw [hR, oj_oj, oj_oj, oj_oj, oj_oj, oj_oj, oj_oj, oj_oj, oj_oj]
    by_cases g : R 2 ≤ R 12
    · rw [if_pos g] at hR12 ⊢
      rw [hR12]
      rfl
    · rw [if_neg g] at hR12 ⊢
      rw [hR12]
      rfl
  generalize hc : vp_updL R 12 (zL (F' : Int)) = c at ec
  have cl : ∀ k, k ≠ 12 → k < 16 → c k = b k := fun k k1 k2 => by rw [← hc, vp_n _ _ k1, R15 k k2, sl k (by omega)]
  have c12 : c 12 = zL F' := by rw [← hc, vp_s]
  have hVA : VA c F' q m := ⟨c12, F'8, by rw [cl 1 (by decide) (by decide), bl 1 (by decide) (by decide)]; exact hq, q2, q5, by rw [cl 3 (by decide) (by decide), bl 3 (by decide) (by decide)]; exact hm, m0, m3⟩
  have c16 : c 16 = b 14 := by
    rw [← hc, vp_n _ _ (by decide), ← hR, vp_n _ _ (by decide), vp_s, sl 14 (by decide)]
  have c17 : c 17 = b 15 := by
    rw [← hc, vp_n _ _ (by decide), ← hR, vp_s, vp_n _ _ (by decide), sl 15 (by decide)]
  have ch : ∀ k, k < 14 → c (18 + k) = u.2.2.2 0 (16 + k) := by
    intro k hk
    rw [← hc, vp_n _ _ (by omega), ← hR, vp_n _ _ (by omega), vp_n _ _ (by omega), s1, if_pos (by omega), show 18 + k - 2 = 16 + k by omega, bl _ (by omega) (by omega)]
  have chh : ∀ k, k < 16 → c (32 + k) = u.2.2.2 0 (32 + k) := by
    intro k hk
    rw [← hc, vp_n _ _ (by omega), ← hR, vp_n _ _ (by omega), vp_n _ _ (by omega), s1, if_neg (by omega), bl _ (by omega) (by omega)]
  obtain ⟨v, r, v1, v2, v3, v4, v5⟩ := X6_countsVotes_v hN hVA (oj u 0 c) (oj_s u 0 c)
  have tr := winN_rng c F'8 q m
  have hzo : (zI (over : Int)).toInt64 = zL over := zI_toL (by omega) (by omega)
  have hSd : Sd u v := Sd_tr (Sd_oj u c) (Sd_Sc v2)
  -- what follows, from the row r2 behind the fixes
  have fin : ∀ (r2 : Nat → Int64), (∀ k, k < 32 → k ≠ 13 → r2 k = r k) → ∃ d, (if longS c F' q m = true then ((f_X6_beginsMinute N (zI over) (zI bit) 61 (oj v 0 r2)).bind fun q17 => some ((3 : Int32), q17)) else ((f_X6_beginsMinute N (zI over) (zI bit) 60 (oj v 0 r2)).bind fun q15 => some (3, q15))) = some (3, oj v 0 d) ∧ (∀ k, k ≠ 5 → k ≠ 8 → k ≠ 14 → k ≠ 15 → d k = r2 k) ∧ d 5 = zL over ∧ d 8 = (if longS c F' q m = true then 61 else 60) ∧ ∀ i, i < 64 → lb (d 14) i = decide (i = over ∧ over < 59 ∧ bit = 1) ∧ lb (d 15) i = (dB 0 over i || decide (i = over ∧ over < 59 ∧ bit = 2)) := by
    intro r2 hr2
    by_cases g : longS c F' q m = true
    · obtain ⟨d, d1, d2, d3, d4, d5⟩ := X6_beginsMinute_v hN (q := over) (by omega) hb 61 (oj v 0 r2)
      rw [oj_s] at d2
      rw [oj_oj] at d1
      refine ⟨d, ?_, d2, d3, by rw [d4, if_pos g], d5⟩
      rw [if_pos g, d1]
      rfl
    · obtain ⟨d, d1, d2, d3, d4, d5⟩ := X6_beginsMinute_v hN (q := over) (by omega) hb 60 (oj v 0 r2)
      rw [oj_s] at d2
      rw [oj_oj] at d1
      refine ⟨d, ?_, d2, d3, by rw [d4, if_neg g], d5⟩
      rw [if_neg g, d1]
      rfl
  have low : ∀ (r2 d : Nat → Int64), (∀ k, k < 32 → k ≠ 13 → r2 k = r k) → (∀ k, k ≠ 5 → k ≠ 8 → k ≠ 14 → k ≠ 15 → d k = r2 k) → (∀ k, k ≠ 5 → k ≠ 8 → k ≠ 9 → k ≠ 10 → k ≠ 12 → k ≠ 13 → k ≠ 14 → k ≠ 15 → k < 16 → d k = u.2.2.2 0 k) ∧ (∀ k, k < 16 → d (16 + k) = c (16 + k)) ∧ d 12 = zL (F' : Int) ∧ d 9 = zL (toldS c F' q m) ∧ d 10 = zL (votdS c F' q m) := by
    intro r2 d h1 h2
    refine ⟨fun k k5 k8 k9 k10 k12 k13 k14 k15 k16 => ?_, fun k hk => ?_, ?_, ?_, ?_⟩
    · rw [h2 k k5 k8 k14 k15, h1 k (by omega) k13, v3 k k9 k10, cl k k12 k16, bl k k14 k15]
    · rw [h2 _ (by omega) (by omega) (by omega) (by omega), h1 _ (by omega) (by omega), v3 _ (by omega) (by omega)]
    · rw [h2 12 (by decide) (by decide) (by decide) (by decide), h1 12 (by decide) (by decide), v3 12 (by decide) (by decide), c12]
    · rw [h2 9 (by decide) (by decide) (by decide) (by decide), h1 9 (by decide) (by decide), v4]
    · rw [h2 10 (by decide) (by decide) (by decide) (by decide), h1 10 (by decide) (by decide), v5]
  have fr : (∃ o e : Int64, (∀ i, i < 64 → lb o i = (lb (u.2.2.2 0 14) i && !dB (p + 1) 59 i) ∧ lb e i = (lb (u.2.2.2 0 15) i || dB (p + 1) 59 i)) ∧ c 16 = o ∧ c 17 = e) ∧ (∀ k, k < 7 → c (16 + 2 * (k + 1)) = u.2.2.2 0 (16 + 2 * k) ∧ c (17 + 2 * (k + 1)) = u.2.2.2 0 (17 + 2 * k)) := by
    refine ⟨⟨b 14, b 15, fun i hi => b1.2 i hi, c16, c17⟩, fun k hk => ⟨?_, ?_⟩⟩
    · rw [show 16 + 2 * (k + 1) = 18 + 2 * k by omega, ch _ (by omega)]
    · rw [show 17 + 2 * (k + 1) = 18 + (2 * k + 1) by omega, ch _ (by omega), show 16 + (2 * k + 1) = 17 + 2 * k by omega]
  have r13 : r 13 = zL X := by rw [v3 13 (by decide) (by decide), cl 13 (by decide) (by decide), bl 13 (by decide) (by decide)]; exact hX
  have rh : ∀ k, k < 16 → r (32 + k) = u.2.2.2 0 (32 + k) := fun k hk => by rw [v3 _ (by omega) (by omega), chh k hk]
  rw [v1, Option.bind_some] at ec
  have er : (oj v 0 r).2.2.2 0 9 = zL (toldS c F' q m) := by rw [oj_s]; exact v4
  by_cases g : toldS c F' q m = -1
  · obtain ⟨d, d1, d2, d3, d4, d5⟩ := fin r (fun _ _ _ => rfl)
    obtain ⟨l1, l2, l3, l4, l5⟩ := low r d (fun _ _ _ => rfl) d2
    refine ⟨c, d, oj v 0 d, ?_, Sd_tr hSd (Sd_oj v d), oj_s v 0 d, fr.1, fr.2, l1, l2, hVA, l3, l4, l5, d3, d4, d5, fun _ => ⟨?_, fun k hk => ?_⟩, fun h => absurd g h⟩
    · rw [ec]
      show (if (oj v 0 r).2.2.2 0 9 = -1 then _ else _) = _
      rw [er, ifP (zL_m1 (by omega) (by omega)) g]
      exact d1
    · rw [d2 13 (by decide) (by decide) (by decide) (by decide)]
      exact r13
    · rw [d2 _ (by omega) (by omega) (by omega) (by omega)]
      exact rh k hk
  · obtain ⟨f, f1, f2, f3, f4, f5, f6⟩ := X6_fixes_v hN (zL (toldS c F' q m) + 1) (x3 - 1000 * zL over) (u := oj v 0 r) (X := X) (by rw [oj_s]; exact r13) hX8
    rw [oj_s] at f2 f6
    rw [oj_oj] at f1
    obtain ⟨d, d1, d2, d3, d4, d5⟩ := fin f f2
    obtain ⟨l1, l2, l3, l4, l5⟩ := low f d f2 d2
    refine ⟨c, d, oj v 0 d, ?_, Sd_tr hSd (Sd_oj v d), oj_s v 0 d, fr.1, fr.2, l1, l2, hVA, l3, l4, l5, d3, d4, d5, fun h => absurd h g, fun _ => ⟨?_, ?_, ?_, fun k hk => ⟨?_, ?_⟩⟩⟩
    · rw [ec]
      show (if (oj v 0 r).2.2.2 0 9 = -1 then _ else ((f_X6_fixes N ((oj v 0 r).2.2.2 0 9 + 1) (x3 - 1000 * (zI (over : Int)).toInt64) (oj v 0 r)).bind _)) = _
      rw [er, ifN (zL_m1 (by omega) (by omega)) g, hzo, f1]
      exact d1
    · rw [d2 13 (by decide) (by decide) (by decide) (by decide)]
      exact f3
    · rw [d2 32 (by decide) (by decide) (by decide) (by decide), f4, zL_lit, zL_add]
    · rw [d2 33 (by decide) (by decide) (by decide) (by decide)]
      exact f5
    · rw [d2 _ (by omega) (by omega) (by omega) (by omega), (f6 k hk).1, show 32 + 2 * k = 32 + (2 * k) from rfl, rh _ (by omega)]
    · rw [d2 _ (by omega) (by omega) (by omega) (by omega), (f6 k hk).2, show 33 + 2 * k = 32 + (2 * k + 1) by omega, rh _ (by omega)]
