/-! the class's votes -/
def memS (o d : Int64) : Int := if cb (gM d) 0 59 ≤ 3 then minS o (gM d) else -1
def FrC (u : Ob) (a : Nat → Int64) (F : Nat) : Prop := u.1 11 = zI F ∧ F ≤ 8 ∧ ∀ k, k < F → u.2.2.2 8 k = a (16 + 2 * k) ∧ u.2.2.2 9 k = a (17 + 2 * k) ∧ u.2.2.1 10 k = zI (memS (a (16 + 2 * k)) (a (17 + 2 * k)))
theorem memS_rng (o d : Int64) : -1 ≤ memS o d ∧ memS o d < 52596000 := by
  have := minS_rng o (gM d)
  unfold memS
  split <;> omega
theorem zI_tnN {k : Nat} (h : k < 2147483648) : (zI (k : Int)).toNatClampNeg = k := by
  rw [zI_tn (by omega) (by omega)]; omega
theorem X4_told_v (N : Nat) {u : Ob} {a : Nat → Int64} {F : Nat} {m : Int} (hF : FrC u a F) (hm : u.2.2.1 0 3 = zI m) (m0 : 0 ≤ m) (m3 : m ≤ 3) {k : Nat} (hk : k < F) : f_X4_minuteToldBy N (zI k) u = some (zI (tellS (a (16 + 2 * k)) (a (17 + 2 * k)) m)) := by
  obtain ⟨f1, f2, f3⟩ := hF
  obtain ⟨g1, g2, g3⟩ := f3 k hk
  have e1 : (zI (k : Int) < 0 ∨ 8 ≤ (zI (k : Int)).toNatClampNeg) = False := by
    rw [zI_tnN (by omega)]
    simp (maxSteps := 400000) (disch := omega) only [zI_lit, zI_neg, zI_add, zI_sub, zI_mul, zI_div, zI_tn, zI_toL, zL_lit, zL_neg, zL_add, zL_sub, zL_mul, zL_div, zL_toI, zI_ltT, zI_ltF, zI_leT, zI_leF, zI_eqT, zI_eqF, zL_ltT, zL_ltF, zL_leT, zL_leF, zL_eqT, zL_eqF, nleT, nleF, or_self, or_false, false_or, true_or, or_true, not_true_eq_false, not_false_eq_true, ↓reduceIte, Option.bind_some, Bool.false_eq_true, decide_true, decide_false]
  have hb : f_J13_bitCount_95d88 N (a (17 + 2 * k) &&& 576460752302899201) = some (zI (cb (gM (a (17 + 2 * k))) 0 59)) := by rw [← gM_cb]; exact bitCount_v N _
  have hl := cb_le (gM (a (17 + 2 * k))) 59 0
  rw [f_X4_minuteToldBy, ifF e1, ifF e1, zI_tnN (by omega), g2, hb, Option.bind_some, show (3 : Int32).toNatClampNeg = 3 from rfl, hm, g3]
  unfold tellS memS
  by_cases g : (cb (gM (a (17 + 2 * k))) 0 59 : Int) ≤ m
  · rw [if_pos (show zI _ ≤ zI m by rw [zI_le (by omega) (by omega) (by omega) (by omega)]; exact g), if_pos (show cb (gM (a (17 + 2 * k))) 0 59 ≤ 3 by omega), if_pos g]
  · rw [if_neg (show ¬ zI _ ≤ zI m by rw [zI_le (by omega) (by omega) (by omega) (by omega)]; exact g), if_neg g]
    rfl
theorem X4_voteOf_v (N : Nat) {u : Ob} {a : Nat → Int64} {F : Nat} {m : Int} (hF : FrC u a F) (hm : u.2.2.1 0 3 = zI m) (m0 : 0 ≤ m) (m3 : m ≤ 3) {k : Nat} (hk : k < F) : f_X4_voteOf N (zI k) u = some (zI (voW a m k)) := by
  have r := tellS_rng (a (16 + 2 * k)) (a (17 + 2 * k)) m
  have F8 := hF.2.1
  rw [f_X4_voteOf, X4_told_v N hF hm m0 m3 hk, Option.bind_some]
  unfold voW voteS
  by_cases e : tellS (a (16 + 2 * k)) (a (17 + 2 * k)) m = -1
  · rw [if_pos e, ifP (zI_m1 (by omega) (by omega)) e]
    rfl
  · rw [if_neg e, ifN (zI_m1 (by omega) (by omega)) e, zI_add]
theorem FrC_le {u : Ob} {a : Nat → Int64} {F : Nat} (hF : FrC u a F) (k : Nat) (hk : k < 100) : (u.1 11 ≤ zI (k : Int)) = (F ≤ k) := by
  have F8 := hF.2.1
  rw [hF.1, zI_le (by omega) (by omega) (by omega) (by omega)]
  exact propext (by omega)
theorem X4_castVotes_l {N : Nat} {u : Ob} {a : Nat → Int64} {F : Nat} {m : Int} (hF : FrC u a F) (hm : u.2.2.1 0 3 = zI m) (m0 : 0 ≤ m) (m3 : m ≤ 3) : ∀ (j k n T : Nat) (b : Ob), k + j = F → j < n → T ≤ k → BalN b (cnV (voW a m) k) T →
    ∃ b' T', l_X4_castVotes_9 N n (zI k) u b = some (u, b') ∧ BalN b' (cnV (voW a m) F) T' := by
  have F8 := hF.2.1
  intro j
  induction j with
  | zero =>
    intro k n T b hk hn hT hB
    obtain ⟨n, rfl⟩ : ∃ k, n = k + 1 := ⟨n - 1, by omega⟩
    have : k = F := by omega
    subst this
    refine ⟨b, T, ?_, hB⟩
    rw [l_X4_castVotes_9, ifP (FrC_le hF k (by omega)) (Nat.le_refl _)]
  | succ j ih =>
    intro k n T b hk hn hT hB
    obtain ⟨n, rfl⟩ : ∃ k, n = k + 1 := ⟨n - 1, by omega⟩
    have vr := voW_rng a m (k := k) (by omega)
    obtain ⟨b2, T2, c1, c2, c3⟩ := X0_cast_v N hB (by omega) (v := voW a m k) (by omega) (by omega)
    obtain ⟨b3, T3, d1, d2⟩ := ih (k + 1) n T2 b2 (by omega) (by omega) (by omega) c2
    refine ⟨b3, T3, ?_, d2⟩
    rw [l_X4_castVotes_9, ifN (FrC_le hF k (by omega)) (by omega), X4_voteOf_v N hF hm m0 m3 (by omega), Option.bind_some, c1, Option.bind_some, zI_suc]
    exact d1
theorem X4_castVotes_v {N : Nat} (hN : 700 ≤ N) {u : Ob} {a : Nat → Int64} {F : Nat} {m : Int} (hF : FrC u a F) (hm : u.2.2.1 0 3 = zI m) (m0 : 0 ≤ m) (m3 : m ≤ 3) (b : Ob) :
    ∃ b' T, f_X4_castVotes N u b = some (u, b') ∧ BalN b' (cnV (voW a m) F) T := by
  have F8 := hF.2.1
  obtain ⟨b1, h1, h2⟩ := X0_open_v N b
  obtain ⟨b2, T, h3, h4⟩ := X4_castVotes_l (N := N) hF hm m0 m3 F 0 N 0 b1 (by omega) (by omega) (by omega) h2
  refine ⟨b2, T, ?_, h4⟩
  rw [f_X4_castVotes, h1, Option.bind_some]
  exact h3
/-- what a fix that is kept changes -/
def FxC (u v : Ob) (x t : Int32) : Prop := (∀ k, k ≠ 16 → v.1 k = u.1 k) ∧ v.2.1 = u.2.1 ∧ v.2.2.2 = u.2.2.2 ∧ (∀ k, k ≠ 14 → k ≠ 15 → v.2.2.1 k = u.2.2.1 k) ∧ v.2.2.1 14 0 = x ∧ v.2.2.1 15 0 = t ∧ ∀ k, k < 7 → v.2.2.1 14 (k + 1) = u.2.2.1 14 k ∧ v.2.2.1 15 (k + 1) = u.2.2.1 15 k
theorem cpy_s {α : Type} (f g : Nat → α) (k : Nat) (h : k < 7) : va_cpy f g 0 1 7 (k + 1) = f k := by
  unfold va_cpy
  rw [if_pos (by omega)]
  congr 1
  omega
theorem up4_14 {α : Type} (f : Nat → α) (A B C D : α) : va_up (va_up (va_up (va_up f 14 A) 15 B) 14 C) 15 D 14 = C := by
  rw [va_up_ne _ _ (by decide), va_up_self]
theorem up4_15 {α : Type} (f : Nat → α) (A B C D : α) : va_up (va_up (va_up (va_up f 14 A) 15 B) 14 C) 15 D 15 = D := va_up_self _ _ _
theorem up4_n {α : Type} (f : Nat → α) (A B C D : α) {k : Nat} (h1 : k ≠ 14) (h2 : k ≠ 15) : va_up (va_up (va_up (va_up f 14 A) 15 B) 14 C) 15 D k = f k := by
  rw [va_up_ne _ _ h2, va_up_ne _ _ h1, va_up_ne _ _ h2, va_up_ne _ _ h1]
theorem cpu_s (f : Nat → Int32) (x : Int32) (k : Nat) (h : k < 7) : upd (va_cpy f f 0 1 7) 0 x (k + 1) = f k := by
  unfold upd
  rw [if_neg (by omega)]
  exact cpy_s f f k h
def kfR (u : Ob) (x t : Int32) : Nat → Nat → Int32 := va_up (va_up (va_up (va_up u.2.2.1 14 (va_cpy (u.2.2.1 14) (u.2.2.1 14) 0 1 7)) 15 (va_cpy (u.2.2.1 15) (u.2.2.1 15) 0 1 7)) 14 (upd (va_cpy (u.2.2.1 14) (u.2.2.1 14) 0 1 7) 0 x)) 15 (upd (va_cpy (u.2.2.1 15) (u.2.2.1 15) 0 1 7) 0 t)
theorem X4_keepFix_v (N : Nat) (x t : Int32) {u : Ob} {X : Nat} (hX : u.1 16 = zI X) (hX8 : X ≤ 8) : ∃ v, f_X4_keepFix N x t u = some v ∧ FxC u v x t ∧ v.1 16 = zI ((if X < 8 then X + 1 else 8 : Nat) : Int) := by
  have hf : f_X4_keepFix N x t u = some (va_up u.1 16 (if 8 < u.1 16 + 1 then 8 else u.1 16 + 1), u.2.1, kfR u x t, u.2.2.2) := rfl
  refine ⟨_, hf, ⟨fun k hk => va_up_ne _ _ hk, rfl, rfl, fun k h1 h2 => up4_n _ _ _ _ _ h1 h2, ?_, ?_, fun k hk => ⟨?_, ?_⟩⟩, ?_⟩
  · show kfR u x t 14 0 = x
    unfold kfR
    rw [up4_14]
    rfl
  · show kfR u x t 15 0 = t
    unfold kfR
    rw [up4_15]
    rfl
  · show kfR u x t 14 (k + 1) = _
    unfold kfR
    rw [up4_14]
    exact cpu_s _ _ k hk
  · show kfR u x t 15 (k + 1) = _
    unfold kfR
    rw [up4_15]
    exact cpu_s _ _ k hk
  · show va_up u.1 16 (if 8 < u.1 16 + 1 then 8 else u.1 16 + 1) 16 = _
    rw [va_up_self, hX, zI_suc]
    by_cases g : X < 8
    · rw [if_pos g, if_neg (show ¬ (8 : Int32) < zI ((X + 1 : Nat) : Int) by rw [zI_lit, zI_lt (by omega) (by omega) (by omega) (by omega)]; omega)]
    · rw [if_neg g, if_pos (show (8 : Int32) < zI ((X + 1 : Nat) : Int) by rw [zI_lit, zI_lt (by omega) (by omega) (by omega) (by omega)]; omega)]
      rfl
theorem X4_cv_l54 {N : Nat} {u : Ob} {a : Nat → Int64} {F : Nat} {m t vd mark pos : Int} (hF : FrC u a F) (hm : u.2.2.1 0 3 = zI m) (m0 : 0 ≤ m) (m3 : m ≤ 3) (ht : u.1 12 = zI t) (t0 : 0 ≤ t) (t1 : t < 60000000) (hv : u.1 13 = zI vd) (v0 : 0 ≤ vd) (v1 : vd ≤ 8) (hk2 : u.1 2 = zI mark) (hp : u.1 4 = zI pos) {X : Nat} (hX : u.1 16 = zI X) (hX8 : X ≤ 8) (b : Ob) :
    ∀ (j k n : Nat), k + j = F → j < n → ∃ v, l_X4_countVotes_54 N n (zI (lpN a m t k)) (zI k) u b = some (v, b) ∧ FxC (if (t + 1) % 60 = 59 ∧ vd ≤ 2 * lpN a m t F then oi u 5 61 else u) v (zI (t + 1)) (zI (mark - 1000 * pos)) ∧ v.1 16 = zI ((if X < 8 then X + 1 else 8 : Nat) : Int) := by
  have F8 := hF.2.1
  intro j
  induction j with
  | zero =>
    intro k n hk hn
    obtain ⟨n, rfl⟩ : ∃ k, n = k + 1 := ⟨n - 1, by omega⟩
    have : k = F := by omega
    subst this
    have lr := lpN_le a m t k
    have e1 : (zI t + 1 - (zI t + 1) / 60 * 60 = 59) = ((t + 1) % 60 = 59) := by
      simp (maxSteps := 400000) (disch := omega) only [zI_lit, zI_neg, zI_add, zI_sub, zI_mul, zI_div, zI_tn, zI_toL, zL_lit, zL_neg, zL_add, zL_sub, zL_mul, zL_div, zL_toI, zI_lt, zI_le, zI_eq, zL_lt, zL_le, zL_eq]
      exact propext (by omega)
    have e2 : zI t + 1 = zI (t + 1) := by simp (maxSteps := 400000) (disch := omega) only [zI_lit, zI_neg, zI_add, zI_sub, zI_mul, zI_div, zI_tn, zI_toL, zL_lit, zL_neg, zL_add, zL_sub, zL_mul, zL_div, zL_toI, zI_lt, zI_le, zI_eq, zL_lt, zL_le, zL_eq]
    have e3 : zI mark - 1000 * zI pos = zI (mark - 1000 * pos) := by simp (maxSteps := 400000) (disch := omega) only [zI_lit, zI_neg, zI_add, zI_sub, zI_mul, zI_div, zI_tn, zI_toL, zL_lit, zL_neg, zL_add, zL_sub, zL_mul, zL_div, zL_toI, zI_lt, zI_le, zI_eq, zL_lt, zL_le, zL_eq]
    have e4 : ((2 : Int32) * zI (lpN a m t k) < zI vd) = ¬ (vd ≤ 2 * lpN a m t k) := by
      simp (maxSteps := 400000) (disch := omega) only [zI_lit, zI_neg, zI_add, zI_sub, zI_mul, zI_div, zI_tn, zI_toL, zL_lit, zL_neg, zL_add, zL_sub, zL_mul, zL_div, zL_toI, zI_lt, zI_le, zI_eq, zL_lt, zL_le, zL_eq]
      exact propext (by omega)
    rw [l_X4_countVotes_54, ifP (FrC_le hF k (by omega)) (Nat.le_refl _), ht, hv, hk2, hp, e3]
    by_cases g1 : (t + 1) % 60 = 59
    · rw [ifP e1 g1]
      by_cases g2 : vd ≤ 2 * lpN a m t k
      · obtain ⟨v, w1, w2, w3⟩ := X4_keepFix_v N (zI (t + 1)) (zI (mark - 1000 * pos)) (u := oi u 5 61) (X := X) ((oi_n u _ (by decide)).trans hX) hX8
        refine ⟨v, ?_, ?_, w3⟩
        · rw [ifN e4 (fun z => z g2), e2, w1]
          rfl
        · rw [if_pos ⟨g1, g2⟩]
          exact w2
      · obtain ⟨v, w1, w2, w3⟩ := X4_keepFix_v N (zI (t + 1)) (zI (mark - 1000 * pos)) hX hX8
        refine ⟨v, ?_, ?_, w3⟩
        · rw [ifP e4 g2, e2, w1]
          rfl
        · rw [if_neg (fun z => g2 z.2)]
          exact w2
    · rw [ifN e1 g1]
      obtain ⟨v, w1, w2, w3⟩ := X4_keepFix_v N (zI (t + 1)) (zI (mark - 1000 * pos)) hX hX8
      refine ⟨v, ?_, ?_, w3⟩
      · rw [e2, w1]
        rfl
      · rw [if_neg (fun z => g1 z.1)]
        exact w2
  | succ j ih =>
    intro k n hk hn
    obtain ⟨n, rfl⟩ : ∃ k, n = k + 1 := ⟨n - 1, by omega⟩
    obtain ⟨v, w1, w2⟩ := ih (k + 1) n (by omega) (by omega)
    refine ⟨v, ?_, w2⟩
    have vr := voW_rng a m (k := k) (by omega)
    have e1 : (zI (k : Int) < 0 ∨ 8 ≤ (zI (k : Int)).toNatClampNeg) = False := by
      rw [zI_tnN (by omega)]
      simp (maxSteps := 400000) (disch := omega) only [zI_lit, zI_neg, zI_add, zI_sub, zI_mul, zI_div, zI_tn, zI_toL, zL_lit, zL_neg, zL_add, zL_sub, zL_mul, zL_div, zL_toI, zI_ltT, zI_ltF, zI_leT, zI_leF, zI_eqT, zI_eqF, zL_ltT, zL_ltF, zL_leT, zL_leF, zL_eqT, zL_eqF, nleT, nleF, or_self, or_false, false_or, true_or, or_true, not_true_eq_false, not_false_eq_true, ↓reduceIte, Option.bind_some, Bool.false_eq_true, decide_true, decide_false]
    have g1 := (hF.2.2 k (by omega)).1
    have e5 : ((jushr (a (16 + 2 * k)) 19) &&& (1 : Int64) = 0) = (lb (a (16 + 2 * k)) 19 = false) := jb_0 _ (n := 19) (by decide)
    rw [l_X4_countVotes_54, ifN (FrC_le hF k (by omega)) (by omega), X4_voteOf_v N hF hm m0 m3 (by omega), Option.bind_some, ht, ifF e1, zI_tnN (by omega), g1, zI_suc k, zI_suc (lpN a m t k)]
    rw [lpN] at w1
    by_cases e : voW a m k = t
    · rw [if_pos (show zI (voW a m k) = zI t by rw [e])]
      cases hb : lb (a (16 + 2 * k)) 19
      · rw [hb, if_neg (by simp), Nat.add_zero] at w1
        rw [ifP e5 hb]
        exact w1
      · rw [hb, if_pos ⟨e, rfl⟩] at w1
        rw [ifN e5 (by rw [hb]; decide)]
        exact w1
    · rw [if_neg (fun z => e z.1), Nat.add_zero] at w1
      rw [ifN (zI_eq (by omega) (by omega) (by omega) (by omega)) e]
      exact w1
theorem FrC_up {u v : Ob} {a : Nat → Int64} {F : Nat} (hF : FrC u a F) (h1 : v.1 11 = u.1 11) (h2 : v.2.2.2 = u.2.2.2) (h3 : v.2.2.1 10 = u.2.2.1 10) : FrC v a F := by
  obtain ⟨f1, f2, f3⟩ := hF
  refine ⟨by rw [h1]; exact f1, f2, fun k hk => ?_⟩
  rw [h2, h3]
  exact f3 k hk
/-- what a count of the votes changes -/
def CvC (u v : Ob) (a : Nat → Int64) (F q X : Nat) (m mark pos : Int) : Prop :=
  v.1 12 = zI (toldS a F q m) ∧ v.1 13 = zI (votdS a F q m) ∧ (v.1 5 = if longS a F q m = true then 61 else u.1 5) ∧ (∀ k, k ≠ 5 → k ≠ 12 → k ≠ 13 → k ≠ 16 → v.1 k = u.1 k) ∧ v.2.1 = u.2.1 ∧ v.2.2.2 = u.2.2.2 ∧ (∀ k, k ≠ 14 → k ≠ 15 → v.2.2.1 k = u.2.2.1 k) ∧
  (toldS a F q m = -1 → v.1 16 = zI X ∧ v.2.2.1 = u.2.2.1) ∧
  (toldS a F q m ≠ -1 → v.1 16 = zI ((if X < 8 then X + 1 else 8 : Nat) : Int) ∧ v.2.2.1 14 0 = zI (toldS a F q m + 1) ∧ v.2.2.1 15 0 = zI (mark - 1000 * pos) ∧ ∀ k, k < 7 → v.2.2.1 14 (k + 1) = u.2.2.1 14 k ∧ v.2.2.1 15 (k + 1) = u.2.2.1 15 k)
theorem X4_countVotes_v {N : Nat} (hN : 700 ≤ N) {u : Ob} {a : Nat → Int64} {F q : Nat} {m mark pos : Int} (hF : FrC u a F) (hm : u.2.2.1 0 3 = zI m) (m0 : 0 ≤ m) (m3 : m ≤ 3) (hq : u.2.2.1 0 1 = zI q) (q2 : 2 ≤ q) (q5 : q ≤ 5) (hk2 : u.1 2 = zI mark) (hp : u.1 4 = zI pos) {X : Nat} (hX : u.1 16 = zI X) (hX8 : X ≤ 8) (b : Ob) :
    ∃ v b', f_X4_countVotes N u b = some (v, b') ∧ CvC u v a F q X m mark pos := by
  have F8 := hF.2.1
  obtain ⟨b', T, h1, h2⟩ := X4_castVotes_v hN hF hm m0 m3 b
  have hw := X0_winner_v hN h2 (q := q) (by omega) (by omega)
  rw [show winN (cnV (voW a m) F) q = toldS a F q m from rfl] at hw
  have tr := winN_rng a F8 q m
  have cl := cnV_le (voW a m) (toldS a F q m) F
  rw [f_X4_countVotes, h1, Option.bind_some]
  show ∃ v b'', ((f_X0_winner N (u.2.2.1 0 1) b').bind _) = _ ∧ _
  rw [hq, hw, Option.bind_some]
  by_cases g : toldS a F q m = -1
  · rw [ifP (zI_m1 (by omega) (by omega)) g]
    refine ⟨_, _, rfl, oi_n _ _ (by decide) |>.trans (oi_s _ 12 _), ?_, ?_, fun k k1 k2 k3 k4 => ?_, rfl, rfl, fun _ _ _ => rfl, fun _ => ⟨?_, rfl⟩, fun h => absurd g h⟩
    · unfold votdS
      rw [if_pos g]
      exact oi_s _ 13 _
    · unfold longS
      rw [decide_eq_false (fun z => z.1 g), if_neg (by decide)]
      exact (oi_n _ _ (by decide)).trans (oi_n _ _ (by decide))
    · exact (oi_n _ _ k3).trans (oi_n _ _ k2)
    · exact ((oi_n _ _ (by decide)).trans (oi_n _ _ (by decide))).trans hX
  · rw [ifN (zI_m1 (by omega) (by omega)) g, X0_votesFor_v hN h2 (by omega) (by omega), Option.bind_some]
    have hF2 : FrC (oi (oi u 12 (zI (toldS a F q m))) 13 (zI (cnV (voW a m) F (toldS a F q m)))) a F := FrC_up hF ((oi_n _ _ (by decide)).trans (oi_n _ _ (by decide))) rfl rfl
    obtain ⟨v, w1, w2, w3⟩ := X4_cv_l54 (N := N) (t := toldS a F q m) (vd := (cnV (voW a m) F (toldS a F q m) : Nat)) (mark := mark) (pos := pos) (X := X) hF2 hm m0 m3 ((oi_n _ _ (by decide)).trans (oi_s _ 12 _)) (by omega) (by omega) (oi_s _ 13 _) (by omega) (by omega) (((oi_n _ _ (by decide)).trans (oi_n _ _ (by decide))).trans hk2) (((oi_n _ _ (by decide)).trans (oi_n _ _ (by decide))).trans hp) (((oi_n _ _ (by decide)).trans (oi_n _ _ (by decide))).trans hX) hX8 b' F 0 N (by omega) (by omega)
    have hl : (longS a F q m = true) ↔ ((toldS a F q m + 1) % 60 = 59 ∧ ((cnV (voW a m) F (toldS a F q m) : Nat) : Int) ≤ 2 * lpN a m (toldS a F q m) F) := by
      unfold longS
      rw [decide_eq_true_iff]
      omega
    have hv : votdS a F q m = (cnV (voW a m) F (toldS a F q m) : Nat) := if_neg g
    refine ⟨v, b', w1, ?_⟩
    by_cases gl : longS a F q m = true
    · rw [if_pos (hl.mp gl)] at w2
      obtain ⟨x1, x2, x3, x4, x5, x6, x7⟩ := w2
      refine ⟨?_, ?_, ?_, fun k k1 k2 k3 k4 => ?_, x2, x3, fun k k1 k2 => x4 k k1 k2, fun h => absurd h g, fun _ => ⟨w3, x5, x6, fun k hk => x7 k hk⟩⟩
      · exact (x1 12 (by decide)).trans ((oi_n _ _ (by decide)).trans ((oi_n _ _ (by decide)).trans (oi_s _ 12 _)))
      · rw [hv]
        exact (x1 13 (by decide)).trans ((oi_n _ _ (by decide)).trans (oi_s _ 13 _))
      · rw [if_pos gl]
        exact (x1 5 (by decide)).trans (oi_s _ 5 _)
      · exact (x1 k k4).trans ((oi_n _ _ k1).trans ((oi_n _ _ k3).trans (oi_n _ _ k2)))
    · rw [if_neg (fun z => gl (hl.mpr z))] at w2
      obtain ⟨x1, x2, x3, x4, x5, x6, x7⟩ := w2
      refine ⟨?_, ?_, ?_, fun k k1 k2 k3 k4 => ?_, x2, x3, fun k k1 k2 => x4 k k1 k2, fun h => absurd h g, fun _ => ⟨w3, x5, x6, fun k hk => x7 k hk⟩⟩
      · exact (x1 12 (by decide)).trans ((oi_n _ _ (by decide)).trans (oi_s _ 12 _))
      · rw [hv]
        exact (x1 13 (by decide)).trans (oi_s _ 13 _)
      · rw [if_neg gl]
        exact (x1 5 (by decide)).trans ((oi_n _ _ (by decide)).trans (oi_n _ _ (by decide)))
      · exact (x1 k k4).trans ((oi_n _ _ k3).trans (oi_n _ _ k2))
