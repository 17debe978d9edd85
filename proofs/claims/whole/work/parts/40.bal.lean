/-! ballots: votes counted, the leader, the winner; by numbers alone -/
def goodN (n : Int → Nat) (q : Nat) (r : Int) : Prop := r ≠ -1 ∧ 0 < n r ∧ q ≤ n r ∧ ∀ v, v ≠ -1 → v ≠ r → n v < n r
noncomputable def winN (n : Int → Nat) (q : Nat) : Int := @dite Int (∃ r, goodN n q r) (Classical.propDecidable _) (fun h => h.choose) (fun _ => -1)
theorem winN_some {n : Int → Nat} {q : Nat} {r : Int} (h : goodN n q r) : winN n q = r := by
  have e : ∃ r, goodN n q r := ⟨r, h⟩
  have hc : winN n q = e.choose := dif_pos e
  rw [hc]
  obtain ⟨a1, a2, a3, a4⟩ := e.choose_spec
  obtain ⟨b1, b2, b3, b4⟩ := h
  by_cases hh : e.choose = r
  · exact hh
  · have x := a4 r b1 (fun z => hh z.symm)
    have y := b4 _ a1 hh
    omega
theorem winN_none {n : Int → Nat} {q : Nat} (h : ∀ r, ¬ goodN n q r) : winN n q = -1 := dif_neg (fun ⟨r, hr⟩ => h r hr)
def leadP (n : Int → Nat) (r : Int) : Prop := r ≠ -1 ∧ 0 < n r ∧ ∀ v, v ≠ -1 → n v < n r ∨ (n v = n r ∧ r ≤ v)
noncomputable def leadN (n : Int → Nat) : Int := @dite Int (∃ r, leadP n r) (Classical.propDecidable _) (fun h => h.choose) (fun _ => -1)
theorem leadN_some {n : Int → Nat} {r : Int} (h : leadP n r) : leadN n = r := by
  have e : ∃ r, leadP n r := ⟨r, h⟩
  have hc : leadN n = e.choose := dif_pos e
  rw [hc]
  obtain ⟨a1, a2, a3⟩ := e.choose_spec
  obtain ⟨b1, b2, b3⟩ := h
  have x := a3 r b1
  have y := b3 _ a1
  omega
theorem leadN_none {n : Int → Nat} (h : ∀ v, v ≠ -1 → n v = 0) : leadN n = -1 := dif_neg (fun ⟨r, hr⟩ => by have := h r hr.1; have := hr.2.1; omega)
/-- how many of the first votes are v -/
def cnV (w : Nat → Int) : Nat → Int → Nat
  | 0, _ => 0
  | k + 1, v => cnV w k v + if w k = v ∧ v ≠ -1 then 1 else 0
theorem cnV_neg (w : Nat → Int) : ∀ k, cnV w k (-1) = 0
  | 0 => rfl
  | k + 1 => by rw [cnV, cnV_neg w k, if_neg (by simp)]
theorem cnV_pos {w : Nat → Int} {v : Int} : ∀ k, 0 < cnV w k v → ∃ j, j < k ∧ w j = v ∧ v ≠ -1
  | 0, h => by rw [cnV] at h; omega
  | k + 1, h => by
    rw [cnV] at h
    by_cases e : w k = v ∧ v ≠ -1
    · exact ⟨k, by omega, e⟩
    · rw [if_neg e] at h
      obtain ⟨j, h1, h2⟩ := cnV_pos k (by omega)
      exact ⟨j, by omega, h2⟩
theorem cnV_mono {w : Nat → Int} {v : Int} {a : Nat} : ∀ d, cnV w a v ≤ cnV w (a + d) v
  | 0 => Nat.le_refl _
  | d + 1 => by
    have := cnV_mono (w := w) (v := v) (a := a) d
    rw [← Nat.add_assoc, cnV]
    omega
theorem cnV_mem {w : Nat → Int} {v : Int} {k j : Nat} (h : j < k) (h1 : w j = v) (h2 : v ≠ -1) : 0 < cnV w k v := by
  have := cnV_mono (w := w) (v := v) (a := j + 1) (k - (j + 1))
  rw [show j + 1 + (k - (j + 1)) = k by omega, cnV, if_pos ⟨h1, h2⟩] at this
  omega
theorem cnV_le (w : Nat → Int) (v : Int) : ∀ k, cnV w k v ≤ k
  | 0 => Nat.le_refl _
  | k + 1 => by
    have := cnV_le w v k
    rw [cnV]
    split <;> omega
theorem cnV_cong {w w' : Nat → Int} (v : Int) : ∀ k, (∀ j, j < k → w j = w' j) → cnV w k v = cnV w' k v
  | 0, _ => rfl
  | k + 1, h => by rw [cnV, cnV, cnV_cong v k (fun j hj => h j (by omega)), h k (by omega)]
/-- a ballot's state: T votes c, in all as often as n says -/
def BalN (u : Ob) (n : Int → Nat) (T : Nat) : Prop := T ≤ 8 ∧ u.1 1 = zI T ∧ ∃ c : Nat → Int, (∀ i, i < T → u.2.2.1 0 i = zI (c i) ∧ 0 ≤ c i ∧ c i < 60000000) ∧ n = cnV c T
theorem X0_open_v (N : Nat) (u : Ob) : ∃ v, f_X0_open N u = some v ∧ BalN v (fun _ => 0) 0 := by
  refine ⟨_, rfl, by omega, oi_s u 1 _, fun _ => 0, fun i h => by omega, ?_⟩
  funext v
  rfl
theorem X0_cast_v (N : Nat) {u : Ob} {n : Int → Nat} {T : Nat} (h : BalN u n T) (hT : T < 8) {v : Int} (h1 : -1 ≤ v) (h2 : v < 60000000) : ∃ u' T', f_X0_cast N (zI v) u = some u' ∧ BalN u' (fun x => n x + if v = x ∧ x ≠ -1 then 1 else 0) T' ∧ T' ≤ T + 1 := by
  obtain ⟨a1, a2, c, a3, a4⟩ := h
  rw [f_X0_cast, a2]
  by_cases e : v = -1
  · refine ⟨u, T, ?_, ⟨a1, a2, c, a3, ?_⟩, by omega⟩
    · subst e
      simp (maxSteps := 400000) (disch := omega) only [zI_lit, zI_neg, zI_add, zI_sub, zI_mul, zI_div, zI_tn, zI_toL, zL_lit, zL_neg, zL_add, zL_sub, zL_mul, zL_div, zL_toI, zI_ltT, zI_ltF, zI_leT, zI_leF, zI_eqT, zI_eqF, zL_ltT, zL_ltF, zL_leT, zL_leF, zL_eqT, zL_eqF, nleT, nleF, or_self, or_false, false_or, true_or, or_true, not_true_eq_false, not_false_eq_true, ↓reduceIte, Option.bind_some, Bool.false_eq_true, decide_true, decide_false]
    · rw [a4]
      funext x
      rw [if_neg (by omega), Nat.add_zero]
  · refine ⟨oi (oa u 0 (upd (u.2.2.1 0) T (zI v))) 1 (zI ((T + 1 : Nat) : Int)), T + 1, ?_, ⟨by omega, oi_s _ 1 _, fun i => if i = T then v else c i, fun i hi => ?_, ?_⟩, by omega⟩
    · have t : (zI (T : Int)).toNatClampNeg = T := by
        rw [zI_tn (by omega) (by omega)]; omega
      rw [t, zI_suc]
      simp (maxSteps := 400000) (disch := omega) only [zI_lit, zI_neg, zI_add, zI_sub, zI_mul, zI_div, zI_tn, zI_toL, zL_lit, zL_neg, zL_add, zL_sub, zL_mul, zL_div, zL_toI, zI_ltT, zI_ltF, zI_leT, zI_leF, zI_eqT, zI_eqF, zL_ltT, zL_ltF, zL_leT, zL_leF, zL_eqT, zL_eqF, nleT, nleF, or_self, or_false, false_or, true_or, or_true, not_true_eq_false, not_false_eq_true, ↓reduceIte, Option.bind_some, Bool.false_eq_true, decide_true, decide_false]
    · show (va_up u.2.2.1 0 (upd (u.2.2.1 0) T (zI v))) 0 i = zI (if i = T then v else c i) ∧ 0 ≤ (if i = T then v else c i) ∧ (if i = T then v else c i) < 60000000
      rw [va_up_self]
      by_cases q : i = T
      · rw [if_pos q, q]
        refine ⟨?_, by omega, by omega⟩
        simp [upd]
      · rw [if_neg q]
        have := a3 i (by omega)
        refine ⟨?_, this.2⟩
        rw [← this.1]
        simp [upd, q]
    · rw [a4]
      funext x
      have hc : cnV c T x = cnV (fun i => if i = T then v else c i) T x := cnV_cong (w := c) (w' := fun i => if i = T then v else c i) x T (fun j hj => (if_neg (by omega)).symm)
      show cnV c T x + _ = cnV (fun i => if i = T then v else c i) T x + (if (if T = T then v else c T) = x ∧ x ≠ -1 then 1 else 0)
      rw [hc, if_pos (rfl : T = T)]
theorem X0_votesFor_l (N : Nat) {u : Ob} {T : Nat} {c : Nat → Int} (hT : T ≤ 8) (a2 : u.1 1 = zI T) (a3 : ∀ i, i < T → u.2.2.1 0 i = zI (c i) ∧ 0 ≤ c i ∧ c i < 60000000) {v : Int} (h1 : -2147483648 ≤ v) (h2 : v < 2147483648) : ∀ (j i n : Nat), i + j = T → j < n → l_X0_votesFor_4 N (zI v) u n (zI (cnV c i v)) (zI i) = some (zI (cnV c T v)) := by
  intro j
  induction j with
  | zero =>
    intro i n hi hn
    obtain ⟨n, rfl⟩ : ∃ k, n = k + 1 := ⟨n - 1, by omega⟩
    have : i = T := by omega
    subst this
    rw [l_X0_votesFor_4, a2]
    simp (maxSteps := 400000) (disch := omega) only [zI_lit, zI_neg, zI_add, zI_sub, zI_mul, zI_div, zI_tn, zI_toL, zL_lit, zL_neg, zL_add, zL_sub, zL_mul, zL_div, zL_toI, zI_ltT, zI_ltF, zI_leT, zI_leF, zI_eqT, zI_eqF, zL_ltT, zL_ltF, zL_leT, zL_leF, zL_eqT, zL_eqF, nleT, nleF, or_self, or_false, false_or, true_or, or_true, not_true_eq_false, not_false_eq_true, ↓reduceIte, Option.bind_some, Bool.false_eq_true, decide_true, decide_false]
  | succ j ih =>
    intro i n hi hn
    obtain ⟨n, rfl⟩ : ∃ k, n = k + 1 := ⟨n - 1, by omega⟩
    have t : (zI (i : Int)).toNatClampNeg = i := by
      rw [zI_tn (by omega) (by omega)]; omega
    have c3 := a3 i (by omega)
    have e0 : (zI (T : Int) ≤ zI (i : Int)) = False := by simp (maxSteps := 400000) (disch := omega) only [zI_lit, zI_neg, zI_add, zI_sub, zI_mul, zI_div, zI_tn, zI_toL, zL_lit, zL_neg, zL_add, zL_sub, zL_mul, zL_div, zL_toI, zI_ltT, zI_ltF, zI_leT, zI_leF, zI_eqT, zI_eqF, zL_ltT, zL_ltF, zL_leT, zL_leF, zL_eqT, zL_eqF, nleT, nleF, or_self, or_false, false_or, true_or, or_true, not_true_eq_false, not_false_eq_true, ↓reduceIte, Option.bind_some, Bool.false_eq_true, decide_true, decide_false]
    have e1 : (zI (i : Int) < 0 ∨ 8 ≤ i) = False := by simp (maxSteps := 400000) (disch := omega) only [zI_lit, zI_neg, zI_add, zI_sub, zI_mul, zI_div, zI_tn, zI_toL, zL_lit, zL_neg, zL_add, zL_sub, zL_mul, zL_div, zL_toI, zI_ltT, zI_ltF, zI_leT, zI_leF, zI_eqT, zI_eqF, zL_ltT, zL_ltF, zL_leT, zL_leF, zL_eqT, zL_eqF, nleT, nleF, or_self, or_false, false_or, true_or, or_true, not_true_eq_false, not_false_eq_true, ↓reduceIte, Option.bind_some, Bool.false_eq_true, decide_true, decide_false]
    have ih := ih (i + 1) n (by omega) (by omega)
    rw [l_X0_votesFor_4, a2, t, ifF e0, ifF e1, c3.1, zI_suc i]
    rw [cnV] at ih
    by_cases q : c i = v
    · rw [if_pos ⟨q, by omega⟩] at ih
      rw [if_pos (by rw [q])]
      rw [zI_suc]
      exact ih
    · rw [if_neg (fun z => q z.1)] at ih
      rw [Nat.add_zero] at ih
      rw [if_neg (by rw [zI_eq (by omega) (by omega) (by omega) (by omega)]; exact q)]
      exact ih
theorem X0_votesFor_v {N : Nat} (hN : 700 ≤ N) {u : Ob} {n : Int → Nat} {T : Nat} (h : BalN u n T) {v : Int} (h1 : -2147483648 ≤ v) (h2 : v < 2147483648) : f_X0_votesFor N (zI v) u = some (zI (n v)) := by
  obtain ⟨a1, a2, c, a3, a4⟩ := h
  rw [a4]
  exact X0_votesFor_l N a1 a2 a3 h1 h2 T 0 N (by omega) (by omega)
theorem X0_leader_l {N : Nat} (hN : 700 ≤ N) {u : Ob} {T : Nat} {c : Nat → Int} (hT : T ≤ 8) (a2 : u.1 1 = zI T) (a3 : ∀ i, i < T → u.2.2.1 0 i = zI (c i) ∧ 0 ≤ c i ∧ c i < 60000000) : ∀ (j i n : Nat) (l : Int), i + j = T → j < n →
    (l = -1 ∧ i = 0 ∨ 0 ≤ l ∧ l < 60000000 ∧ 0 < cnV c T l ∧ ∀ k, k < i → cnV c T (c k) < cnV c T l ∨ (cnV c T (c k) = cnV c T l ∧ l ≤ c k)) → l_X0_leader_6 N u n (zI l) (zI (cnV c T l)) (zI i) = some (zI (leadN (cnV c T))) := by
  have B : BalN u (cnV c T) T := ⟨hT, a2, c, a3, rfl⟩
  intro j
  induction j with
  | zero =>
    intro i n l hi hn hl
    obtain ⟨n, rfl⟩ : ∃ k, n = k + 1 := ⟨n - 1, by omega⟩
    have : i = T := by omega
    subst this
    rw [l_X0_leader_6, a2]
    have e : leadN (cnV c i) = l := by
      rcases hl with ⟨b1, b2⟩ | ⟨b1, b2, b3, b4⟩
      · subst b2
        rw [leadN_none (n := cnV c 0) (fun v _ => rfl), b1]
      · refine leadN_some ⟨by omega, b3, fun v hv => ?_⟩
        by_cases p : 0 < cnV c i v
        · obtain ⟨k, k1, k2, k3⟩ := cnV_pos i p
          have := b4 k k1
          rwa [k2] at this
        · exact Or.inl (by omega)
    rw [e, if_pos (Int32.le_refl _)]
  | succ j ih =>
    intro i n l hi hn hl
    obtain ⟨n, rfl⟩ : ∃ k, n = k + 1 := ⟨n - 1, by omega⟩
    have t : (zI (i : Int)).toNatClampNeg = i := by
      rw [zI_tn (by omega) (by omega)]; omega
    have c3 := a3 i (by omega)
    have e0 : (zI (T : Int) ≤ zI (i : Int)) = False := by simp (maxSteps := 400000) (disch := omega) only [zI_lit, zI_neg, zI_add, zI_sub, zI_mul, zI_div, zI_tn, zI_toL, zL_lit, zL_neg, zL_add, zL_sub, zL_mul, zL_div, zL_toI, zI_ltT, zI_ltF, zI_leT, zI_leF, zI_eqT, zI_eqF, zL_ltT, zL_ltF, zL_leT, zL_leF, zL_eqT, zL_eqF, nleT, nleF, or_self, or_false, false_or, true_or, or_true, not_true_eq_false, not_false_eq_true, ↓reduceIte, Option.bind_some, Bool.false_eq_true, decide_true, decide_false]
    have e1 : (zI (i : Int) < 0 ∨ 8 ≤ i) = False := by simp (maxSteps := 400000) (disch := omega) only [zI_lit, zI_neg, zI_add, zI_sub, zI_mul, zI_div, zI_tn, zI_toL, zL_lit, zL_neg, zL_add, zL_sub, zL_mul, zL_div, zL_toI, zI_ltT, zI_ltF, zI_leT, zI_leF, zI_eqT, zI_eqF, zL_ltT, zL_ltF, zL_leT, zL_leF, zL_eqT, zL_eqF, nleT, nleF, or_self, or_false, false_or, true_or, or_true, not_true_eq_false, not_false_eq_true, ↓reduceIte, Option.bind_some, Bool.false_eq_true, decide_true, decide_false]
    have nl := cnV_le c l T
    have nc := cnV_le c (c i) T
    have ps : 0 < cnV c T (c i) := cnV_mem (j := i) (by omega) rfl (by omega)
    have new : ∀ m : Int, m = c i → (∀ k, k < i → cnV c T (c k) < cnV c T m ∨ (cnV c T (c k) = cnV c T m ∧ m ≤ c k)) → l_X0_leader_6 N u n (zI m) (zI (cnV c T m)) (zI ((i + 1 : Nat) : Int)) = some (zI (leadN (cnV c T))) := by
      intro m hm hk
      refine ih (i + 1) n m (by omega) (by omega) (Or.inr ⟨by omega, by omega, by rw [hm]; exact ps, fun k h => ?_⟩)
      by_cases q : k = i
      · rw [q, ← hm]; exact Or.inr ⟨rfl, by omega⟩
      · exact hk k (by omega)
    rw [l_X0_leader_6, a2, t, ifF e0, ifF e1, c3.1, X0_votesFor_v hN B (by omega) (by omega), Option.bind_some, zI_suc i]
    rcases hl with ⟨b1, b2⟩ | ⟨b1, b2, b3, b4⟩
    · have z : cnV c T l = 0 := by rw [b1]; exact cnV_neg c T
      rw [if_pos (by rw [zI_lt (by omega) (by omega) (by omega) (by omega)]; omega)]
      exact new (c i) rfl (fun k hk => by omega)
    · have old : (cnV c T (c i) < cnV c T l ∨ (cnV c T (c i) = cnV c T l ∧ l ≤ c i)) → l_X0_leader_6 N u n (zI l) (zI (cnV c T l)) (zI ((i + 1 : Nat) : Int)) = some (zI (leadN (cnV c T))) := by
        intro ho
        refine ih (i + 1) n l (by omega) (by omega) (Or.inr ⟨b1, b2, b3, fun k h => ?_⟩)
        by_cases q : k = i
        · rw [q]; exact ho
        · exact b4 k (by omega)
      by_cases g1 : cnV c T l < cnV c T (c i)
      · rw [if_pos (by rw [zI_lt (by omega) (by omega) (by omega) (by omega)]; omega)]
        exact new (c i) rfl (fun k hk => by have := b4 k hk; omega)
      · rw [if_neg (by rw [zI_lt (by omega) (by omega) (by omega) (by omega)]; omega)]
        by_cases g2 : cnV c T (c i) = cnV c T l
        · rw [if_pos (by rw [g2])]
          by_cases g3 : l ≤ c i
          · rw [if_pos (by rw [zI_le (by omega) (by omega) (by omega) (by omega)]; omega)]
            exact old (Or.inr ⟨g2, g3⟩)
          · rw [if_neg (by rw [zI_le (by omega) (by omega) (by omega) (by omega)]; omega)]
            exact new (c i) rfl (fun k hk => by have := b4 k hk; omega)
        · rw [if_neg (by rw [zI_eq (by omega) (by omega) (by omega) (by omega)]; omega)]
          exact old (Or.inl (by omega))
theorem X0_leader_v {N : Nat} (hN : 700 ≤ N) {u : Ob} {n : Int → Nat} {T : Nat} (h : BalN u n T) : f_X0_leader N u = some (zI (leadN n)) := by
  obtain ⟨a1, a2, c, a3, a4⟩ := h
  rw [a4]
  have := X0_leader_l hN a1 a2 a3 T 0 N (-1) (by omega) (by omega) (Or.inl ⟨rfl, rfl⟩)
  rw [cnV_neg] at this
  exact this
/-- the leader, where there is one -/
theorem leadN_spec {c : Nat → Int} {T : Nat} (hc : ∀ i, i < T → 0 ≤ c i ∧ c i < 60000000) : (T = 0 ∧ leadN (cnV c T) = -1) ∨ (0 < T ∧ leadP (cnV c T) (leadN (cnV c T)) ∧ 0 ≤ leadN (cnV c T) ∧ leadN (cnV c T) < 60000000) := by
  by_cases h : T = 0
  · subst h
    exact Or.inl ⟨rfl, leadN_none (n := cnV c 0) (fun v _ => rfl)⟩
  · refine Or.inr ⟨by omega, ?_⟩
    have key : ∀ j, j < T → ∃ l, (0 ≤ l ∧ l < 60000000) ∧ 0 < cnV c T l ∧ ∀ k, k ≤ j → cnV c T (c k) < cnV c T l ∨ (cnV c T (c k) = cnV c T l ∧ l ≤ c k) := by
      intro j
      induction j with
      | zero =>
        intro hj
        refine ⟨c 0, hc 0 hj, cnV_mem hj rfl (by have := hc 0 hj; omega), fun k hk => ?_⟩
        rw [show k = 0 by omega]
        exact Or.inr ⟨rfl, by omega⟩
      | succ j ih =>
        intro hj
        obtain ⟨l, l1, l2, l3⟩ := ih (by omega)
        by_cases g : cnV c T (c (j + 1)) < cnV c T l ∨ (cnV c T (c (j + 1)) = cnV c T l ∧ l ≤ c (j + 1))
        · refine ⟨l, l1, l2, fun k hk => ?_⟩
          by_cases q : k = j + 1
          · rw [q]; exact g
          · exact l3 k (by omega)
        · refine ⟨c (j + 1), hc _ hj, cnV_mem hj rfl (by have := hc _ hj; omega), fun k hk => ?_⟩
          by_cases q : k = j + 1
          · rw [q]; exact Or.inr ⟨rfl, by omega⟩
          · have := l3 k (by omega)
            omega
    obtain ⟨l, l1, l2, l3⟩ := key (T - 1) (by omega)
    have P : leadP (cnV c T) l := by
      refine ⟨by omega, l2, fun v hv => ?_⟩
      by_cases p : 0 < cnV c T v
      · obtain ⟨k, k1, k2, k3⟩ := cnV_pos T p
        have := l3 k (by omega)
        rwa [k2] at this
      · exact Or.inl (by omega)
    rw [leadN_some P]
    exact ⟨P, l1⟩
theorem X0_winner_l {N : Nat} (hN : 700 ≤ N) {u : Ob} {T q : Nat} {c : Nat → Int} (hT : T ≤ 8) (a2 : u.1 1 = zI T) (a3 : ∀ i, i < T → u.2.2.1 0 i = zI (c i) ∧ 0 ≤ c i ∧ c i < 60000000) (x1 : Int32) {l : Int} (P : leadP (cnV c T) l) (l0 : 0 ≤ l) (l1 : l < 60000000) (hq : q ≤ cnV c T l) : ∀ (j i n : Nat), i + j = T → j < n →
    (∀ k, k < i → c k ≠ l → cnV c T (c k) < cnV c T l) → l_X0_winner_21 N x1 u n (zI l) (zI (cnV c T l)) (zI i) = some (zI (winN (cnV c T) q)) := by
  have B : BalN u (cnV c T) T := ⟨hT, a2, c, a3, rfl⟩
  have nl := cnV_le c l T
  intro j
  induction j with
  | zero =>
    intro i n hi hn hk
    obtain ⟨n, rfl⟩ : ∃ k, n = k + 1 := ⟨n - 1, by omega⟩
    have : i = T := by omega
    subst this
    rw [l_X0_winner_21, a2, if_pos (Int32.le_refl _)]
    have e : winN (cnV c i) q = l := by
      refine winN_some ⟨P.1, P.2.1, hq, fun v hv hv2 => ?_⟩
      by_cases p : 0 < cnV c i v
      · obtain ⟨k, k1, k2, k3⟩ := cnV_pos i p
        have := hk k k1 (by rw [k2]; exact hv2)
        rwa [k2] at this
      · have := P.2.1
        omega
    rw [e]
  | succ j ih =>
    intro i n hi hn hk
    obtain ⟨n, rfl⟩ : ∃ k, n = k + 1 := ⟨n - 1, by omega⟩
    have t : (zI (i : Int)).toNatClampNeg = i := by
      rw [zI_tn (by omega) (by omega)]; omega
    have c3 := a3 i (by omega)
    have e0 : (zI (T : Int) ≤ zI (i : Int)) = False := by simp (maxSteps := 400000) (disch := omega) only [zI_lit, zI_neg, zI_add, zI_sub, zI_mul, zI_div, zI_tn, zI_toL, zL_lit, zL_neg, zL_add, zL_sub, zL_mul, zL_div, zL_toI, zI_ltT, zI_ltF, zI_leT, zI_leF, zI_eqT, zI_eqF, zL_ltT, zL_ltF, zL_leT, zL_leF, zL_eqT, zL_eqF, nleT, nleF, or_self, or_false, false_or, true_or, or_true, not_true_eq_false, not_false_eq_true, ↓reduceIte, Option.bind_some, Bool.false_eq_true, decide_true, decide_false]
    have e1 : (zI (i : Int) < 0 ∨ 8 ≤ i) = False := by simp (maxSteps := 400000) (disch := omega) only [zI_lit, zI_neg, zI_add, zI_sub, zI_mul, zI_div, zI_tn, zI_toL, zL_lit, zL_neg, zL_add, zL_sub, zL_mul, zL_div, zL_toI, zI_ltT, zI_ltF, zI_leT, zI_leF, zI_eqT, zI_eqF, zL_ltT, zL_ltF, zL_leT, zL_leF, zL_eqT, zL_eqF, nleT, nleF, or_self, or_false, false_or, true_or, or_true, not_true_eq_false, not_false_eq_true, ↓reduceIte, Option.bind_some, Bool.false_eq_true, decide_true, decide_false]
    have nc := cnV_le c (c i) T
    rw [l_X0_winner_21, a2, t, ifF e0, ifF e1, ifF e1, c3.1, zI_suc i]
    by_cases g : c i = l
    · rw [if_pos (by rw [g])]
      refine ih (i + 1) n (by omega) (by omega) (fun k h1 h2 => ?_)
      by_cases p : k = i
      · rw [p] at h2; exact absurd g h2
      · exact hk k (by omega) h2
    · rw [if_neg (by rw [zI_eq (by omega) (by omega) (by omega) (by omega)]; omega), X0_votesFor_v hN B (by omega) (by omega), Option.bind_some]
      have pl := P.2.2 (c i) (by omega)
      by_cases g2 : cnV c T (c i) = cnV c T l
      · rw [if_pos (by rw [g2]), winN_none]
        · rfl
        · intro r ⟨r1, r2, r3, r4⟩
          by_cases e : r = l
          · have := r4 (c i) (by omega) (by omega)
            rw [e] at this
            omega
          · have := r4 l (by omega) (fun z => e z.symm)
            have := P.2.2 r r1
            omega
      · rw [if_neg (by rw [zI_eq (by omega) (by omega) (by omega) (by omega)]; omega)]
        refine ih (i + 1) n (by omega) (by omega) (fun k h1 h2 => ?_)
        by_cases p : k = i
        · rw [p]; omega
        · exact hk k (by omega) h2
theorem X0_winner_v {N : Nat} (hN : 700 ≤ N) {u : Ob} {n : Int → Nat} {T q : Nat} (h : BalN u n T) (hq : 1 ≤ q) (hq2 : q ≤ 100) : f_X0_winner N (zI q) u = some (zI (winN n q)) := by
  obtain ⟨a1, a2, c, a3, a4⟩ := id h
  have le := X0_leader_v hN h
  subst a4
  rw [f_X0_winner, le, Option.bind_some]
  rcases leadN_spec (fun i hi => (a3 i hi).2) with ⟨s1, s2⟩ | ⟨s1, s2, s3, s4⟩
  · rw [s2, X0_votesFor_v hN h (by omega) (by omega), Option.bind_some, cnV_neg, if_neg (by rw [zI_le (by omega) (by omega) (by omega) (by omega)]; omega), winN_none]
    · rfl
    · intro r hr
      subst s1
      have := hr.2.1
      rw [cnV] at this
      omega
  · have nl := cnV_le c (leadN (cnV c T)) T
    rw [X0_votesFor_v hN h (by omega) (by omega), Option.bind_some]
    by_cases g : q ≤ cnV c T (leadN (cnV c T))
    · rw [if_pos (by rw [zI_le (by omega) (by omega) (by omega) (by omega)]; omega)]
      exact X0_winner_l hN a1 a2 a3 (zI q) s2 s3 s4 g T 0 N (by omega) (by omega) (fun k hk => by omega)
    · rw [if_neg (by rw [zI_le (by omega) (by omega) (by omega) (by omega)]; omega), winN_none]
      · rfl
      · intro r hr
        have := s2.2.2 r hr.1
        have := hr.2.2.1
        omega
