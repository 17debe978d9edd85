/-! the reference's count of the votes -/
def stC (n : Int → Nat) (q : Nat) (v : Int) (s : Nat × Int) : Nat × Int := if v = -1 ∨ n v < q ∨ n v < s.1 then s else (n v, if s.1 < n v ∨ s.2 = v then v else -1)
def fdC (n : Int → Nat) (q : Nat) (w : Nat → Int) : Nat → Nat → Nat × Int → Nat × Int
  | 0, _, s => s
  | j + 1, k, s => fdC n q w j (k + 1) (stC n q (w k) s)
def ivC (n : Int → Nat) (q : Nat) (w : Nat → Int) (k : Nat) (s : Nat × Int) : Prop :=
  (s.1 < q ∧ s.2 = -1 ∧ ∀ j, j < k → w j ≠ -1 → n (w j) < q) ∨
  (q ≤ s.1 ∧ (∀ j, j < k → w j ≠ -1 → n (w j) ≤ s.1) ∧ (s.2 ≠ -1 → n s.2 = s.1 ∧ ∀ j, j < k → w j ≠ -1 → w j ≠ s.2 → n (w j) < s.1) ∧ (s.2 = -1 → ∃ x y, x ≠ -1 ∧ y ≠ -1 ∧ x ≠ y ∧ n x = s.1 ∧ n y = s.1))
theorem stC_iv {n : Int → Nat} {q : Nat} {w : Nat → Int} {k : Nat} {s : Nat × Int} (h : ivC n q w k s) : ivC n q w (k + 1) (stC n q (w k) s) := by
  obtain ⟨m, t⟩ := s
  unfold stC
  by_cases c : w k = -1 ∨ n (w k) < q ∨ n (w k) < m
  · rw [if_pos c]
    rcases h with ⟨h1, h2, h3⟩ | ⟨h1, h2, h3, h4⟩
    · refine Or.inl ⟨h1, h2, fun j hj hw => ?_⟩
      by_cases p : j = k
      · subst p
        have : m < q := h1
        omega
      · exact h3 j (by omega) hw
    · refine Or.inr ⟨h1, fun j hj hw => ?_, fun ht => ⟨(h3 ht).1, fun j hj hw hw2 => ?_⟩, h4⟩
      · by_cases p : j = k
        · subst p
          have : q ≤ m := h1
          show n (w j) ≤ m
          omega
        · exact h2 j (by omega) hw
      · by_cases p : j = k
        · subst p
          have : q ≤ m := h1
          show n (w j) < m
          omega
        · exact (h3 ht).2 j (by omega) hw hw2
  · rw [if_neg c]
    have c1 : w k ≠ -1 := fun z => c (Or.inl z)
    have c2 : q ≤ n (w k) := by omega
    have c3 : m ≤ n (w k) := by omega
    rcases h with ⟨h1, h2, h3⟩ | ⟨h1, h2, h3, h4⟩
    · have h1 : m < q := h1
      show ivC n q w (k + 1) (n (w k), if m < n (w k) ∨ t = w k then w k else -1)
      rw [if_pos (by omega)]
      refine Or.inr ⟨c2, fun j hj hw => ?_, fun ht => ⟨rfl, fun j hj hw hw2 => ?_⟩, fun ht => absurd ht c1⟩
      · by_cases p : j = k
        · rw [p]; exact Nat.le_refl _
        · have := h3 j (by omega) hw
          show n (w j) ≤ n (w k)
          omega
      · by_cases p : j = k
        · exact absurd (congrArg w p) hw2
        · have := h3 j (by omega) hw
          show n (w j) < n (w k)
          omega
    · have h1 : q ≤ m := h1
      have h2 : ∀ j, j < k → w j ≠ -1 → n (w j) ≤ m := h2
      have h3 : t ≠ -1 → n t = m ∧ ∀ j, j < k → w j ≠ -1 → w j ≠ t → n (w j) < m := h3
      have h4 : t = -1 → ∃ x y, x ≠ -1 ∧ y ≠ -1 ∧ x ≠ y ∧ n x = m ∧ n y = m := h4
      show ivC n q w (k + 1) (n (w k), if m < n (w k) ∨ t = w k then w k else -1)
      have all : ∀ j, j < k + 1 → w j ≠ -1 → n (w j) ≤ n (w k) := by
        intro j hj hw
        by_cases p : j = k
        · rw [p]; exact Nat.le_refl _
        · have := h2 j (by omega) hw
          omega
      by_cases g : m < n (w k)
      · rw [if_pos (Or.inl g)]
        refine Or.inr ⟨c2, all, fun ht => ⟨rfl, fun j hj hw hw2 => ?_⟩, fun ht => absurd ht c1⟩
        by_cases p : j = k
        · exact absurd (congrArg w p) hw2
        · have := h2 j (by omega) hw
          show n (w j) < n (w k)
          omega
      · have e : n (w k) = m := by omega
        by_cases g2 : t = w k
        · rw [if_pos (Or.inr g2)]
          refine Or.inr ⟨c2, all, fun ht => ⟨rfl, fun j hj hw hw2 => ?_⟩, fun ht => absurd ht c1⟩
          by_cases p : j = k
          · exact absurd (congrArg w p) hw2
          · have := (h3 (by rw [g2]; exact c1)).2 j (by omega) hw (by rw [g2]; exact hw2)
            show n (w j) < n (w k)
            omega
        · rw [if_neg (by omega)]
          refine Or.inr ⟨c2, all, fun ht => absurd rfl ht, fun _ => ?_⟩
          by_cases g3 : t = -1
          · obtain ⟨x, y, x1, x2, x3, x4, x5⟩ := h4 g3
            exact ⟨x, y, x1, x2, x3, by show n x = n (w k); omega, by show n y = n (w k); omega⟩
          · exact ⟨t, w k, g3, c1, g2, by have := (h3 g3).1; show n t = n (w k); omega, rfl⟩
theorem fdC_iv {n : Int → Nat} {q : Nat} {w : Nat → Int} : ∀ j k s, ivC n q w k s → ivC n q w (k + j) (fdC n q w j k s)
  | 0, k, s, h => h
  | j + 1, k, s, h => by
    have := fdC_iv j (k + 1) (stC n q (w k) s) (stC_iv h)
    rw [show k + (j + 1) = k + 1 + j by omega, fdC]
    exact this
theorem ivC_win {q F : Nat} {w : Nat → Int} {s : Nat × Int} (hq : 1 ≤ q) (h : ivC (cnV w F) q w F s) : s.2 = winN (cnV w F) q := by
  obtain ⟨m, t⟩ := s
  rcases h with ⟨h1, h2, h3⟩ | ⟨h1, h2, h3, h4⟩
  · have h2 : t = -1 := h2
    show t = _
    rw [winN_none, h2]
    intro r ⟨r1, r2, r3, r4⟩
    obtain ⟨j, j1, j2, j3⟩ := cnV_pos F r2
    have := h3 j j1 (by omega)
    rw [j2] at this
    omega
  · have h1 : q ≤ m := h1
    have h2 : ∀ j, j < F → w j ≠ -1 → cnV w F (w j) ≤ m := h2
    have h3 : t ≠ -1 → cnV w F t = m ∧ ∀ j, j < F → w j ≠ -1 → w j ≠ t → cnV w F (w j) < m := h3
    have h4 : t = -1 → ∃ x y, x ≠ -1 ∧ y ≠ -1 ∧ x ≠ y ∧ cnV w F x = m ∧ cnV w F y = m := h4
    show t = _
    by_cases g : t = -1
    · rw [winN_none, g]
      intro r ⟨r1, r2, r3, r4⟩
      obtain ⟨x, y, x1, x2, x3, x4, x5⟩ := h4 g
      obtain ⟨j, j1, j2, j3⟩ := cnV_pos F r2
      have := h2 j j1 (by omega)
      rw [j2] at this
      by_cases e : x = r
      · have := r4 y x2 (by omega)
        omega
      · have := r4 x x1 e
        omega
    · obtain ⟨b1, b2⟩ := h3 g
      rw [winN_some (r := t) ⟨g, by omega, by omega, fun v hv hv2 => ?_⟩]
      by_cases p : 0 < cnV w F v
      · obtain ⟨j, j1, j2, j3⟩ := cnV_pos F p
        have := b2 j j1 (by omega) (by rw [j2]; exact hv2)
        rw [j2] at this
        omega
      · omega
theorem fdC_win {q F m0 : Nat} {w : Nat → Int} (hq : 1 ≤ q) (h0 : m0 < q) : (fdC (cnV w F) q w F 0 (m0, -1)).2 = winN (cnV w F) q := by
  have := fdC_iv (n := cnV w F) (q := q) (w := w) F 0 (m0, -1) (Or.inl ⟨h0, rfl, fun j hj => by omega⟩)
  rw [Nat.zero_add] at this
  exact ivC_win hq this
def Agr (b a : Nat → Int64) : Prop := ∀ k, k ≠ 9 → k ≠ 10 → b k = a k
theorem Agr_VA {a b : Nat → Int64} {F q : Nat} {m : Int} (h : Agr b a) (hV : VA a F q m) : VA b F q m := by
  obtain ⟨b1, b2, b3, b4, b5, b6, b7, b8⟩ := hV
  exact ⟨by rw [h 12 (by decide) (by decide)]; exact b1, b2, by rw [h 1 (by decide) (by decide)]; exact b3, b4, b5, by rw [h 3 (by decide) (by decide)]; exact b6, b7, b8⟩
theorem Agr_vo {a b : Nat → Int64} (h : Agr b a) (m : Int) : voW b m = voW a m := by
  funext k
  unfold voW
  rw [h (16 + 2 * k) (by omega) (by omega), h (17 + 2 * k) (by omega) (by omega)]
/-- announcing frames -/
def lpN (a : Nat → Int64) (m t : Int) : Nat → Nat
  | 0 => 0
  | k + 1 => lpN a m t k + if voW a m k = t ∧ lb (a (16 + 2 * k)) 19 = true then 1 else 0
theorem lpN_le (a : Nat → Int64) (m t : Int) : ∀ k, lpN a m t k ≤ k
  | 0 => Nat.le_refl _
  | k + 1 => by
    have := lpN_le a m t k
    rw [lpN]
    split <;> omega
theorem X6_cv_l190 {N : Nat} (hN : 700 ≤ N) {a b : Nat → Int64} (hA : Agr b a) {F q : Nat} {m : Int} (hV : VA a F q m) {t : Int} {c : Nat} (ht : b 9 = zL t) (ht0 : 0 ≤ t) (ht1 : t < 60000000) (hc : b 10 = zL c) (hc8 : c ≤ 8) (x1 : Int32) : ∀ (j k n : Nat) (u : Ob), u.2.2.2 0 = b → k + j = F → j < n →
    ∃ v, l_X6_countsVotes_190 N n x1 (zI (lpN a m t k)) (zI k) u = some (decide (c ≤ 2 * lpN a m t F), v) ∧ Sc u v := by
  have F8 := hV.2.1
  have hVb := Agr_VA hA hV
  intro j
  induction j with
  | zero =>
    intro k n u hu hk hn
    obtain ⟨n, rfl⟩ : ∃ k, n = k + 1 := ⟨n - 1, by omega⟩
    have : k = F := by omega
    subst this
    have lr := lpN_le a m t k
    refine ⟨u, ?_, Sc_rfl u⟩
    rw [l_X6_countsVotes_190, ifP (VA_le hVb hu k (by omega)) (Nat.le_refl _), hu, show (10 : Int32).toNatClampNeg = 10 from rfl, hc]
    by_cases g : c ≤ 2 * lpN a m t k
    · rw [decide_eq_true g]
      simp (maxSteps := 400000) (disch := omega) only [zI_lit, zI_neg, zI_add, zI_sub, zI_mul, zI_div, zI_tn, zI_toL, zL_lit, zL_neg, zL_add, zL_sub, zL_mul, zL_div, zL_toI, zI_ltT, zI_ltF, zI_leT, zI_leF, zI_eqT, zI_eqF, zL_ltT, zL_ltF, zL_leT, zL_leF, zL_eqT, zL_eqF, nleT, nleF, or_self, or_false, false_or, true_or, or_true, not_true_eq_false, not_false_eq_true, ↓reduceIte, Option.bind_some, Bool.false_eq_true, decide_true, decide_false]
    · rw [decide_eq_false g]
      simp (maxSteps := 400000) (disch := omega) only [zI_lit, zI_neg, zI_add, zI_sub, zI_mul, zI_div, zI_tn, zI_toL, zL_lit, zL_neg, zL_add, zL_sub, zL_mul, zL_div, zL_toI, zI_ltT, zI_ltF, zI_leT, zI_leF, zI_eqT, zI_eqF, zL_ltT, zL_ltF, zL_leT, zL_leF, zL_eqT, zL_eqF, nleT, nleF, or_self, or_false, false_or, true_or, or_true, not_true_eq_false, not_false_eq_true, ↓reduceIte, Option.bind_some, Bool.false_eq_true, decide_true, decide_false]
  | succ j ih =>
    intro k n u hu hk hn
    obtain ⟨n, rfl⟩ : ∃ k, n = k + 1 := ⟨n - 1, by omega⟩
    obtain ⟨v, v1, v2, v3, v4⟩ := X6_vote hN hVb u hu (k := k) (by omega)
    rw [Agr_vo hA] at v1 v4
    rw [hA (16 + 2 * k) (by omega) (by omega)] at v4
    obtain ⟨w, w1, w2⟩ := ih (k + 1) n v v3 (by omega) (by omega)
    have vr := voW_rng a m (k := k) (by omega)
    refine ⟨w, ?_, Sc_trans v2 w2⟩
    have hh : f_X6_has N (v.2.1 19) (zI 19) = some (lb (v.2.1 19) 19) := X6_has_v N _ (k := 19) (by omega) (by omega)
    rw [l_X6_countsVotes_190, ifN (VA_le hVb hu k (by omega)) (by omega), v1, Option.bind_some]
    show (if (zI (voW a m k)).toInt64 = v.2.2.2 0 ((9 : Int32).toNatClampNeg) then _ else _) = _
    rw [v3, show (9 : Int32).toNatClampNeg = 9 from rfl, ht, zI_toL (by omega) (by omega), show ((19 : Int32) = zI 19) from rfl, hh, Option.bind_some]
    simp (disch := omega) only [zL_eq]
    unfold k_X6_countsVotes_238
    rw [zI_suc, zI_suc, zI_ad0]
    rw [lpN] at w1
    by_cases e : voW a m k = t
    · rw [if_pos e]
      rw [v4 (by omega)]
      cases hb : lb (a (16 + 2 * k)) 19
      · rw [hb, if_neg (by simp), Nat.add_zero] at w1
        rw [ifb0]
        exact w1
      · rw [hb, if_pos ⟨e, rfl⟩] at w1
        rw [if_pos rfl]
        exact w1
    · rw [if_neg (fun z => e z.1), Nat.add_zero] at w1
      rw [if_neg e]
      exact w1
noncomputable def toldS (a : Nat → Int64) (F q : Nat) (m : Int) : Int := winN (cnV (voW a m) F) q
noncomputable def votdS (a : Nat → Int64) (F q : Nat) (m : Int) : Int := if toldS a F q m = -1 then 0 else (cnV (voW a m) F (toldS a F q m) : Nat)
noncomputable def longS (a : Nat → Int64) (F q : Nat) (m : Int) : Bool := decide (toldS a F q m ≠ -1 ∧ (toldS a F q m + 1) % 60 = 59 ∧ cnV (voW a m) F (toldS a F q m) ≤ 2 * lpN a m (toldS a F q m) F)
theorem winN_rng (a : Nat → Int64) {F : Nat} (hF : F ≤ 8) (q : Nat) (m : Int) : -1 ≤ toldS a F q m ∧ toldS a F q m < 52596008 := by
  unfold toldS
  by_cases h : ∃ r, goodN (cnV (voW a m) F) q r
  · obtain ⟨r, hr⟩ := h
    rw [winN_some hr]
    obtain ⟨j, j1, j2, j3⟩ := cnV_pos F hr.2.1
    have := voW_rng a m (k := j) (by omega)
    omega
  · rw [winN_none (fun r hr => h ⟨r, hr⟩)]
    omega
theorem X6_cv_l22 {N : Nat} (hN : 700 ≤ N) {a : Nat → Int64} {F q : Nat} {m : Int} (hV : VA a F q m) : ∀ (j k n : Nat) (s : Nat × Int) (b : Nat → Int64) (u : Ob), u.2.2.2 0 = b → Agr b a → b 9 = zL s.2 → b 10 = zL (if s.2 = -1 then 0 else s.1) → s.1 ≤ 8 → -1 ≤ s.2 → s.2 < 60000000 → (s.2 ≠ -1 → cnV (voW a m) F s.2 = s.1) → k + j = F → j < n → (fdC (cnV (voW a m) F) q (voW a m) j k s).2 = toldS a F q m →
    ∃ v b', l_X6_countsVotes_22 N n (zI s.1) (zI k) u = some (longS a F q m, oj v 0 b') ∧ Sc u v ∧ Agr b' a ∧ b' 9 = zL (toldS a F q m) ∧ b' 10 = zL (votdS a F q m) := by
  have F8 := hV.2.1
  have q2 := hV.2.2.2.1
  have q5 := hV.2.2.2.2.1
  intro j
  induction j with
  | zero =>
    intro k n s b u hu hA h9 h10 h8 hs1 hs2 hsn hk hn hfd
    obtain ⟨n, rfl⟩ : ∃ k, n = k + 1 := ⟨n - 1, by omega⟩
    obtain ⟨sm, st⟩ := s
    have hfd : st = toldS a F q m := hfd
    have h9 : b 9 = zL st := h9
    have h10 : b 10 = zL (if st = -1 then 0 else sm) := h10
    have hs1 : -1 ≤ st := hs1
    have hs2 : st < 60000000 := hs2
    have h8 : sm ≤ 8 := h8
    have hsn : st ≠ -1 → cnV (voW a m) F st = sm := hsn
    have : k = F := by omega
    subst this
    have hVb := Agr_VA hA hV
    have ev : b 10 = zL (votdS a k q m) := by
      rw [h10]
      unfold votdS
      rw [← hfd]
      by_cases g : st = -1
      · rw [if_pos g, if_pos g]
      · rw [if_neg g, if_neg g, hsn g]
    have eb : ∀ v : Ob, v.2.2.2 0 = b → oj v 0 b = v := by
      intro v hv
      rw [← hv]
      unfold oj
      rw [va_up_id]
    rw [l_X6_countsVotes_22, ifP (VA_le hVb hu k (by omega)) (Nat.le_refl _), hu, show (9 : Int32).toNatClampNeg = 9 from rfl, h9]
    simp only [zL_m1 (show -9223372036854775808 ≤ st by omega) (show st < 9223372036854775808 by omega)]
    unfold longS
    rw [← hfd]
    by_cases g : st = -1
    · rw [if_pos g, decide_eq_false (fun z => z.1 g)]
      refine ⟨u, b, by rw [eb u hu], Sc_rfl u, hA, h9, ev⟩
    · rw [if_neg g]
      have e1 : ((zL st + 1 - (zL st + 1) / 60 * 60) = 59) = ((st + 1) % 60 = 59) := by
        simp (maxSteps := 400000) (disch := omega) only [zI_lit, zI_neg, zI_add, zI_sub, zI_mul, zI_div, zI_tn, zI_toL, zL_lit, zL_neg, zL_add, zL_sub, zL_mul, zL_div, zL_toI, zI_lt, zI_le, zI_eq, zL_lt, zL_le, zL_eq]
        exact propext (by omega)
      simp only [e1]
      by_cases g2 : (st + 1) % 60 = 59
      · rw [if_pos g2]
        have hc : b 10 = zL ((cnV (voW a m) k st : Nat) : Int) := by rw [h10, if_neg g, hsn g]
        have := cnV_le (voW a m) st k
        obtain ⟨v, v1, v2⟩ := X6_cv_l190 hN hA hV (t := st) (c := cnV (voW a m) k st) h9 (by omega) (by omega) hc (by omega) (zI sm) k 0 N u hu (by omega) (by omega)
        refine ⟨v, b, ?_, v2, hA, h9, ev⟩
        rw [eb v (by rw [v2.2.2]; exact hu)]
        refine v1.trans ?_
        congr 2
        exact decide_eq_decide.mpr ⟨fun z => ⟨g, g2, z⟩, fun z => z.2.2⟩
      · rw [if_neg g2, decide_eq_false (fun z => g2 z.2.1)]
        refine ⟨u, b, by rw [eb u hu], Sc_rfl u, hA, h9, ev⟩
  | succ j ih =>
    intro k n s b u hu hA h9 h10 h8 hs1 hs2 hsn hk hn hfd
    obtain ⟨n, rfl⟩ : ∃ k, n = k + 1 := ⟨n - 1, by omega⟩
    obtain ⟨sm, st⟩ := s
    have h9 : b 9 = zL st := h9
    have h10 : b 10 = zL (if st = -1 then 0 else sm) := h10
    have hs1 : -1 ≤ st := hs1
    have hs2 : st < 60000000 := hs2
    have h8 : sm ≤ 8 := h8
    have hsn : st ≠ -1 → cnV (voW a m) F st = sm := hsn
    have hVb := Agr_VA hA hV
    obtain ⟨v, v1, v2, v3, v4⟩ := X6_vote hN hVb u hu (k := k) (by omega)
    rw [Agr_vo hA] at v1
    have vr := voW_rng a m (k := k) (by omega)
    rw [fdC] at hfd
    have same : ∀ (x3 x4 : Int32) (v : Ob), Sc u v → v.2.2.2 0 = b → stC (cnV (voW a m) F) q (voW a m k) (sm, st) = (sm, st) → ∃ w b', k_X6_countsVotes_144 N (l_X6_countsVotes_22 N n) (zI sm) (zI k) x3 x4 v = some (longS a F q m, oj w 0 b') ∧ Sc u w ∧ Agr b' a ∧ b' 9 = zL (toldS a F q m) ∧ b' 10 = zL (votdS a F q m) := by
      intro x3 x4 v hsc hv hst
      rw [hst] at hfd
      obtain ⟨w, b', w1, w2, w3⟩ := ih (k + 1) n (sm, st) b v hv hA h9 h10 h8 hs1 hs2 hsn (by omega) (by omega) hfd
      refine ⟨w, b', ?_, Sc_trans hsc w2, w3⟩
      rw [k_X6_countsVotes_144, zI_suc]
      exact w1
    rw [l_X6_countsVotes_22, ifN (VA_le hVb hu k (by omega)) (by omega), v1, Option.bind_some]
    show ∃ w b', (if zI (voW a m k) = -1 then _ else _) = _ ∧ _
    simp only [zI_m1 (show -2147483648 ≤ voW a m k by omega) (show voW a m k < 2147483648 by omega)]
    by_cases e : voW a m k = -1
    · rw [if_pos e]
      have hq : (zL 0 < v.2.2.2 0 1) = (0 < (q : Int)) := by
        rw [v3, hVb.2.2.1, zL_lt (by omega) (by omega) (by omega) (by omega)]
      have z0 : ((0 : Int32).toInt64 < v.2.2.2 0 ((1 : Int32).toNatClampNeg)) = (0 < (q : Int)) := hq
      show ∃ w b', (if (0 : Int32).toInt64 < v.2.2.2 0 ((1 : Int32).toNatClampNeg) then _ else _) = _ ∧ _
      rw [ifP z0 (by omega)]
      exact same _ _ v v2 v3 (if_pos (Or.inl e))
    · rw [if_neg e]
      obtain ⟨s, s1, s2, s3⟩ := X6_votesNow_v hN hVb (x := voW a m k) (by omega) (by omega) v v3
      rw [Agr_vo hA] at s1
      have c1 := cnV_le (voW a m) (voW a m k) F
      have sc : Sc u s := Sc_trans v2 s2
      rw [s1, Option.bind_some]
      have hq : ((zI (cnV (voW a m) F (voW a m k))).toInt64 < s.2.2.2 0 ((1 : Int32).toNatClampNeg)) = (cnV (voW a m) F (voW a m k) < q) := by
        rw [s3, show (1 : Int32).toNatClampNeg = 1 from rfl, hVb.2.2.1, zI_toL (by omega) (by omega), zL_lt (by omega) (by omega) (by omega) (by omega)]
        exact propext (by omega)
      show ∃ w b', (if (zI (cnV (voW a m) F (voW a m k))).toInt64 < s.2.2.2 0 ((1 : Int32).toNatClampNeg) then _ else (if zI sm ≤ zI (cnV (voW a m) F (voW a m k)) then (if zI sm < zI (cnV (voW a m) F (voW a m k)) then _ else (if s.2.2.2 0 ((9 : Int32).toNatClampNeg) = (zI (voW a m k)).toInt64 then _ else _)) else _)) = _ ∧ _
      rw [s3, show (9 : Int32).toNatClampNeg = 9 from rfl, h9, zI_toL (a := voW a m k) (by omega) (by omega), zI_toL (a := (cnV (voW a m) F (voW a m k) : Int)) (by omega) (by omega)]
      rw [s3, zI_toL (by omega) (by omega)] at hq
      simp (disch := omega) only [hq, zI_le, zI_lt, zL_eq]
      by_cases g1 : cnV (voW a m) F (voW a m k) < q
      · rw [if_pos g1]
        exact same _ _ s sc s3 (if_pos (Or.inr (Or.inl g1)))
      · rw [if_neg g1]
        by_cases g2 : (sm : Int) ≤ cnV (voW a m) F (voW a m k)
        · rw [if_pos g2]
          have new : ∀ t : Int, t = (if sm < cnV (voW a m) F (voW a m k) ∨ st = voW a m k then voW a m k else -1) → ∃ w b', k_X6_countsVotes_112 N (l_X6_countsVotes_22 N n) (zI sm) (zI k) (zI (voW a m k)) (zI (cnV (voW a m) F (voW a m k))) (zL t) s = some (longS a F q m, oj w 0 b') ∧ Sc u w ∧ Agr b' a ∧ b' 9 = zL (toldS a F q m) ∧ b' 10 = zL (votdS a F q m) := by
            intro t ht
            have hst : stC (cnV (voW a m) F) q (voW a m k) (sm, st) = (cnV (voW a m) F (voW a m k), t) := by
              unfold stC
              rw [if_neg (by show ¬ (voW a m k = -1 ∨ _ ∨ cnV (voW a m) F (voW a m k) < sm); omega), ht]
            rw [hst] at hfd
            have tr : t = voW a m k ∨ t = -1 := by rw [ht]; split <;> simp
            have go : ∀ y : Int64, y = zL (if t = -1 then 0 else (cnV (voW a m) F (voW a m k) : Nat)) → ∃ w b', k_X6_countsVotes_140 N (l_X6_countsVotes_22 N n) (zI sm) (zI k) (zI (voW a m k)) (zI (cnV (voW a m) F (voW a m k))) y (oj s 0 (vp_updL (s.2.2.2 0) 9 (zL t))) = some (longS a F q m, oj w 0 b') ∧ Sc u w ∧ Agr b' a ∧ b' 9 = zL (toldS a F q m) ∧ b' 10 = zL (votdS a F q m) := by
              intro y hy
              have er : (oj s 0 (vp_updL (s.2.2.2 0) 9 (zL t))).2.2.2 0 = vp_updL b 9 (zL t) := by
                rw [s3]; exact oj_s s 0 _
              have er2 : (oj (oj s 0 (vp_updL (s.2.2.2 0) 9 (zL t))) 0 (vp_updL (vp_updL b 9 (zL t)) 10 y)).2.2.2 0 = vp_updL (vp_updL b 9 (zL t)) 10 y := oj_s _ 0 _
              obtain ⟨w, b', w1, w2, w3⟩ := ih (k + 1) n (cnV (voW a m) F (voW a m k), t) (vp_updL (vp_updL b 9 (zL t)) 10 y) _ er2 (fun i h1 h2 => by simp [vp_updL, h1, h2]; exact hA i h1 h2) (by simp [vp_updL]) (by simp [vp_updL]; exact hy) (by show cnV (voW a m) F (voW a m k) ≤ 8; omega) (by show -1 ≤ t; omega) (by show t < 60000000; omega) (by
                show t ≠ -1 → _
                intro h
                rcases tr with r | r
                · rw [r]
                · exact absurd r h) (by omega) (by omega) hfd
              refine ⟨oj w 0 (s.2.2.2 0), b', ?_, ?_, w3⟩
              · rw [k_X6_countsVotes_140, k_X6_countsVotes_144, zI_suc, er, show (10 : Int32).toNatClampNeg = 10 from rfl]
                refine w1.trans ?_
                congr 2
                unfold oj
                rw [va_up_up]
              · refine Sc_trans sc ⟨fun i h => w2.1 i h, fun i h => w2.2.1 i h, ?_⟩
                have e3 := w2.2.2
                have e4 : (oj w 0 (s.2.2.2 0)).2.2 = (w.2.2.1, va_up w.2.2.2 0 (s.2.2.2 0)) := rfl
                rw [e4, e3]
                show (s.2.2.1, va_up (va_up (va_up s.2.2.2 0 _) 0 _) 0 (s.2.2.2 0)) = s.2.2
                rw [va_up_up, va_up_up, va_up_id]
            rw [k_X6_countsVotes_112, show (9 : Int32).toNatClampNeg = 9 from rfl]
            have e9 : vp_updL (s.2.2.2 0) 9 (zL t) 9 = zL t := by simp [vp_updL]
            rw [e9]
            by_cases g : t = -1
            · rw [ifP (zL_m1 (by omega) (by omega)) g]
              exact go 0 (by rw [if_pos g]; rfl)
            · rw [ifN (zL_m1 (by omega) (by omega)) g]
              exact go _ (by rw [if_neg g, zI_toL (by omega) (by omega)])
          by_cases g3 : (sm : Int) < cnV (voW a m) F (voW a m k)
          · rw [if_pos g3]
            exact new (voW a m k) (if_pos (Or.inl (by omega))).symm
          · rw [if_neg g3]
            by_cases g4 : st = voW a m k
            · rw [if_pos g4]
              exact new (voW a m k) (if_pos (Or.inr g4)).symm
            · rw [if_neg g4]
              exact new (-1) (if_neg (by omega)).symm
        · rw [if_neg g2]
          exact same _ _ s sc s3 (if_pos (Or.inr (Or.inr (by show _ < sm; omega))))
theorem X6_countsVotes_v {N : Nat} (hN : 700 ≤ N) {a : Nat → Int64} {F q : Nat} {m : Int} (hV : VA a F q m) (u : Ob) (hu : u.2.2.2 0 = a) :
    ∃ v b, f_X6_countsVotes N u = some (longS a F q m, oj v 0 b) ∧ Sc u v ∧ Agr b a ∧ b 9 = zL (toldS a F q m) ∧ b 10 = zL (votdS a F q m) := by
  have F8 := hV.2.1
  have er2 : (oj (oj u 0 (vp_updL (u.2.2.2 0) 9 (-1))) 0 (vp_updL (vp_updL (u.2.2.2 0) 9 (-1)) 10 0)).2.2.2 0 = vp_updL (vp_updL a 9 (-1)) 10 0 := by rw [← hu]; exact oj_s _ 0 _
  obtain ⟨w, b', w1, w2, w3⟩ := X6_cv_l22 hN hV F 0 N (0, -1) (vp_updL (vp_updL a 9 (-1)) 10 0) _ er2 (fun i h1 h2 => by simp [vp_updL, h1, h2]) (by simp [vp_updL]; rfl) (by simp [vp_updL]; rfl) (by decide) (by decide) (by decide) (fun h => absurd rfl h) (by omega) (by omega) (fdC_win (by have := hV.2.2.2.1; omega) (by have := hV.2.2.2.1; omega))
  refine ⟨oj w 0 (u.2.2.2 0), b', ?_, ?_, w3⟩
  · refine w1.trans ?_
    congr 2
    unfold oj
    rw [va_up_up]
  · refine ⟨fun i h => w2.1 i h, fun i h => w2.2.1 i h, ?_⟩
    have e3 := w2.2.2
    have e4 : (oj w 0 (u.2.2.2 0)).2.2 = (w.2.2.1, va_up w.2.2.2 0 (u.2.2.2 0)) := rfl
    rw [e4, e3]
    show (u.2.2.1, va_up (va_up (va_up u.2.2.2 0 _) 0 _) 0 (u.2.2.2 0)) = u.2.2
    rw [va_up_up, va_up_up, va_up_id]
