/-! the reference's votes -/
def VA (a : Nat → Int64) (F q : Nat) (m : Int) : Prop := a 12 = zL F ∧ F ≤ 8 ∧ a 1 = zL q ∧ 2 ≤ q ∧ q ≤ 5 ∧ a 3 = zL m ∧ 0 ≤ m ∧ m ≤ 3
def voW (a : Nat → Int64) (m : Int) (k : Nat) : Int := voteS (a (16 + 2 * k)) (a (17 + 2 * k)) m k
theorem voW_rng (a : Nat → Int64) (m : Int) {k : Nat} (hk : k < 8) : -1 ≤ voW a m k ∧ voW a m k < 52596008 := by
  have := tellS_rng (a (16 + 2 * k)) (a (17 + 2 * k)) m
  unfold voW voteS
  split <;> omega
theorem X6_vote {N : Nat} (hN : 700 ≤ N) {a : Nat → Int64} {F q : Nat} {m : Int} (hV : VA a F q m) (u : Ob) (hu : u.2.2.2 0 = a) {k : Nat} (hk : k < F) :
    ∃ v, f_X6_votesFor N (zI k) u = some (zI (voW a m k), v) ∧ Sc u v ∧ v.2.2.2 0 = a ∧ (voW a m k ≠ -1 → lb (v.2.1 19) 19 = lb (a (16 + 2 * k)) 19) := by
  obtain ⟨b1, b2, b3, b4, b5, b6, b7, b8⟩ := hV
  obtain ⟨v, v1, v2, v3⟩ := X6_votesFor_v hN (k := k) (m := m) (by omega) (by omega) u (by rw [hu]; exact b6) b7 b8
  rw [hu] at v1 v3
  exact ⟨v, v1, v2, by rw [v2.2.2]; exact hu, v3⟩
theorem VA_le {a : Nat → Int64} {F q : Nat} {m : Int} (hV : VA a F q m) {u : Ob} (hu : u.2.2.2 0 = a) (k : Nat) (hk : k < 100) : ((u.2.2.2 0) ((12 : Int32).toNatClampNeg) ≤ (zI (k : Int)).toInt64) = (F ≤ k) := by
  obtain ⟨b1, b2, b3, b4, b5, b6, b7, b8⟩ := hV
  rw [hu, show (12 : Int32).toNatClampNeg = 12 from rfl, b1, zI_toL (by omega) (by omega), zL_le (by omega) (by omega) (by omega) (by omega)]
  exact propext (by omega)
theorem X6_votesNow_l {N : Nat} (hN : 700 ≤ N) {a : Nat → Int64} {F q : Nat} {m : Int} (hV : VA a F q m) {x : Int} (hx1 : -2147483648 ≤ x) (hx2 : x < 2147483648) : ∀ (j k n : Nat) (u : Ob), u.2.2.2 0 = a → k + j = F → j < n →
    ∃ v, l_X6_votesNow_4 N (zI x) n (zI (cnV (voW a m) k x)) (zI k) u = some (zI (cnV (voW a m) F x), v) ∧ Sc u v := by
  have F8 := hV.2.1
  intro j
  induction j with
  | zero =>
    intro k n u hu hk hn
    obtain ⟨n, rfl⟩ : ∃ k, n = k + 1 := ⟨n - 1, by omega⟩
    have : k = F := by omega
    subst this
    refine ⟨u, ?_, Sc_rfl u⟩
    rw [l_X6_votesNow_4, ifP (VA_le hV hu k (by omega)) (Nat.le_refl _)]
  | succ j ih =>
    intro k n u hu hk hn
    obtain ⟨n, rfl⟩ : ∃ k, n = k + 1 := ⟨n - 1, by omega⟩
    obtain ⟨v, v1, v2, v3, v4⟩ := X6_vote hN hV u hu (k := k) (by omega)
    obtain ⟨w, w1, w2⟩ := ih (k + 1) n v v3 (by omega) (by omega)
    have vr := voW_rng a m (k := k) (by omega)
    refine ⟨w, ?_, Sc_trans v2 w2⟩
    rw [l_X6_votesNow_4, ifN (VA_le hV hu k (by omega)) (by omega), v1, Option.bind_some, zI_suc, zI_suc, zI_ad0]
    rw [cnV] at w1
    show (if zI (voW a m k) = -1 then _ else _) = _
    by_cases e : voW a m k = -1
    · rw [if_neg (show ¬ (voW a m k = x ∧ x ≠ -1) by omega), Nat.add_zero] at w1
      rw [ifP (zI_m1 (by omega) (by omega)) e]
      exact w1
    · rw [ifN (zI_m1 (by omega) (by omega)) e]
      by_cases g : voW a m k = x
      · rw [if_pos ⟨g, by omega⟩] at w1
        rw [if_pos (show zI (voW a m k) = zI x by rw [g])]
        exact w1
      · rw [if_neg (fun z => g z.1), Nat.add_zero] at w1
        rw [ifN (zI_eq (by omega) (by omega) (by omega) (by omega)) g]
        exact w1
theorem X6_votesNow_v {N : Nat} (hN : 700 ≤ N) {a : Nat → Int64} {F q : Nat} {m : Int} (hV : VA a F q m) {x : Int} (hx1 : -2147483648 ≤ x) (hx2 : x < 2147483648) (u : Ob) (hu : u.2.2.2 0 = a) :
    ∃ v, f_X6_votesNow N (zI x) u = some (zI (cnV (voW a m) F x), v) ∧ Sc u v ∧ v.2.2.2 0 = a := by
  have F8 := hV.2.1
  obtain ⟨v, v1, v2⟩ := X6_votesNow_l hN hV hx1 hx2 F 0 N u hu (by omega) (by omega)
  exact ⟨v, v1, v2, by rw [v2.2.2]; exact hu⟩
theorem X6_favourite_l {N : Nat} (hN : 700 ≤ N) {a : Nat → Int64} {F q : Nat} {m : Int} (hV : VA a F q m) : ∀ (j k n : Nat) (b : Int) (u : Ob), u.2.2.2 0 = a → k + j = F → j < n →
    (b = -1 ∧ (∀ i, i < k → voW a m i = -1) ∨ 0 ≤ b ∧ b < 52596008 ∧ 0 < cnV (voW a m) F b ∧ ∀ i, i < k → voW a m i ≠ -1 → cnV (voW a m) F (voW a m i) < cnV (voW a m) F b ∨ (cnV (voW a m) F (voW a m i) = cnV (voW a m) F b ∧ b ≤ voW a m i)) →
    ∃ v, l_X6_favourite_4 N n (zI b) (zI k) u = some (zI (if leadN (cnV (voW a m) F) = -1 then 0 else leadN (cnV (voW a m) F)), oi v 7 (if leadN (cnV (voW a m) F) = -1 then 1 else 0)) ∧ Sc u v := by
  have F8 := hV.2.1
  intro j
  induction j with
  | zero =>
    intro k n b u hu hk hn hb
    obtain ⟨n, rfl⟩ : ∃ k, n = k + 1 := ⟨n - 1, by omega⟩
    have : k = F := by omega
    subst this
    refine ⟨u, ?_, Sc_rfl u⟩
    have e : leadN (cnV (voW a m) k) = b := by
      rcases hb with ⟨b1, b2⟩ | ⟨b1, b2, b3, b4⟩
      · rw [leadN_none, b1]
        intro v hv
        by_cases p : 0 < cnV (voW a m) k v
        · obtain ⟨i, k1, k2, k3⟩ := cnV_pos k p
          have := b2 i k1
          omega
        · omega
      · refine leadN_some ⟨by omega, b3, fun v hv => ?_⟩
        by_cases p : 0 < cnV (voW a m) k v
        · obtain ⟨i, k1, k2, k3⟩ := cnV_pos k p
          have := b4 i k1 (by omega)
          rwa [k2] at this
        · exact Or.inl (by omega)
    rw [l_X6_favourite_4, ifP (VA_le hV hu k (by omega)) (Nat.le_refl _), e]
    by_cases g : b = -1
    · rw [ifP (zI_m1 (by omega) (by omega)) g, if_pos g, if_pos g]
      rfl
    · rw [ifN (zI_m1 (by omega) (by omega)) g, if_neg g, if_neg g]
  | succ j ih =>
    intro k n b u hu hk hn hb
    obtain ⟨n, rfl⟩ : ∃ k, n = k + 1 := ⟨n - 1, by omega⟩
    obtain ⟨v, v1, v2, v3, v4⟩ := X6_vote hN hV u hu (k := k) (by omega)
    have vr := voW_rng a m (k := k) (by omega)
    rw [l_X6_favourite_4, ifN (VA_le hV hu k (by omega)) (by omega), v1, Option.bind_some, zI_suc]
    show ∃ v', (if zI (voW a m k) = -1 then _ else _) = _ ∧ _
    simp only [zI_m1 (show -2147483648 ≤ voW a m k by omega) (show voW a m k < 2147483648 by omega), zI_m1 (show -2147483648 ≤ b by omega) (show b < 2147483648 by omega)]
    by_cases e : voW a m k = -1
    · obtain ⟨w, w1, w2⟩ := ih (k + 1) n b v v3 (by omega) (by omega) (by
        rcases hb with ⟨b1, b2⟩ | ⟨b1, b2, b3, b4⟩
        · refine Or.inl ⟨b1, fun i hi => ?_⟩
          by_cases p : i = k
          · rw [p]; exact e
          · exact b2 i (by omega)
        · refine Or.inr ⟨b1, b2, b3, fun i hi h => ?_⟩
          by_cases p : i = k
          · rw [p] at h; exact absurd e h
          · exact b4 i (by omega) h)
      refine ⟨w, ?_, Sc_trans v2 w2⟩
      rw [if_pos e]
      exact w1
    · have ps : 0 < cnV (voW a m) F (voW a m k) := cnV_mem (j := k) (by omega) rfl e
      rw [if_neg e]
      by_cases g : b = -1
      · obtain ⟨w, w1, w2⟩ := ih (k + 1) n (voW a m k) v v3 (by omega) (by omega) (by
          rcases hb with ⟨b1, b2⟩ | ⟨b1, b2, b3, b4⟩
          · refine Or.inr ⟨by omega, by omega, ps, fun i hi h => ?_⟩
            by_cases p : i = k
            · rw [p]; exact Or.inr ⟨rfl, Int.le_refl _⟩
            · exact absurd (b2 i (by omega)) h
          · omega)
        refine ⟨w, ?_, Sc_trans v2 w2⟩
        rw [if_pos g]
        exact w1
      · obtain ⟨b1, b2, b3, b4⟩ : 0 ≤ b ∧ b < 52596008 ∧ 0 < cnV (voW a m) F b ∧ ∀ i, i < k → voW a m i ≠ -1 → cnV (voW a m) F (voW a m i) < cnV (voW a m) F b ∨ (cnV (voW a m) F (voW a m i) = cnV (voW a m) F b ∧ b ≤ voW a m i) := by
          rcases hb with h | h
          · exact absurd h.1 g
          · exact h
        obtain ⟨s, s1, s2, s3⟩ := X6_votesNow_v hN hV (x := voW a m k) (by omega) (by omega) v v3
        obtain ⟨t, t1, t2, t3⟩ := X6_votesNow_v hN hV (x := b) (by omega) (by omega) s s3
        have c1 := cnV_le (voW a m) (voW a m k) F
        have c2 := cnV_le (voW a m) b F
        have sc : Sc u t := Sc_trans v2 (Sc_trans s2 t2)
        rw [if_neg g, s1, Option.bind_some, t1, Option.bind_some]
        have new : (cnV (voW a m) F b < cnV (voW a m) F (voW a m k) ∨ (cnV (voW a m) F b = cnV (voW a m) F (voW a m k) ∧ voW a m k < b)) → ∃ v', l_X6_favourite_4 N n (zI (voW a m k)) (zI ((k + 1 : Nat) : Int)) t = some (zI (if leadN (cnV (voW a m) F) = -1 then 0 else leadN (cnV (voW a m) F)), oi v' 7 (if leadN (cnV (voW a m) F) = -1 then 1 else 0)) ∧ Sc u v' := by
          intro hne
          obtain ⟨w, w1, w2⟩ := ih (k + 1) n (voW a m k) t t3 (by omega) (by omega) (Or.inr ⟨by omega, by omega, ps, fun i hi h => by
            by_cases p : i = k
            · rw [p]; exact Or.inr ⟨rfl, Int.le_refl _⟩
            · have := b4 i (by omega) h
              omega⟩)
          exact ⟨w, w1, Sc_trans sc w2⟩
        have old : (cnV (voW a m) F (voW a m k) < cnV (voW a m) F b ∨ (cnV (voW a m) F (voW a m k) = cnV (voW a m) F b ∧ b ≤ voW a m k)) → ∃ v', l_X6_favourite_4 N n (zI b) (zI ((k + 1 : Nat) : Int)) t = some (zI (if leadN (cnV (voW a m) F) = -1 then 0 else leadN (cnV (voW a m) F)), oi v' 7 (if leadN (cnV (voW a m) F) = -1 then 1 else 0)) ∧ Sc u v' := by
          intro hne
          obtain ⟨w, w1, w2⟩ := ih (k + 1) n b t t3 (by omega) (by omega) (Or.inr ⟨b1, b2, b3, fun i hi h => by
            by_cases p : i = k
            · rw [p]; exact hne
            · exact b4 i (by omega) h⟩)
          exact ⟨w, w1, Sc_trans sc w2⟩
        show ∃ v', (if 0 < zI (cnV (voW a m) F (voW a m k)) - zI (cnV (voW a m) F b) then _ else if zI (cnV (voW a m) F (voW a m k)) - zI (cnV (voW a m) F b) = 0 then (if zI b ≤ zI (voW a m k) then _ else _) else _) = _ ∧ _
        rw [zI_sub, show (0 : Int32) = zI 0 from rfl]
        simp (disch := omega) only [zI_lt, zI_eq, zI_le]
        by_cases g1 : 0 < (cnV (voW a m) F (voW a m k) : Int) - cnV (voW a m) F b
        · rw [if_pos g1]
          exact new (by omega)
        · rw [if_neg g1]
          by_cases g2 : (cnV (voW a m) F (voW a m k) : Int) - cnV (voW a m) F b = 0
          · rw [if_pos g2]
            by_cases g3 : b ≤ voW a m k
            · rw [if_pos g3]
              exact old (by omega)
            · rw [if_neg g3]
              exact new (by omega)
          · rw [if_neg g2]
            exact old (by omega)
