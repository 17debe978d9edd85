/-! the minute assembled, dissenting, weakest -/
def bvW (a : Nat → Int64) (b : Nat) (t : Int) (k : Nat) : Int := if blkV (a (16 + 2 * k)) (a (17 + 2 * k)) b = -1 then -1 else if b = 0 then (blkV (a (16 + 2 * k)) (a (17 + 2 * k)) b + k) % 60 else if t < k then -1 else blkV (a (16 + 2 * k)) (a (17 + 2 * k)) b
theorem bvW_rng (a : Nat → Int64) (b : Nat) (t : Int) (k : Nat) : -1 ≤ bvW a b t k ∧ bvW a b t k < 36525 := by
  have := blkV_rng (a (16 + 2 * k)) (a (17 + 2 * k)) b
  unfold bvW
  grind
theorem zI_mod60 {x : Int} (h1 : 0 ≤ x) (h2 : x < 2147483648) : zI x - zI x / 60 * 60 = zI (x % 60) := by
  simp (maxSteps := 400000) (disch := omega) only [zI_lit, zI_neg, zI_add, zI_sub, zI_mul, zI_div, zI_tn, zI_toL, zL_lit, zL_neg, zL_add, zL_sub, zL_mul, zL_div, zL_toI, zI_lt, zI_le, zI_eq, zL_lt, zL_le, zL_eq]
  congr 1
  omega
theorem X6_blockVote_v {N : Nat} (hN : 700 ≤ N) {b k : Nat} (hb : b < 3) (hk : k < 8) {t : Int} (t1 : -1 ≤ t) (t2 : t < 2147483648) (mo : Ob) : f_X6_blockVote N (zI k) (zI b) (zI t) mo = some (zI (bvW (mo.2.2.2 0) b t k)) := by
  have r := blkV_rng (mo.2.2.2 0 (16 + 2 * k)) (mo.2.2.2 0 (17 + 2 * k)) b
  rw [f_X6_blockVote, X6_blockOf_v hN hb hk, Option.bind_some]
  unfold bvW
  generalize blkV (mo.2.2.2 0 (16 + 2 * k)) (mo.2.2.2 0 (17 + 2 * k)) b = v at *
  by_cases g : v = -1
  · rw [if_pos g, ifP (zI_m1 (by omega) (by omega)) g]
    rfl
  · rw [if_neg g, ifN (zI_m1 (by omega) (by omega)) g]
    have c1 : (zI (b : Int) ≤ 0) = (b = 0) := by
      rw [zI_lit, zI_le (by omega) (by omega) (by omega) (by omega)]
      exact propext (by omega)
    have c2 : (zI (b : Int) = 0) = (b = 0) := by
      rw [zI_lit, zI_eq (by omega) (by omega) (by omega) (by omega)]
      exact propext (by omega)
    have c3 : (zI (k : Int) ≤ zI t) = ((k : Int) ≤ t) := zI_le (by omega) (by omega) (by omega) (by omega)
    by_cases gb : b = 0
    · rw [ifP c1 gb, ifP c2 gb, if_pos gb, zI_add, zI_mod60 (by omega) (by omega)]
    · rw [ifN c1 gb, if_neg gb]
      by_cases gt : t < k
      · rw [ifN c3 (by omega), if_pos gt]
        rfl
      · rw [ifP c3 (by omega), if_neg gt, ifN c2 gb]
theorem X6_blockVotes_l {N : Nat} (hN : 700 ≤ N) {b F q : Nat} {m t x : Int} (hb : b < 3) (t1 : -1 ≤ t) (t2 : t < 2147483648) (x1 : 0 ≤ x) (x2 : x < 60000000) {mo : Ob} (hV : VA (mo.2.2.2 0) F q m) : ∀ (j k n : Nat), k + j = F → j < n → l_X6_blockVotes_6 N (zI x) (zI b) (zI t) mo n (zI (cnV (bvW (mo.2.2.2 0) b t) k x)) (zI k) = some (zI (cnV (bvW (mo.2.2.2 0) b t) F x)) := by
  have F8 := hV.2.1
  intro j
  induction j with
  | zero =>
    intro k n hk hn
    obtain ⟨n, rfl⟩ : ∃ k, n = k + 1 := ⟨n - 1, by omega⟩
    have : k = F := by omega
    subst this
    rw [l_X6_blockVotes_6, ifP (VA_le hV rfl k (by omega)) (Nat.le_refl _)]
  | succ j ih =>
    intro k n hk hn
    obtain ⟨n, rfl⟩ : ∃ k, n = k + 1 := ⟨n - 1, by omega⟩
    have w := ih (k + 1) n (by omega) (by omega)
    have r := bvW_rng (mo.2.2.2 0) b t k
    rw [l_X6_blockVotes_6, ifN (VA_le hV rfl k (by omega)) (by omega), X6_blockVote_v hN hb (by omega) t1 t2, Option.bind_some, zI_suc k, zI_suc (cnV (bvW (mo.2.2.2 0) b t) k x), zI_ad0]
    rw [cnV] at w
    by_cases e : bvW (mo.2.2.2 0) b t k = x
    · rw [if_pos ⟨e, by omega⟩] at w
      rw [if_pos (show zI (bvW (mo.2.2.2 0) b t k) = zI x by rw [e])]
      exact w
    · rw [if_neg (fun z => e z.1), Nat.add_zero] at w
      rw [ifN (zI_eq (by omega) (by omega) (by omega) (by omega)) e]
      exact w
theorem X6_chosen_l {N : Nat} (hN : 700 ≤ N) {b F q : Nat} {m t : Int} (hb : b < 3) (t1 : -1 ≤ t) (t2 : t < 2147483648) {mo : Ob} (hV : VA (mo.2.2.2 0) F q m) : ∀ (j k n : Nat) (s : Nat × Int), s.1 ≤ 8 → -1 ≤ s.2 → s.2 < 60000000 → (s.2 ≠ -1 → cnV (bvW (mo.2.2.2 0) b t) F s.2 = s.1) → k + j = F → j < n → l_X6_chosenBy_16 N (zI b) (zI t) mo n (zI s.2) (zI s.1) (zI k) = some (zI (fdC (cnV (bvW (mo.2.2.2 0) b t) F) q (bvW (mo.2.2.2 0) b t) j k s).2) := by
  have F8 := hV.2.1
  have q2 := hV.2.2.2.1
  have q5 := hV.2.2.2.2.1
  have hq := hV.2.2.1
  intro j
  induction j with
  | zero =>
    intro k n s h8 s1 s2 hs hk hn
    obtain ⟨n, rfl⟩ : ∃ k, n = k + 1 := ⟨n - 1, by omega⟩
    have : k = F := by omega
    subst this
    rw [l_X6_chosenBy_16, ifP (VA_le hV rfl k (by omega)) (Nat.le_refl _)]
    rfl
  | succ j ih =>
    intro k n s h8 s1 s2 hs hk hn
    obtain ⟨n, rfl⟩ : ∃ k, n = k + 1 := ⟨n - 1, by omega⟩
    obtain ⟨sm, st⟩ := s
    have h8 : sm ≤ 8 := h8
    have s1 : -1 ≤ st := s1
    have s2 : st < 60000000 := s2
    have hs : st ≠ -1 → cnV (bvW (mo.2.2.2 0) b t) F st = sm := hs
    have r := bvW_rng (mo.2.2.2 0) b t k
    have c1 := cnV_le (bvW (mo.2.2.2 0) b t) (bvW (mo.2.2.2 0) b t k) F
    show l_X6_chosenBy_16 N (zI b) (zI t) mo (n + 1) (zI st) (zI sm) (zI k) = _
    rw [l_X6_chosenBy_16, ifN (VA_le hV rfl k (by omega)) (by omega), X6_blockVote_v hN hb (by omega) t1 t2, Option.bind_some, zI_suc k, fdC, show (1 : Int32).toNatClampNeg = 1 from rfl, hq]
    have same : stC (cnV (bvW (mo.2.2.2 0) b t) F) q (bvW (mo.2.2.2 0) b t k) (sm, st) = (sm, st) → l_X6_chosenBy_16 N (zI b) (zI t) mo n (zI st) (zI sm) (zI ((k + 1 : Nat) : Int)) = some (zI (fdC (cnV (bvW (mo.2.2.2 0) b t) F) q (bvW (mo.2.2.2 0) b t) j (k + 1) (stC (cnV (bvW (mo.2.2.2 0) b t) F) q (bvW (mo.2.2.2 0) b t k) (sm, st))).2) := by
      intro e
      rw [e]
      exact ih (k + 1) n (sm, st) h8 s1 s2 hs (by omega) (by omega)
    by_cases e : bvW (mo.2.2.2 0) b t k = -1
    · rw [ifP (zI_m1 (by omega) (by omega)) e, if_pos (show (0 : Int32).toInt64 < zL (q : Int) by
        rw [show (0 : Int32).toInt64 = zL 0 from rfl, zL_lt (by omega) (by omega) (by omega) (by omega)]; omega)]
      exact same (if_pos (Or.inl e))
    · rw [ifN (zI_m1 (by omega) (by omega)) e]
      have bv := X6_blockVotes_l hN hb t1 t2 (x := bvW (mo.2.2.2 0) b t k) (by omega) (by omega) hV F 0 N (by omega) (by omega)
      have bv : f_X6_blockVotes N (zI (bvW (mo.2.2.2 0) b t k)) (zI b) (zI t) mo = some (zI (cnV (bvW (mo.2.2.2 0) b t) F (bvW (mo.2.2.2 0) b t k))) := bv
      rw [bv, Option.bind_some, zI_toL (by omega) (by omega)]
      have d1 : (zL ((cnV (bvW (mo.2.2.2 0) b t) F (bvW (mo.2.2.2 0) b t k) : Nat) : Int) < zL (q : Int)) = (cnV (bvW (mo.2.2.2 0) b t) F (bvW (mo.2.2.2 0) b t k) < q) := by
        rw [zL_lt (by omega) (by omega) (by omega) (by omega)]
        exact propext (by omega)
      have d2 : (zI ((cnV (bvW (mo.2.2.2 0) b t) F (bvW (mo.2.2.2 0) b t k) : Nat) : Int) < zI (sm : Int)) = (cnV (bvW (mo.2.2.2 0) b t) F (bvW (mo.2.2.2 0) b t k) < sm) := by
        rw [zI_lt (by omega) (by omega) (by omega) (by omega)]
        exact propext (by omega)
      have d3 : (zI (bvW (mo.2.2.2 0) b t k) = zI st) = (bvW (mo.2.2.2 0) b t k = st) := zI_eq (by omega) (by omega) (by omega) (by omega)
      have d4 : (zI ((cnV (bvW (mo.2.2.2 0) b t) F (bvW (mo.2.2.2 0) b t k) : Nat) : Int) ≤ zI (sm : Int)) = (cnV (bvW (mo.2.2.2 0) b t) F (bvW (mo.2.2.2 0) b t k) ≤ sm) := by
        rw [zI_le (by omega) (by omega) (by omega) (by omega)]
        exact propext (by omega)
      generalize hnv : cnV (bvW (mo.2.2.2 0) b t) F (bvW (mo.2.2.2 0) b t k) = nv at *
      by_cases g1 : nv < q
      · rw [ifP d1 g1]
        exact same (if_pos (Or.inr (Or.inl (by rw [hnv]; exact g1))))
      · rw [ifN d1 g1]
        by_cases g2 : nv < sm
        · rw [ifP d2 g2]
          exact same (if_pos (Or.inr (Or.inr (by rw [hnv]; exact g2))))
        · rw [ifN d2 g2]
          have hst : stC (cnV (bvW (mo.2.2.2 0) b t) F) q (bvW (mo.2.2.2 0) b t k) (sm, st) = (nv, if sm < nv ∨ st = bvW (mo.2.2.2 0) b t k then bvW (mo.2.2.2 0) b t k else -1) := by
            unfold stC
            rw [hnv, if_neg (by show ¬ (_ ∨ nv < q ∨ nv < sm); omega)]
          by_cases g3 : bvW (mo.2.2.2 0) b t k = st
          · rw [ifP d3 g3]
            refine same ?_
            rw [hst, if_pos (Or.inr g3.symm)]
            have := hs (by omega)
            rw [← g3, hnv] at this
            rw [this, g3]
          · rw [ifN d3 g3, hst]
            by_cases g4 : nv ≤ sm
            · rw [ifP d4 g4, if_neg (by omega)]
              exact ih (k + 1) n (nv, -1) (by show nv ≤ 8; omega) (by show (-1 : Int) ≤ -1; omega) (by show (-1 : Int) < 60000000; omega) (fun z => absurd rfl z) (by omega) (by omega)
            · rw [ifN d4 g4, if_pos (by omega)]
              exact ih (k + 1) n (nv, bvW (mo.2.2.2 0) b t k) (by show nv ≤ 8; omega) (by show -1 ≤ bvW (mo.2.2.2 0) b t k; omega) (by show bvW (mo.2.2.2 0) b t k < 60000000; omega) (fun _ => hnv) (by omega) (by omega)
theorem X6_chosenBy_v {N : Nat} (hN : 700 ≤ N) {b F q : Nat} {m t : Int} (hb : b < 3) (t1 : -1 ≤ t) (t2 : t < 2147483648) {mo : Ob} (hV : VA (mo.2.2.2 0) F q m) : f_X6_chosenBy N (zI b) (zI t) mo = some (zI (winN (cnV (bvW (mo.2.2.2 0) b t) F) q)) := by
  have F8 := hV.2.1
  have q2 := hV.2.2.2.1
  have q5 := hV.2.2.2.2.1
  have z : (zL (q : Int)).toInt32 - 1 = zI ((q - 1 : Nat) : Int) := by
    rw [zL_toI, zI_lit, zI_sub]
    congr 1
    omega
  rw [f_X6_chosenBy, show (1 : Int32).toNatClampNeg = 1 from rfl, hV.2.2.1, z]
  have := X6_chosen_l hN hb t1 t2 hV F 0 N (q - 1, -1) (by show q - 1 ≤ 8; omega) (by show (-1 : Int) ≤ -1; omega) (by show (-1 : Int) < 60000000; omega) (fun z => absurd rfl z) (by omega) (by omega)
  rw [fdC_win (by omega) (by omega)] at this
  exact this
theorem winN_mem {w : Nat → Int} {F q : Nat} (h : winN (cnV w F) q ≠ -1) : ∃ k, k < F ∧ w k = winN (cnV w F) q := by
  by_cases g : ∃ r, goodN (cnV w F) q r
  · obtain ⟨r, hr⟩ := g
    obtain ⟨j, j1, j2, j3⟩ := cnV_pos F hr.2.1
    exact ⟨j, j1, by rw [winN_some hr]; exact j2⟩
  · exact absurd (winN_none (fun r hr => g ⟨r, hr⟩)) h
theorem blkV_0 (o d : Int64) : blkV o d 0 ≤ 59 := by
  unfold blkV
  grind (splits := 20)
theorem blkV_1 (o d : Int64) : blkV o d 1 ≤ 23 := by
  unfold blkV
  grind (splits := 20)
noncomputable def mnW (a : Nat → Int64) (F q : Nat) : Int := winN (cnV (bvW a 0 0) F) q
noncomputable def bkW (a : Nat → Int64) (F q b : Nat) : Int := winN (cnV (bvW a b (mnW a F q)) F) q
noncomputable def asmV (a : Nat → Int64) (F q : Nat) : Int := if mnW a F q = -1 then -1 else if bkW a F q 1 = -1 then -1 else if bkW a F q 2 = -1 then -1 else 1440 * bkW a F q 2 + 60 * bkW a F q 1 + mnW a F q
theorem mnW_rng (a : Nat → Int64) (F q : Nat) : -1 ≤ mnW a F q ∧ mnW a F q ≤ 59 := by
  by_cases g : mnW a F q = -1
  · omega
  · obtain ⟨k, k1, k2⟩ := winN_mem g
    have k2 : bvW a 0 0 k = mnW a F q := k2
    have := bvW_rng a 0 0 k
    rw [← k2]
    unfold bvW at *
    grind
theorem bkW_rng (a : Nat → Int64) (F q b : Nat) : -1 ≤ bkW a F q b ∧ bkW a F q b < 36525 ∧ (b = 1 → bkW a F q b ≤ 23) := by
  by_cases g : bkW a F q b = -1
  · omega
  · obtain ⟨k, k1, k2⟩ := winN_mem g
    have k2 : bvW a b (mnW a F q) k = bkW a F q b := k2
    have := bvW_rng a b (mnW a F q) k
    have h1 := blkV_1 (a (16 + 2 * k)) (a (17 + 2 * k))
    rw [← k2]
    refine ⟨this.1, this.2, fun hb => ?_⟩
    subst hb
    unfold bvW
    grind
theorem asmV_rng (a : Nat → Int64) (F q : Nat) : -1 ≤ asmV a F q ∧ asmV a F q < 52596000 := by
  have h1 := mnW_rng a F q
  have h2 := bkW_rng a F q 1
  have h3 := bkW_rng a F q 2
  unfold asmV
  grind
theorem X6_assembledNow_v {N : Nat} (hN : 700 ≤ N) {F q : Nat} {m : Int} {mo : Ob} (hV : VA (mo.2.2.2 0) F q m) : f_X6_assembledNow N mo = some (zI (asmV (mo.2.2.2 0) F q)) := by
  have h1 := mnW_rng (mo.2.2.2 0) F q
  have h2 := bkW_rng (mo.2.2.2 0) F q 1
  have h3 := bkW_rng (mo.2.2.2 0) F q 2
  have c0 : f_X6_chosenBy N 0 0 mo = some (zI (mnW (mo.2.2.2 0) F q)) := X6_chosenBy_v hN (b := 0) (t := 0) (by omega) (by omega) (by omega) hV
  have c1 : f_X6_chosenBy N 1 (zI (mnW (mo.2.2.2 0) F q)) mo = some (zI (bkW (mo.2.2.2 0) F q 1)) := X6_chosenBy_v hN (b := 1) (t := mnW (mo.2.2.2 0) F q) (by omega) (by omega) (by omega) hV
  have c2 : f_X6_chosenBy N 2 (zI (mnW (mo.2.2.2 0) F q)) mo = some (zI (bkW (mo.2.2.2 0) F q 2)) := X6_chosenBy_v hN (b := 2) (t := mnW (mo.2.2.2 0) F q) (by omega) (by omega) (by omega) hV
  rw [f_X6_assembledNow, c0, Option.bind_some, c1, Option.bind_some, c2, Option.bind_some]
  unfold asmV
  by_cases g0 : mnW (mo.2.2.2 0) F q = -1
  · rw [ifP (zI_m1 (by omega) (by omega)) g0, if_pos g0]
    rfl
  · rw [ifN (zI_m1 (by omega) (by omega)) g0, if_neg g0]
    by_cases g1 : bkW (mo.2.2.2 0) F q 1 = -1
    · rw [ifP (zI_m1 (by omega) (by omega)) g1, if_pos g1]
      rfl
    · rw [ifN (zI_m1 (by omega) (by omega)) g1, if_neg g1]
      by_cases g2 : bkW (mo.2.2.2 0) F q 2 = -1
      · rw [ifP (zI_m1 (by omega) (by omega)) g2, if_pos g2]
        rfl
      · rw [ifN (zI_m1 (by omega) (by omega)) g2, if_neg g2]
        simp (maxSteps := 400000) (disch := omega) only [zI_lit, zI_neg, zI_add, zI_sub, zI_mul, zI_div, zI_tn, zI_toL, zL_lit, zL_neg, zL_add, zL_sub, zL_mul, zL_div, zL_toI, zI_lt, zI_le, zI_eq, zL_lt, zL_le, zL_eq]
/-- by the class -/
theorem X4_blockWinner_l {N : Nat} (hN : 700 ≤ N) {b F q : Nat} {t : Int} (hb : b = 1 ∨ b = 2) (t1 : -1 ≤ t) (t2 : t < 2147483648) {u : Ob} {a : Nat → Int64} (hF : FrC u a F) (hq : u.2.2.1 0 1 = zI q) (q2 : 2 ≤ q) (q5 : q ≤ 5) : ∀ (j k n T : Nat) (v : Ob), k + j = F → j < n → T ≤ k → BalN v (cnV (bvW a b t) k) T →
    ∃ v', l_X4_blockWinner_9 N (zI b) (zI t) n (zI k) u v = some (zI (winN (cnV (bvW a b t) F) q), u, v') := by
  have F8 := hF.2.1
  intro j
  induction j with
  | zero =>
    intro k n T v hk hn hT hB
    obtain ⟨n, rfl⟩ : ∃ k, n = k + 1 := ⟨n - 1, by omega⟩
    have : k = F := by omega
    subst this
    refine ⟨v, ?_⟩
    rw [l_X4_blockWinner_9, ifP (FrC_le hF k (by omega)) (Nat.le_refl _), show (1 : Int32).toNatClampNeg = 1 from rfl, hq, X0_winner_v hN hB (by omega) (by omega)]
    rfl
  | succ j ih =>
    intro k n T v hk hn hT hB
    obtain ⟨n, rfl⟩ : ∃ k, n = k + 1 := ⟨n - 1, by omega⟩
    have r := bvW_rng a b t k
    obtain ⟨i1, _⟩ := frm_ix N (k := k) (by omega)
    obtain ⟨g1, g2, g3⟩ := hF.2.2 k (by omega)
    have c3 : (zI t < zI (k : Int)) = (t < k) := zI_lt (by omega) (by omega) (by omega) (by omega)
    have e := l_X4_blockWinner_9.eq_2 N (zI (b : Int)) (zI t) (zI (k : Int)) u v n
    rw [ifN (FrC_le hF k (by omega)) (by omega), show (1 : Int32).toNatClampNeg = 1 from rfl, hq, ifF i1, ifF i1, zI_tnN (by omega), g1, g2, X2_blockValue_v N _ _ (by omega), Option.bind_some, zI_suc] at e
    by_cases gt : t < k
    · have hc : ∀ d, cnV (bvW a b t) (k + d) = cnV (bvW a b t) k := by
        intro d
        induction d with
        | zero => rfl
        | succ d ihd =>
          funext x
          have hz : ¬ (bvW a b t (k + d) = x ∧ x ≠ -1) := by
            rintro ⟨z1, z2⟩
            apply z2
            rw [← z1]
            unfold bvW
            by_cases y : blkV (a (16 + 2 * (k + d))) (a (17 + 2 * (k + d))) b = -1
            · rw [if_pos y]
            · rw [if_neg y, if_neg (show ¬ b = 0 by omega), if_pos (show t < ((k + d : Nat) : Int) by omega)]
          rw [← Nat.add_assoc, cnV, ihd, if_neg hz]
          rfl
      have hB2 : BalN v (cnV (bvW a b t) F) T := by
        have := hc (F - k)
        rw [show k + (F - k) = F by omega] at this
        rw [this]
        exact hB
      refine ⟨v, ?_⟩
      rw [e, ifP c3 gt, X0_winner_v hN hB2 (by omega) (by omega)]
      rfl
    · have hv : bvW a b t k = blkV (a (16 + 2 * k)) (a (17 + 2 * k)) b := by
        unfold bvW
        grind
      rw [← hv] at e
      obtain ⟨v2, T2, c1, c2, c4⟩ := X0_cast_v N hB (by omega) (v := bvW a b t k) (by omega) (by omega)
      obtain ⟨v3, d1⟩ := ih (k + 1) n T2 v2 (by omega) (by omega) (by omega) c2
      refine ⟨v3, ?_⟩
      rw [e, ifN c3 gt, c1, Option.bind_some]
      exact d1
theorem X4_blockWinner_v {N : Nat} (hN : 700 ≤ N) {b F q : Nat} {t : Int} (hb : b = 1 ∨ b = 2) (t1 : -1 ≤ t) (t2 : t < 2147483648) {u : Ob} {a : Nat → Int64} (hF : FrC u a F) (hq : u.2.2.1 0 1 = zI q) (q2 : 2 ≤ q) (q5 : q ≤ 5) (v : Ob) : ∃ v', f_X4_blockWinner N (zI b) (zI t) u v = some (zI (winN (cnV (bvW a b t) F) q), u, v') := by
  have F8 := hF.2.1
  obtain ⟨b1, h1, h2⟩ := X0_open_v N v
  obtain ⟨v', h3⟩ := X4_blockWinner_l hN hb t1 t2 hF hq q2 q5 F 0 N 0 b1 (by omega) (by omega) (by omega) h2
  refine ⟨v', ?_⟩
  rw [f_X4_blockWinner, h1, Option.bind_some]
  exact h3
theorem X4_asm_l {N : Nat} (hN : 700 ≤ N) {F q : Nat} {u : Ob} {a : Nat → Int64} (hF : FrC u a F) (hq : u.2.2.1 0 1 = zI q) (q2 : 2 ≤ q) (q5 : q ≤ 5) : ∀ (j k n T : Nat) (v : Ob), k + j = F → j < n → T ≤ k → BalN v (cnV (bvW a 0 0) k) T →
    ∃ v', l_X4_assembledMinute_9 N n (zI k) u v = some (zI (asmV a F q), u, v') := by
  have F8 := hF.2.1
  have m1 := mnW_rng a F q
  have m2 := bkW_rng a F q 1
  have m3 := bkW_rng a F q 2
  intro j
  induction j with
  | zero =>
    intro k n T v hk hn hT hB
    obtain ⟨n, rfl⟩ : ∃ k, n = k + 1 := ⟨n - 1, by omega⟩
    have : k = F := by omega
    subst this
    have hw := X0_winner_v hN hB (q := q) (by omega) (by omega)
    rw [show winN (cnV (bvW a 0 0) k) q = mnW a k q from rfl] at hw
    obtain ⟨v1, w1⟩ := X4_blockWinner_v hN (b := 1) (t := mnW a k q) (Or.inl rfl) (by omega) (by omega) hF hq q2 q5 v
    obtain ⟨v2, w2⟩ := X4_blockWinner_v hN (b := 2) (t := mnW a k q) (Or.inr rfl) (by omega) (by omega) hF hq q2 q5 v1
    have w1 : f_X4_blockWinner N 1 (zI (mnW a k q)) u v = some (zI (bkW a k q 1), u, v1) := w1
    have w2 : f_X4_blockWinner N 2 (zI (mnW a k q)) u v1 = some (zI (bkW a k q 2), u, v2) := w2
    rw [l_X4_assembledMinute_9, ifP (FrC_le hF k (by omega)) (Nat.le_refl _), show (1 : Int32).toNatClampNeg = 1 from rfl, hq, hw, Option.bind_some]
    unfold asmV
    by_cases g0 : mnW a k q = -1
    · rw [ifP (zI_m1 (by omega) (by omega)) g0, if_pos g0]
      exact ⟨v, rfl⟩
    · rw [ifN (zI_m1 (by omega) (by omega)) g0, if_neg g0, w1, Option.bind_some]
      refine ⟨v2, ?_⟩
      show ((f_X4_blockWinner N 2 (zI (mnW a k q)) u v1).bind _) = _
      rw [w2, Option.bind_some]
      show (if zI (bkW a k q 1) = -1 then _ else (if zI (bkW a k q 2) = -1 then _ else _)) = _
      by_cases g1 : bkW a k q 1 = -1
      · rw [ifP (zI_m1 (by omega) (by omega)) g1, if_pos g1]
        rfl
      · rw [ifN (zI_m1 (by omega) (by omega)) g1, if_neg g1]
        by_cases g2 : bkW a k q 2 = -1
        · rw [ifP (zI_m1 (by omega) (by omega)) g2, if_pos g2]
          rfl
        · rw [ifN (zI_m1 (by omega) (by omega)) g2, if_neg g2]
          have e : f_X1_minuteNumber N (zI (bkW a k q 2)) (zI (bkW a k q 1)) (zI (mnW a k q)) = some (zI (1440 * bkW a k q 2 + 60 * bkW a k q 1 + mnW a k q)) := by
            rw [f_X1_minuteNumber]
            simp (maxSteps := 400000) (disch := omega) only [zI_lit, zI_neg, zI_add, zI_sub, zI_mul, zI_div, zI_tn, zI_toL, zL_lit, zL_neg, zL_add, zL_sub, zL_mul, zL_div, zL_toI, zI_lt, zI_le, zI_eq, zL_lt, zL_le, zL_eq]
          rw [e]
          rfl
  | succ j ih =>
    intro k n T v hk hn hT hB
    obtain ⟨n, rfl⟩ : ∃ k, n = k + 1 := ⟨n - 1, by omega⟩
    have r := bvW_rng a 0 0 k
    have rb := blkV_rng (a (16 + 2 * k)) (a (17 + 2 * k)) 0
    obtain ⟨i1, _⟩ := frm_ix N (k := k) (by omega)
    obtain ⟨g1, g2, g3⟩ := hF.2.2 k (by omega)
    have bv : f_X2_blockValue N (a (16 + 2 * k)) (a (17 + 2 * k)) 0 = some (zI (blkV (a (16 + 2 * k)) (a (17 + 2 * k)) 0)) := X2_blockValue_v N _ _ (b := 0) (by omega)
    obtain ⟨v2, T2, c1, c2, c4⟩ := X0_cast_v N hB (by omega) (v := bvW a 0 0 k) (by omega) (by omega)
    obtain ⟨v3, d1⟩ := ih (k + 1) n T2 v2 (by omega) (by omega) (by omega) c2
    refine ⟨v3, ?_⟩
    rw [l_X4_assembledMinute_9, ifN (FrC_le hF k (by omega)) (by omega), ifF i1, ifF i1, zI_tnN (by omega), g1, g2, bv, Option.bind_some, zI_suc]
    by_cases g : blkV (a (16 + 2 * k)) (a (17 + 2 * k)) 0 = -1
    · have hv : bvW a 0 0 k = -1 := if_pos g
      rw [hv] at c1
      have c1 : f_X0_cast N (-1) v = some v2 := c1
      rw [ifP (zI_m1 (by omega) (by omega)) g, c1, Option.bind_some]
      exact d1
    · have hv : bvW a 0 0 k = (blkV (a (16 + 2 * k)) (a (17 + 2 * k)) 0 + k) % 60 := by
        unfold bvW
        rw [if_neg g, if_pos rfl]
      rw [hv] at c1
      rw [ifN (zI_m1 (by omega) (by omega)) g, zI_add, zI_mod60 (by omega) (by omega), c1, Option.bind_some]
      exact d1
theorem X4_assembledMinute_v {N : Nat} (hN : 700 ≤ N) {F q : Nat} {u : Ob} {a : Nat → Int64} (hF : FrC u a F) (hq : u.2.2.1 0 1 = zI q) (q2 : 2 ≤ q) (q5 : q ≤ 5) (v : Ob) : ∃ v', f_X4_assembledMinute N u v = some (zI (asmV a F q), u, v') := by
  have F8 := hF.2.1
  obtain ⟨b1, h1, h2⟩ := X0_open_v N v
  obtain ⟨v', h3⟩ := X4_asm_l hN hF hq q2 q5 F 0 N 0 b1 (by omega) (by omega) (by omega) h2
  refine ⟨v', ?_⟩
  rw [f_X4_assembledMinute, h1, Option.bind_some]
  exact h3
theorem st_assembled {N : Nat} (hN : 700 ≤ N) : S_assembled Rel N := by
  intro u0 u1 u2 u3 mo h
  obtain ⟨F, q, m, hV, hF, hm, hq⟩ := RR_va h.1
  obtain ⟨v', w⟩ := X4_assembledMinute_v hN hF hq hV.2.2.2.1 hV.2.2.2.2.1 (u3 0)
  have w : f_X4_assembledMinute N (u2 0) (u3 0) = some (zI (asmV (mo.2.2.2 0) F q), u2 0, v') := w
  have m6 := X6_assembledNow_v hN (mo := oi mo 7 0) (F := F) (q := q) (m := m) hV
  refine ⟨(zI (asmV (mo.2.2.2 0) F q), u0, u1, u2, va_up u3 0 v'), _, oi mo 7 0, ?_, ?_, rfl, Rel_sc (Rel_7 h 0) (Sc_rfl _)⟩
  · rw [f_X5_assembled, w, Option.bind_some, va_up_id]
  · rw [f_X6_assembled, m6]
    rfl
