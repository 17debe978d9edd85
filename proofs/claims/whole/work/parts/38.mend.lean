/-! mending: the ways to fill the gaps -/
def gM (d : Int64) : Int64 := d &&& 576460752302899201
theorem gM_hi (d : Int64) {k : Nat} (h : 59 ≤ k) : lb (gM d) k = false := by
  by_cases h2 : k < 64
  · unfold gM
    rw [lb_and, msk_M k h2, decide_eq_false (by omega), Bool.and_false]
  · exact lb_big (by omega)
theorem gM_cb (d : Int64) : cb (gM d) 0 64 = cb (gM d) 0 59 := by
  rw [show 64 = 59 + 5 from rfl, cb_add, cb_0 5 (0 + 59) (fun k h1 h2 => gM_hi d (by omega)), Nat.add_zero]
/-- gaps from second s on, j of them, filled with the bits of w from k on -/
def mkL (g : Int64) (w : Nat) : Nat → Nat → Nat → Int64 → Int64
  | 0, _, _, x => x
  | j + 1, s, k, x => if lb g s = true then mkL g w j (s + 1) (k + 1) (if w.testBit k = true then x ||| lN (2 ^ s) else x) else mkL g w j (s + 1) k x
def mkS (x g : Int64) (w : Nat) : Int64 := mkL g w 59 0 0 x
theorem lb_lN2 {s b : Nat} (hs : s < 64) : lb (lN (2 ^ s)) b = decide (s = b) := by
  rw [lb_lN (Nat.pow_lt_pow_right (by decide) hs), Nat.testBit_two_pow]
theorem lb_mkL (g : Int64) (w : Nat) (b : Nat) : ∀ j s k x, s + j ≤ 64 → lb (mkL g w j s k x) b = (lb x b || (decide (s ≤ b ∧ b < s + j) && (lb g b && w.testBit (k + cb g s (b - s)))))
  | 0, s, k, x, _ => by
    rw [mkL, decide_eq_false (by omega), Bool.false_and, Bool.or_false]
  | j + 1, s, k, x, h => by
    have ih := lb_mkL g w b j (s + 1)
    rw [mkL]
    by_cases e : s = b
    · subst e
      rw [decide_eq_true (p := s ≤ s ∧ s < s + (j + 1)) (by omega), Nat.sub_self, cb, Nat.add_zero, Bool.true_and]
      cases hg : lb g s
      · rw [ifb0, ih k x (by omega), decide_eq_false (by omega), Bool.false_and, Bool.false_and]
      · rw [if_pos rfl, ih _ _ (by omega), decide_eq_false (by omega), Bool.false_and, Bool.or_false, Bool.true_and]
        cases hw : w.testBit k
        · rw [ifb0, Bool.or_false]
        · rw [if_pos rfl, lb_or, lb_lN2 (by omega), decide_eq_true rfl]
    · by_cases l : s < b
      · have ee : decide (s ≤ b ∧ b < s + (j + 1)) = decide (s + 1 ≤ b ∧ b < s + 1 + j) := decide_eq_decide.mpr (by omega)
        rw [ee, show b - s = (b - (s + 1)) + 1 by omega, cb]
        cases hg : lb g s
        · rw [ifb0, ih k x (by omega), ifb0, Nat.zero_add]
        · rw [if_pos rfl, ih _ _ (by omega), if_pos rfl, show k + (1 + cb g (s + 1) (b - (s + 1))) = k + 1 + cb g (s + 1) (b - (s + 1)) by omega]
          cases hw : w.testBit k
          · rw [ifb0]
          · rw [if_pos rfl, lb_or, lb_lN2 (by omega), decide_eq_false e, Bool.or_false]
      · rw [decide_eq_false (p := s ≤ b ∧ b < s + (j + 1)) (by omega), Bool.false_and, Bool.or_false]
        cases hg : lb g s
        · rw [ifb0, ih k x (by omega), decide_eq_false (by omega), Bool.false_and, Bool.or_false]
        · rw [if_pos rfl, ih _ _ (by omega), decide_eq_false (by omega), Bool.false_and, Bool.or_false]
          cases hw : w.testBit k
          · rw [ifb0]
          · rw [if_pos rfl, lb_or, lb_lN2 (by omega), decide_eq_false e, Bool.or_false]
theorem lb_mkS (x g : Int64) (w : Nat) {b : Nat} (hb : b < 59) : lb (mkS x g w) b = (lb x b || (lb g b && w.testBit (cb g 0 b))) := by
  unfold mkS
  rw [lb_mkL g w b 59 0 0 x (by omega), decide_eq_true (by omega), Bool.true_and, Nat.sub_zero, Nat.zero_add]
theorem lb_mkS_hi (x g : Int64) (w : Nat) {b : Nat} (hb : 59 ≤ b) : lb (mkS x g w) b = lb x b := by
  unfold mkS
  rw [lb_mkL g w b 59 0 0 x (by omega), decide_eq_false (by omega), Bool.false_and, Bool.or_false]
theorem mkS_0 (x : Int64) (w : Nat) : mkS x 0 w = x := by
  apply lb_ext
  intro k hk
  by_cases h : k < 59
  · rw [lb_mkS x 0 w h, lb_0, Bool.false_and, Bool.or_false]
  · exact lb_mkS_hi x 0 w (by omega)
theorem iu_fin : ∀ (w : Fin 8) (k : Fin 3), ((iushr (nI w.val) (nI k.val)) &&& (1 : Int32)).toInt64 = (if w.val.testBit k.val = true then 1 else 0) ∧ lb (nI w.val).toInt64 k.val = w.val.testBit k.val := by decide +kernel
theorem jshl_0 : ∀ s : Fin 63, jshl 0 (nI s.val) = 0 := by decide +kernel
theorem or_0 (x : Int64) : x ||| 0 = x := lb_ext fun k _ => by rw [lb_or, lb_0, Bool.or_false]
theorem X2_fillGaps_l (N : Nat) (x0 g : Int64) {w : Nat} (hw : w < 8) : ∀ (j s k : Nat) (x : Int64) (n : Nat), s + j = 59 → j < n → k + cb g s j ≤ 3 → l_X2_fillGaps_9 N x0 g (zI w) n x (zI k) (zI s) = some (mkL g w j s k x) := by
  intro j
  induction j with
  | zero =>
    intro s k x n hs hn hk
    obtain ⟨n, rfl⟩ : ∃ k, n = k + 1 := ⟨n - 1, by omega⟩
    rw [l_X2_fillGaps_9]
    simp (maxSteps := 400000) (disch := omega) only [zI_lit, zI_neg, zI_add, zI_sub, zI_mul, zI_div, zI_tn, zI_toL, zL_lit, zL_neg, zL_add, zL_sub, zL_mul, zL_div, zL_toI, zI_ltT, zI_ltF, zI_leT, zI_leF, zI_eqT, zI_eqF, zL_ltT, zL_ltF, zL_leT, zL_leF, zL_eqT, zL_eqF, nleT, nleF, or_self, or_false, false_or, true_or, or_true, not_true_eq_false, not_false_eq_true, ↓reduceIte, Option.bind_some, Bool.false_eq_true, decide_true, decide_false]
    rfl
  | succ j ih =>
    intro s k x n hs hn hk
    obtain ⟨n, rfl⟩ : ∃ k, n = k + 1 := ⟨n - 1, by omega⟩
    rw [cb] at hk
    have hb : ((jushr g (zI s)) &&& (1 : Int64) = 0) = (lb g s = false) := jb_0 g (n := s) (by omega)
    have e3 : ((58 : Int32) < zI s) = False := by
      simp (maxSteps := 400000) (disch := omega) only [zI_lit, zI_neg, zI_add, zI_sub, zI_mul, zI_div, zI_tn, zI_toL, zL_lit, zL_neg, zL_add, zL_sub, zL_mul, zL_div, zL_toI, zI_ltT, zI_ltF, zI_leT, zI_leF, zI_eqT, zI_eqF, zL_ltT, zL_ltF, zL_leT, zL_leF, zL_eqT, zL_eqF, nleT, nleF, or_self, or_false, false_or, true_or, or_true, not_true_eq_false, not_false_eq_true, ↓reduceIte, Option.bind_some, Bool.false_eq_true, decide_true, decide_false]
    rw [l_X2_fillGaps_9, mkL, ifF e3, zI_suc, zI_suc]
    cases hg : lb g s
    · have h := ih (s + 1) k x n (by omega) (by omega) (by rw [hg] at hk; simpa using hk)
      rw [ifP hb hg, ifb0]
      exact h
    · rw [hg, if_pos rfl] at hk
      have f := (iu_fin ⟨w, hw⟩ ⟨k, by omega⟩).1
      rw [ifN hb (by rw [hg]; decide), ifb1, show iushr (zI w) (zI k) = iushr (nI w) (nI k) from rfl, f]
      have hj1 : jshl 1 (zI s) = lN (2 ^ s) := jshl_1 ⟨s, by omega⟩
      have hj0 : jshl 0 (zI s) = 0 := jshl_0 ⟨s, by omega⟩
      have h := ih (s + 1) (k + 1) (if w.testBit k = true then x ||| lN (2 ^ s) else x) n (by omega) (by omega) (by omega)
      cases ht : w.testBit k
      · rw [ht, ifb0] at h
        rw [ifb0, hj0, or_0]
        exact h
      · rw [ht, if_pos rfl] at h
        rw [if_pos rfl, hj1]
        exact h
theorem X2_fillGaps_v {N : Nat} (hN : 700 ≤ N) (x g : Int64) {w : Nat} (hw : w < 8) (hg : cb g 0 59 ≤ 3) : f_X2_fillGaps N x g (zI w) = some (mkS x g w) := X2_fillGaps_l N x g hw 59 0 0 x N (by omega) (by omega) (by omega)
theorem X6_madeBy_l (N : Nat) (x0 d : Int64) {w : Nat} (hw : w < 8) : ∀ (j s k : Nat) (x : Int64) (n : Nat), s + j = 59 → j < n → k + cb (gM d) s j ≤ 3 → l_X6_madeBy_9 N x0 d (zI w) n x (zI k) (zI s) = some (mkL (gM d) w j s k x) := by
  intro j
  induction j with
  | zero =>
    intro s k x n hs hn hk
    obtain ⟨n, rfl⟩ : ∃ k, n = k + 1 := ⟨n - 1, by omega⟩
    rw [l_X6_madeBy_9]
    simp (maxSteps := 400000) (disch := omega) only [zI_lit, zI_neg, zI_add, zI_sub, zI_mul, zI_div, zI_tn, zI_toL, zL_lit, zL_neg, zL_add, zL_sub, zL_mul, zL_div, zL_toI, zI_ltT, zI_ltF, zI_leT, zI_leF, zI_eqT, zI_eqF, zL_ltT, zL_ltF, zL_leT, zL_leF, zL_eqT, zL_eqF, nleT, nleF, or_self, or_false, false_or, true_or, or_true, not_true_eq_false, not_false_eq_true, ↓reduceIte, Option.bind_some, Bool.false_eq_true, decide_true, decide_false]
    rfl
  | succ j ih =>
    intro s k x n hs hn hk
    obtain ⟨n, rfl⟩ : ∃ k, n = k + 1 := ⟨n - 1, by omega⟩
    rw [cb] at hk
    have hb : f_X6_has N (d &&& 576460752302899201) (zI s) = some (lb (gM d) s) := X6_has_v N (gM d) (k := s) (by omega) (by omega)
    have e3 : ((59 : Int32) ≤ zI s) = False := by
      simp (maxSteps := 400000) (disch := omega) only [zI_lit, zI_neg, zI_add, zI_sub, zI_mul, zI_div, zI_tn, zI_toL, zL_lit, zL_neg, zL_add, zL_sub, zL_mul, zL_div, zL_toI, zI_ltT, zI_ltF, zI_leT, zI_leF, zI_eqT, zI_eqF, zL_ltT, zL_ltF, zL_leT, zL_leF, zL_eqT, zL_eqF, nleT, nleF, or_self, or_false, false_or, true_or, or_true, not_true_eq_false, not_false_eq_true, ↓reduceIte, Option.bind_some, Bool.false_eq_true, decide_true, decide_false]
    rw [l_X6_madeBy_9, hb, mkL, ifF e3, Option.bind_some, zI_suc, zI_suc]
    cases hg : lb (gM d) s
    · have h := ih (s + 1) k x n (by omega) (by omega) (by rw [hg] at hk; simpa using hk)
      rw [ifb0, ifb0]
      exact h
    · rw [hg, if_pos rfl] at hk
      have f := (iu_fin ⟨w, hw⟩ ⟨k, by omega⟩).2
      have hh : f_X6_has N (zI w).toInt64 (zI k) = some (lb (zI w).toInt64 k) := X6_has_v N _ (k := k) (by omega) (by omega)
      rw [show lb (zI w).toInt64 k = w.testBit k from f] at hh
      have hj1 : jshl 1 (zI s) = lN (2 ^ s) := jshl_1 ⟨s, by omega⟩
      have h := ih (s + 1) (k + 1) (if w.testBit k = true then x ||| lN (2 ^ s) else x) n (by omega) (by omega) (by omega)
      rw [if_pos rfl, if_pos rfl, hh, Option.bind_some, hj1, or_0]
      cases ht : w.testBit k
      · rw [ht, ifb0] at h
        rw [ifb0, ifb0]
        exact h
      · rw [ht, if_pos rfl] at h
        rw [if_pos rfl, if_pos rfl]
        exact h
theorem X6_madeBy_v {N : Nat} (hN : 700 ≤ N) (x d : Int64) {w : Nat} (hw : w < 8) (hg : cb (gM d) 0 59 ≤ 3) : f_X6_madeBy N x d (zI w) = some (mkS x (gM d) w) := X6_madeBy_l N x d hw 59 0 0 x N (by omega) (by omega) (by omega)
/-- the ways from i on, j of them; c ways were good, the last one told f -/
def wS (x g : Int64) : Nat → Nat → Nat → Int → Int
  | 0, _, c, f => if c = 1 then f else -1
  | j + 1, i, c, f => if fltB (mkS x g i) = 0 then wS x g j (i + 1) (c + 1) (numV (mkS x g i)) else wS x g j (i + 1) c f
theorem wS_2 (x g : Int64) : ∀ j i c f, 2 ≤ c → wS x g j i c f = -1
  | 0, i, c, f, h => by rw [wS, if_neg (by omega)]
  | j + 1, i, c, f, h => by
    rw [wS]
    split
    · exact wS_2 x g j (i + 1) (c + 1) _ (by omega)
    · exact wS_2 x g j (i + 1) c f h
theorem wS_rng (x g : Int64) : ∀ j i c f, -1 ≤ f → f < 52596000 → -1 ≤ wS x g j i c f ∧ wS x g j i c f < 52596000
  | 0, i, c, f, h, h2 => by rw [wS]; split <;> omega
  | j + 1, i, c, f, h, h2 => by
    rw [wS]
    split
    · next e =>
      have := numV_rng e
      exact wS_rng x g j (i + 1) (c + 1) _ (by omega) (by omega)
    · exact wS_rng x g j (i + 1) c f h h2
def minS (x g : Int64) : Int := wS x g (2 ^ cb g 0 59) 0 0 (-1)
theorem minS_rng (x g : Int64) : -1 ≤ minS x g ∧ minS x g < 52596000 := wS_rng x g _ _ _ _ (by omega) (by omega)
theorem minS_0 (x : Int64) : minS x 0 = if fltB x = 0 then numV x else -1 := by
  unfold minS
  rw [cb_0 59 0 (fun k _ _ => lb_0 k), Nat.pow_zero, wS, wS, wS, mkS_0]
  rfl
theorem sh_fin : ∀ G : Fin 4, (1 : Int32) <<< (nI G.val &&& 31) = nI (2 ^ G.val) := by decide +kernel
theorem X2_minuteOf_l {N : Nat} (hN : 700 ≤ N) (x d g : Int64) {G : Nat} (hG : G ≤ 3) (hg : cb g 0 59 ≤ 3) : ∀ (j i c : Nat) (f : Int) (n : Nat), i + j = 2 ^ G → j < n → c ≤ 1 → (c = 1 → 0 ≤ f) → f < 52596000 → l_X2_minuteOf_32 N x d n g (zI G) (zI (if c = 1 then f else -1)) (zI i) = some (zI (wS x g j i c f)) := by
  have sh : (1 : Int32) <<< (zI G &&& 31) = zI ((2 ^ G : Nat) : Int) := sh_fin ⟨G, by omega⟩
  have p8 : 2 ^ G ≤ 8 := Nat.pow_le_pow_right (n := 2) (by decide) hG
  intro j
  induction j with
  | zero =>
    intro i c f n hi hn hc hf hf2
    obtain ⟨n, rfl⟩ : ∃ k, n = k + 1 := ⟨n - 1, by omega⟩
    rw [l_X2_minuteOf_32, sh, if_pos (by rw [show i = 2 ^ G by omega]; exact Int32.le_refl _), wS]
  | succ j ih =>
    intro i c f n hi hn hc hf hf2
    obtain ⟨n, rfl⟩ : ∃ k, n = k + 1 := ⟨n - 1, by omega⟩
    have e0 : (zI ((2 ^ G : Nat) : Int) ≤ zI i) = False := by
      rw [zI_le (by omega) (by omega) (by omega) (by omega)]; exact eq_false (by omega)
    rw [l_X2_minuteOf_32, sh, ifF e0, X2_fillGaps_v hN x g (by omega) hg, Option.bind_some, X2_faultOf_v hN, Option.bind_some, zI_suc, wS]
    have ef : fltS (mkS x g i) 0 = fltB (mkS x g i) := rfl
    have fr := fltB_rng (mkS x g i)
    rw [ef]
    by_cases hv : fltB (mkS x g i) = 0
    · rw [if_pos hv, hv, if_pos (show zI 0 = 0 from rfl)]
      by_cases h1 : c = 1
      · have hf1 := hf h1
        rw [if_pos h1, wS_2 _ _ _ _ _ _ (by omega), ifN (zI_m1 (by omega) (by omega)) (by omega)]
        rfl
      · have h0 : c = 0 := by omega
        subst h0
        obtain ⟨a1, a2, a3, a4, a5, a6⟩ := fltB_0 hv
        have hd := X2_dayIn_v N (mkS x g i)
        have hh := X2_hourIn_v N (mkS x g i)
        have hm := X2_minuteIn_v N (mkS x g i)
        rw [if_pos a1] at hd
        rw [if_pos a3] at hh
        rw [if_pos a5] at hm
        have nr := numV_rng hv
        have h := ih (i + 1) 1 (numV (mkS x g i)) n (by omega) (by omega) (by omega) (by omega) (by omega)
        rw [if_pos rfl] at h
        rw [if_neg (show ¬ (0 = 1) by decide), hd, hh, hm, ifP (zI_m1 (by omega) (by omega)) rfl, Option.bind_some, Option.bind_some, Option.bind_some]
        have e2 : f_X1_minuteNumber N (zI (daV (mkS x g i))) (zI (hV (mkS x g i))) (zI (miV (mkS x g i))) = some (zI (numV (mkS x g i))) := by
          rw [f_X1_minuteNumber]
          simp (maxSteps := 400000) (disch := omega) only [zI_lit, zI_neg, zI_add, zI_sub, zI_mul, zI_div, zI_tn, zI_toL, zL_lit, zL_neg, zL_add, zL_sub, zL_mul, zL_div, zL_toI, zI_lt, zI_le, zI_eq, zL_lt, zL_le, zL_eq]
          rfl
        rw [e2, Option.bind_some]
        exact h
    · rw [if_neg hv]
      have e3 : (zI (fltB (mkS x g i)) = 0) = False := by
        simp (maxSteps := 400000) (disch := omega) only [zI_lit, zI_neg, zI_add, zI_sub, zI_mul, zI_div, zI_tn, zI_toL, zL_lit, zL_neg, zL_add, zL_sub, zL_mul, zL_div, zL_toI, zI_ltT, zI_ltF, zI_leT, zI_leF, zI_eqT, zI_eqF, zL_ltT, zL_ltF, zL_leT, zL_leF, zL_eqT, zL_eqF, nleT, nleF, or_self, or_false, false_or, true_or, or_true, not_true_eq_false, not_false_eq_true, ↓reduceIte, Option.bind_some, Bool.false_eq_true, decide_true, decide_false]
      rw [ifF e3]
      exact ih (i + 1) c f n (by omega) (by omega) hc hf hf2
theorem X2_minuteOf_v {N : Nat} (hN : 700 ≤ N) (x d : Int64) : f_X2_minuteOf N x d = some (zI (if cb (gM d) 0 59 ≤ 3 then minS x (gM d) else -1)) := by
  have hb : f_J13_bitCount_95d88 N (d &&& 576460752302899201) = some (zI (cb (gM d) 0 59)) := by rw [← gM_cb]; exact bitCount_v N (gM d)
  have hl := cb_le (gM d) 59 0
  have a3 : aGr (3 : Int32).toNatClampNeg = zI 3 := rfl
  rw [f_X2_minuteOf, hb, Option.bind_some, a3]
  by_cases h : cb (gM d) 0 59 ≤ 3
  · rw [if_pos h, if_pos (by rw [zI_le (by omega) (by omega) (by omega) (by omega)]; omega)]
    have p8 : 2 ^ cb (gM d) 0 59 ≤ 8 := Nat.pow_le_pow_right (n := 2) (by decide) h
    have q := X2_minuteOf_l hN x d (gM d) h h (2 ^ cb (gM d) 0 59) 0 0 (-1) N (by omega) (by omega) (by omega) (by omega) (by omega)
    rw [if_neg (by omega)] at q
    exact q
  · rw [if_neg h, if_neg (by rw [zI_le (by omega) (by omega) (by omega) (by omega)]; omega)]
    rfl
