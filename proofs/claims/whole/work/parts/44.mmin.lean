/-! the reference's minute: bits laid, rows moved -/
theorem oj_oj (u : Ob) (k : Nat) (f g : Nat → Int64) : oj (oj u k f) k g = oj u k g := by
  unfold oj
  rw [va_up_up]
theorem oj_id (u : Ob) (k : Nat) : oj u k (u.2.2.2 k) = u := by
  unfold oj
  rw [va_up_id]
theorem vp_s (f : Nat → Int64) (k : Nat) (x : Int64) : vp_updL f k x k = x := if_pos rfl
theorem vp_n (f : Nat → Int64) {k j : Nat} (x : Int64) (h : j ≠ k) : vp_updL f k x j = f j := if_neg h
theorem lb_one {s : Nat} (hs : s < 63) (j : Nat) : lb (jshl 1 (zI s)) j = decide (s = j) := by
  rw [show jshl 1 (zI s) = lN (2 ^ s) from jshl_1 ⟨s, hs⟩, lb_lN2 (by omega)]
theorem lb_m1 : ∀ j, j < 64 → lb (-1) j = true := by decide +kernel
def LB1 (s bit : Nat) (a b : Nat → Int64) : Prop := (∀ k, k ≠ 14 → k ≠ 15 → b k = a k) ∧ ∀ i, i < 64 → lb (b 14) i = (if i = s ∧ s < 59 then decide (bit = 1) else lb (a 14) i) ∧ lb (b 15) i = (if i = s ∧ s < 59 then decide (bit = 2) else lb (a 15) i)
theorem X6_lays_v (N : Nat) {s bit : Nat} (hs : s < 1000) (hb : bit ≤ 2) (u : Ob) : ∃ b, f_X6_lays N (zI s) (zI bit) u = some (oj u 0 b) ∧ LB1 s bit (u.2.2.2 0) b := by
  have h59 : (zI (s : Int) < 59) = (s < 59) := by
    rw [show (59 : Int32) = zI 59 from rfl, zI_lt (by omega) (by omega) (by omega) (by omega)]
    exact propext (by omega)
  by_cases g : s < 59
  · have key : ∀ (x y : Int64) (p q : Bool), (∀ i, i < 64 → lb x i = (if i = s then p else lb (u.2.2.2 0 14) i) ∧ lb y i = (if i = s then q else lb (u.2.2.2 0 15) i)) → p = decide (bit = 1) → q = decide (bit = 2) → LB1 s bit (u.2.2.2 0) (vp_updL (vp_updL (u.2.2.2 0) 14 x) 15 y) := by
      intro x y p q h hp hq
      refine ⟨fun k k1 k2 => ?_, fun i hi => ?_⟩
      · rw [vp_n _ _ k2, vp_n _ _ k1]
      · rw [vp_n _ _ (by decide), vp_s, vp_s, (h i hi).1, (h i hi).2, hp, hq]
        simp [g]
    have c1 : ∀ (z : Int64) (i : Nat), i < 64 → lb ((z &&& ((jshl 1 (zI s)) ^^^ -1)) ||| (jshl 1 (zI s))) i = (if i = s then true else lb z i) := by
      intro z i hi
      rw [lb_or, lb_and, lb_xor, lb_one (by omega), lb_m1 i hi]
      by_cases e : i = s
      · rw [if_pos e, decide_eq_true e.symm]; simp
      · rw [if_neg e, decide_eq_false (fun h => e h.symm)]; simp
    have c0 : ∀ (z : Int64) (i : Nat), i < 64 → lb ((z &&& ((jshl 1 (zI s)) ^^^ -1)) ||| 0) i = (if i = s then false else lb z i) := by
      intro z i hi
      rw [lb_or, lb_and, lb_xor, lb_one (by omega), lb_m1 i hi, lb_0]
      by_cases e : i = s
      · rw [if_pos e, decide_eq_true e.symm]; simp
      · rw [if_neg e, decide_eq_false (fun h => e h.symm)]; simp
    rw [f_X6_lays, ifP h59 g]
    rcases (show bit = 0 ∨ bit = 1 ∨ bit = 2 by omega) with rfl | rfl | rfl
    · rw [if_neg (show ¬ (zI ((0 : Nat) : Int) = 1) by decide), if_neg (show ¬ (zI ((0 : Nat) : Int) = 2) by decide), oj_oj]
      exact ⟨_, rfl, key _ _ _ _ (fun i hi => ⟨c0 _ i hi, c0 _ i hi⟩) (by decide) (by decide)⟩
    · rw [if_pos (show (zI ((1 : Nat) : Int) = 1) by decide), if_neg (show ¬ (zI ((1 : Nat) : Int) = 2) by decide), oj_oj]
      exact ⟨_, rfl, key _ _ _ _ (fun i hi => ⟨c1 _ i hi, c0 _ i hi⟩) (by decide) (by decide)⟩
    · rw [if_neg (show ¬ (zI ((2 : Nat) : Int) = 1) by decide), if_pos (show (zI ((2 : Nat) : Int) = 2) by decide), oj_oj]
      exact ⟨_, rfl, key _ _ _ _ (fun i hi => ⟨c0 _ i hi, c1 _ i hi⟩) (by decide) (by decide)⟩
  · refine ⟨u.2.2.2 0, ?_, fun _ _ _ => rfl, fun i hi => ?_⟩
    · rw [f_X6_lays, ifN h59 g, oj_id]
    · rw [if_neg (fun z => g z.2), if_neg (fun z => g z.2)]
      exact ⟨rfl, rfl⟩
def dB (s t i : Nat) : Bool := decide (s ≤ i ∧ i < t ∧ i < 59)
def LAY (s t : Nat) (a b : Nat → Int64) : Prop := (∀ k, k ≠ 14 → k ≠ 15 → b k = a k) ∧ ∀ i, i < 64 → lb (b 14) i = (lb (a 14) i && !dB s t i) ∧ lb (b 15) i = (lb (a 15) i || dB s t i)
theorem LAY_0 (s : Nat) (a : Nat → Int64) : LAY s s a a := by
  refine ⟨fun _ _ _ => rfl, fun i _ => ?_⟩
  unfold dB
  rw [decide_eq_false (by omega)]
  simp
theorem LAY_1 {s : Nat} {a b : Nat → Int64} (h : LB1 s 2 a b) : LAY s (s + 1) a b := by
  refine ⟨h.1, fun i hi => ?_⟩
  rw [(h.2 i hi).1, (h.2 i hi).2]
  unfold dB
  by_cases g : i = s ∧ s < 59
  · rw [if_pos g, if_pos g, decide_eq_true (p := s ≤ i ∧ i < s + 1 ∧ i < 59) (by omega)]
    simp
  · rw [if_neg g, if_neg g, decide_eq_false (p := s ≤ i ∧ i < s + 1 ∧ i < 59) (by omega)]
    simp
theorem LAY_tr {s t r : Nat} {a b c : Nat → Int64} (h1 : LAY s t a b) (h2 : LAY t r b c) (st : s ≤ t) (tr : t ≤ r) : LAY s r a c := by
  refine ⟨fun k k1 k2 => (h2.1 k k1 k2).trans (h1.1 k k1 k2), fun i hi => ?_⟩
  rw [(h2.2 i hi).1, (h2.2 i hi).2, (h1.2 i hi).1, (h1.2 i hi).2]
  have e : dB s r i = (dB s t i || dB t r i) := by
    unfold dB
    rw [← Bool.decide_or]
    exact decide_eq_decide.mpr (by omega)
  rw [e]
  cases lb (a 14) i <;> cases lb (a 15) i <;> cases dB s t i <;> cases dB t r i <;> exact ⟨rfl, rfl⟩
theorem X6_begins_l (N : Nat) {q : Nat} (hq : q < 1000) (x2 : Int32) (x3 : Int64) : ∀ (j s n : Nat) (u : Ob), s + j = q → j < n → ∃ b, LAY s q (u.2.2.2 0) b ∧ l_X6_beginsMinute_35 N (zI q) x2 x3 n (zI s) u = l_X6_beginsMinute_35 N (zI q) x2 x3 1 (zI q) (oj u 0 b) := by
  intro j
  induction j with
  | zero =>
    intro s n u hs hn
    obtain ⟨n, rfl⟩ : ∃ k, n = k + 1 := ⟨n - 1, by omega⟩
    have : s = q := by omega
    subst this
    refine ⟨u.2.2.2 0, LAY_0 _ _, ?_⟩
    rw [oj_id, l_X6_beginsMinute_35, l_X6_beginsMinute_35, if_pos (Int32.le_refl _), if_pos (Int32.le_refl _)]
  | succ j ih =>
    intro s n u hs hn
    obtain ⟨n, rfl⟩ : ∃ k, n = k + 1 := ⟨n - 1, by omega⟩
    obtain ⟨b, b1, b2⟩ := X6_lays_v N (s := s) (bit := 2) (by omega) (by omega) u
    obtain ⟨c, c1, c2⟩ := ih (s + 1) n (oj u 0 b) (by omega) (by omega)
    rw [oj_s] at c1
    refine ⟨c, LAY_tr (LAY_1 b2) c1 (by omega) (by omega), ?_⟩
    rw [l_X6_beginsMinute_35, if_neg (show ¬ (zI (q : Int) ≤ zI (s : Int)) by rw [zI_le (by omega) (by omega) (by omega) (by omega)]; omega), show (2 : Int32) = zI ((2 : Nat) : Int) from rfl, b1, Option.bind_some, zI_suc, c2, oj_oj]
theorem X6_goes_l (N : Nat) {q : Nat} (hq : q < 1000) (x2 x3 : Int32) : ∀ (j s n : Nat) (u : Ob), s + j = q → j < n → ∃ b, LAY s q (u.2.2.2 0) b ∧ l_X6_goesTo_13 N (zI q) x2 n x3 (zI s) u = l_X6_goesTo_13 N (zI q) x2 1 x3 (zI q) (oj u 0 b) := by
  intro j
  induction j with
  | zero =>
    intro s n u hs hn
    obtain ⟨n, rfl⟩ : ∃ k, n = k + 1 := ⟨n - 1, by omega⟩
    have : s = q := by omega
    subst this
    refine ⟨u.2.2.2 0, LAY_0 _ _, ?_⟩
    rw [oj_id, l_X6_goesTo_13, l_X6_goesTo_13, if_pos (Int32.le_refl _), if_pos (Int32.le_refl _)]
  | succ j ih =>
    intro s n u hs hn
    obtain ⟨n, rfl⟩ : ∃ k, n = k + 1 := ⟨n - 1, by omega⟩
    obtain ⟨b, b1, b2⟩ := X6_lays_v N (s := s) (bit := 2) (by omega) (by omega) u
    obtain ⟨c, c1, c2⟩ := ih (s + 1) n (oj u 0 b) (by omega) (by omega)
    rw [oj_s] at c1
    refine ⟨c, LAY_tr (LAY_1 b2) c1 (by omega) (by omega), ?_⟩
    rw [l_X6_goesTo_13, if_neg (show ¬ (zI (q : Int) ≤ zI (s : Int)) by rw [zI_le (by omega) (by omega) (by omega) (by omega)]; omega), show (2 : Int32) = zI ((2 : Nat) : Int) from rfl, b1, Option.bind_some, zI_suc, c2, oj_oj]
theorem X6_ends_l11 (N : Nat) (x1 x2 : Int32) (x3 : Int64) : ∀ (j s n : Nat) (u : Ob), s + j = 59 → j < n → ∃ b, LAY s 59 (u.2.2.2 0) b ∧ l_X6_endsMinute_11 N x1 x2 x3 n (zI s) u = l_X6_endsMinute_35 N x1 x2 x3 N 15 (oj u 0 b) := by
  intro j
  induction j with
  | zero =>
    intro s n u hs hn
    obtain ⟨n, rfl⟩ : ∃ k, n = k + 1 := ⟨n - 1, by omega⟩
    have : s = 59 := by omega
    subst this
    refine ⟨u.2.2.2 0, LAY_0 _ _, ?_⟩
    rw [oj_id, l_X6_endsMinute_11, if_pos (show (59 : Int32) ≤ zI ((59 : Nat) : Int) by decide)]
  | succ j ih =>
    intro s n u hs hn
    obtain ⟨n, rfl⟩ : ∃ k, n = k + 1 := ⟨n - 1, by omega⟩
    obtain ⟨b, b1, b2⟩ := X6_lays_v N (s := s) (bit := 2) (by omega) (by omega) u
    obtain ⟨c, c1, c2⟩ := ih (s + 1) n (oj u 0 b) (by omega) (by omega)
    rw [oj_s] at c1
    refine ⟨c, LAY_tr (LAY_1 b2) c1 (by omega) (by omega), ?_⟩
    rw [l_X6_endsMinute_11, if_neg (show ¬ ((59 : Int32) ≤ zI (s : Int)) by rw [zI_lit, zI_le (by omega) (by omega) (by omega) (by omega)]; omega), show (2 : Int32) = zI ((2 : Nat) : Int) from rfl, b1, Option.bind_some, zI_suc, c2, oj_oj]
theorem X6_beginsMinute_v {N : Nat} (hN : 700 ≤ N) {q bit : Nat} (hq : q < 100) (hb : bit ≤ 2) (x3 : Int64) (u : Ob) : ∃ b, f_X6_beginsMinute N (zI q) (zI bit) x3 u = some (oj u 0 b) ∧ (∀ k, k ≠ 5 → k ≠ 8 → k ≠ 14 → k ≠ 15 → b k = u.2.2.2 0 k) ∧ b 5 = zL q ∧ b 8 = x3 ∧
    ∀ i, i < 64 → lb (b 14) i = decide (i = q ∧ q < 59 ∧ bit = 1) ∧ lb (b 15) i = (dB 0 q i || decide (i = q ∧ q < 59 ∧ bit = 2)) := by
  have hz : (zI (q : Int)).toInt64 = zL q := zI_toL (by omega) (by omega)
  obtain ⟨b, b1, b2⟩ := X6_begins_l N (q := q) (by omega) (zI bit) x3 q 0 N (oj u 0 (vp_updL (vp_updL (vp_updL (vp_updL (u.2.2.2 0) 14 0) 15 0) 8 x3) 5 (zL q))) (by omega) (by omega)
  rw [oj_s] at b1
  obtain ⟨c, c1, c2⟩ := X6_lays_v N (s := q) (bit := bit) (by omega) hb (oj u 0 b)
  rw [oj_s] at c2
  refine ⟨c, ?_, fun k k1 k2 k3 k4 => ?_, ?_, ?_, fun i hi => ?_⟩
  · rw [f_X6_beginsMinute, oj_oj, oj_oj, oj_oj, hz]
    refine b2.trans ?_
    rw [l_X6_beginsMinute_35, if_pos (Int32.le_refl _), oj_oj, c1, oj_oj]
    rfl
  · rw [c2.1 k k3 k4, b1.1 k k3 k4, vp_n _ _ k1, vp_n _ _ k2, vp_n _ _ k4, vp_n _ _ k3]
  · rw [c2.1 5 (by decide) (by decide), b1.1 5 (by decide) (by decide), vp_s]
  · rw [c2.1 8 (by decide) (by decide), b1.1 8 (by decide) (by decide), vp_n _ _ (by decide), vp_s]
  · have d := b1.2 i hi
    rw [vp_n _ _ (by decide), vp_n _ _ (by decide), vp_n _ _ (by decide), vp_s, vp_n _ _ (by decide), vp_n _ _ (by decide), vp_s, lb_0] at d
    rw [(c2.2 i hi).1, (c2.2 i hi).2, d.1, d.2]
    by_cases g : i = q ∧ q < 59
    · rw [if_pos g, if_pos g]
      have e : dB 0 q i = false := decide_eq_false (by omega)
      rw [e]
      have g1 := g.1
      have g2 := g.2
      simp [g1, g2]
    · rw [if_neg g, if_neg g, decide_eq_false (p := i = q ∧ q < 59 ∧ bit = 1) (fun z => g ⟨z.1, z.2.1⟩), decide_eq_false (p := i = q ∧ q < 59 ∧ bit = 2) (fun z => g ⟨z.1, z.2.1⟩)]
      simp
theorem X6_goesTo_v {N : Nat} (hN : 700 ≤ N) {p q bit : Nat} (hp : p < q) (hq : q < 100) (hb : bit ≤ 2) (u : Ob) (hu : u.2.2.2 0 5 = zL p) : ∃ b, f_X6_goesTo N (zI q) (zI bit) u = some (zI (if q - p ≤ 1 then 1 else 2), oj u 0 b) ∧ (∀ k, k ≠ 5 → k ≠ 14 → k ≠ 15 → b k = u.2.2.2 0 k) ∧ b 5 = zL q ∧
    ∀ i, i < 64 → lb (b 14) i = (if i = q ∧ q < 59 then decide (bit = 1) else (lb (u.2.2.2 0 14) i && !dB (p + 1) q i)) ∧ lb (b 15) i = (if i = q ∧ q < 59 then decide (bit = 2) else (lb (u.2.2.2 0 15) i || dB (p + 1) q i)) := by
  have hz : (zI (q : Int)).toInt64 = zL q := zI_toL (by omega) (by omega)
  obtain ⟨b, b1, b2⟩ := X6_goes_l N (q := q) (by omega) (zI bit) (zI p) (q - (p + 1)) (p + 1) N u (by omega) (by omega)
  obtain ⟨c, c1, c2⟩ := X6_lays_v N (s := q) (bit := bit) (by omega) hb (oj u 0 b)
  rw [oj_s] at c2
  have e1 : (zI (q : Int) - zI (p : Int) ≤ 1) = (q - p ≤ 1) := by
    rw [zI_sub, show (1 : Int32) = zI 1 from rfl, zI_le (by omega) (by omega) (by omega) (by omega)]
    exact propext (by omega)
  refine ⟨vp_updL c 5 (zL q), ?_, fun k k1 k2 k3 => ?_, vp_s _ _ _, fun i hi => ?_⟩
  · rw [f_X6_goesTo, show (5 : Int32).toNatClampNeg = 5 from rfl, hu, zL_toI, zI_suc, b2, l_X6_goesTo_13, if_pos (Int32.le_refl _), c1, Option.bind_some, oj_s, oj_oj, oj_oj, hz]
    by_cases g : q - p ≤ 1
    · rw [ifP e1 g, if_pos g]
      rfl
    · rw [ifN e1 g, if_neg g]
      rfl
  · rw [vp_n _ _ k1, c2.1 k k2 k3, b1.1 k k2 k3]
  · rw [vp_n _ _ (by decide), vp_n _ _ (by decide), (c2.2 i hi).1, (c2.2 i hi).2, (b1.2 i hi).1, (b1.2 i hi).2]
    exact ⟨rfl, rfl⟩
