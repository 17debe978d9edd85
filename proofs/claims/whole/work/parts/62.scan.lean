/-! scanning a text -/
def scn (P : Int → Bool) (T : Nat → Int) : Nat → Nat → Nat
  | 0, k => k
  | j + 1, k => if P (T k) = true then scn P T j (k + 1) else k
def sk (P : Int → Bool) (T : Nat → Int) (L k : Nat) : Nat := scn P T (L - k) k
def spc (z : Int) : Bool := decide (z = 32)
def ltr (z : Int) : Bool := decide (97 ≤ z ∧ z ≤ 122)
def dgt (z : Int) : Bool := decide (48 ≤ z ∧ z ≤ 57)
theorem sk_stop {P : Int → Bool} {T : Nat → Int} {L k : Nat} (h : L ≤ k ∨ P (T k) = false) : sk P T L k = k := by
  unfold sk
  by_cases g : L ≤ k
  · rw [show L - k = 0 by omega]
    rfl
  · obtain ⟨j, hj⟩ : ∃ j, L - k = j + 1 := ⟨L - k - 1, by omega⟩
    rw [hj, scn]
    rcases h with h | h
    · exact absurd h g
    · rw [h]
      rfl
theorem sk_go {P : Int → Bool} {T : Nat → Int} {L k : Nat} (h1 : k < L) (h : P (T k) = true) : sk P T L k = sk P T L (k + 1) := by
  unfold sk
  obtain ⟨j, hj⟩ : ∃ j, L - k = j + 1 := ⟨L - k - 1, by omega⟩
  rw [hj, scn, if_pos h, show L - (k + 1) = j by omega]
theorem scn_rng (P : Int → Bool) (T : Nat → Int) : ∀ j k, k ≤ scn P T j k ∧ scn P T j k ≤ k + j
  | 0, k => ⟨Nat.le_refl _, Nat.le_refl _⟩
  | j + 1, k => by
    have := scn_rng P T j (k + 1)
    rw [scn]
    split <;> omega
theorem sk_rng (P : Int → Bool) (T : Nat → Int) {L k : Nat} (h : k ≤ L) : k ≤ sk P T L k ∧ sk P T L k ≤ L := by
  have := scn_rng P T (L - k) k
  unfold sk
  omega
theorem scn_end (P : Int → Bool) (T : Nat → Int) : ∀ j k, scn P T j k < k + j → P (T (scn P T j k)) = false
  | 0, k, h => by rw [scn] at h; omega
  | j + 1, k, h => by
    rw [scn] at h ⊢
    by_cases e : P (T k) = true
    · rw [if_pos e] at h ⊢
      exact scn_end P T j (k + 1) (by omega)
    · rw [if_neg e]
      simpa using e
theorem sk_end {P : Int → Bool} {T : Nat → Int} {L k : Nat} (h : k ≤ L) (h2 : sk P T L k < L) : P (T (sk P T L k)) = false := by
  unfold sk at h2 ⊢
  exact scn_end P T _ _ (by omega)
theorem sk_sk {P : Int → Bool} {T : Nat → Int} {L k : Nat} (h : k ≤ L) : sk P T L (sk P T L k) = sk P T L k := by
  by_cases g : sk P T L k < L
  · exact sk_stop (Or.inr (sk_end h g))
  · exact sk_stop (Or.inl (by omega))
/-- a number, as the reference counts it -/
def nmv (T : Nat → Int) : Nat → Nat → Int → Int
  | 0, _, c => c
  | j + 1, k, c => if dgt (T k) = true then nmv T j (k + 1) (if c < 10000000000 then 10 * c + (T k - 48) else c) else c
def nmT (T : Nat → Int) (L k : Nat) : Int := nmv T (L - k) k 0
theorem nmv_rng (T : Nat → Int) : ∀ j k c, 0 ≤ c → c < 200000000000 → 0 ≤ nmv T j k c ∧ nmv T j k c < 200000000000
  | 0, k, c, h1, h2 => ⟨h1, h2⟩
  | j + 1, k, c, h1, h2 => by
    rw [nmv]
    by_cases e : dgt (T k) = true
    · rw [if_pos e]
      unfold dgt at e
      have e := of_decide_eq_true e
      refine nmv_rng T j (k + 1) _ ?_ ?_ <;> split <;> omega
    · rw [if_neg e]
      exact ⟨h1, h2⟩
theorem nmT_rng (T : Nat → Int) (L k : Nat) : 0 ≤ nmT T L k ∧ nmT T L k < 200000000000 := nmv_rng T _ _ 0 (by omega) (by omega)
def tkK (T : Nat → Int) (L a : Nat) : Int := if L ≤ a then 3 else if ltr (T a) = true then 0 else if dgt (T a) = true then 1 else 2
def tkE (T : Nat → Int) (L a : Nat) : Nat := if L ≤ a then a else if ltr (T a) = true then sk ltr T L a else if dgt (T a) = true then sk dgt T L a else a + 1
def sg (z : Int) : Int := if z < 128 then z else z - 256
/-- the class's text, and the reference's -/
def CT (T : Nat → Int) (L : Nat) (u : Ob) : Prop := (u.1 2 = zI L ∧ u.1 6 = -1) ∧ L ≤ 600 ∧ ∀ k, k < L → 0 ≤ T k ∧ T k ≤ 255 ∧ u.2.2.1 0 k = zI (sg (T k))
def MT (T : Nat → Int) (L : Nat) (m : Ob) : Prop := m.1 11 = zI L ∧ L ≤ 600 ∧ ∀ k, k < L → 0 ≤ T k ∧ T k ≤ 255 ∧ m.2.2.1 9 k = zI (T k)
theorem CT_up {T : Nat → Int} {L : Nat} {u v : Ob} (h : CT T L u) (h1 : v.1 2 = u.1 2) (h6 : v.1 6 = u.1 6) (h2 : v.2.2.1 = u.2.2.1) : CT T L v := by
  unfold CT
  rw [h1, h6, h2]
  exact h
theorem MT_up {T : Nat → Int} {L : Nat} {u v : Ob} (h : MT T L u) (h1 : v.1 11 = u.1 11) (h2 : v.2.2.1 = u.2.2.1) : MT T L v := by
  unfold MT
  rw [h1, h2]
  exact h
theorem sg_rng {z : Int} (h1 : 0 ≤ z) (h2 : z ≤ 255) : -128 ≤ sg z ∧ sg z ≤ 127 ∧ (0 ≤ sg z → sg z = z) ∧ (sg z < 0 → 128 ≤ z) := by
  unfold sg
  split <;> omega
theorem oi_oi (u : Ob) (k : Nat) (x y : Int32) : oi (oi u k x) k y = oi u k y := by
  unfold oi
  rw [va_up_up]
theorem oi_id (u : Ob) (k : Nat) {x : Int32} (h : u.1 k = x) : oi u k x = u := by
  rw [← h]
  unfold oi
  rw [va_up_id]
theorem X3_sp_l (N : Nat) {T : Nat → Int} {L : Nat} {u : Ob} (hT : CT T L u) : ∀ (j k n : Nat), k + j = L → j < n → l_X3_skipSpaces_0 N n (oi u 3 (zI k)) = some (oi u 3 (zI (sk spc T L k))) := by
  obtain ⟨⟨t1, t6⟩, t2, t3⟩ := hT
  intro j
  induction j with
  | zero =>
    intro k n hk hn
    obtain ⟨n, rfl⟩ : ∃ k, n = k + 1 := ⟨n - 1, by omega⟩
    have : k = L := by omega
    subst this
    rw [l_X3_skipSpaces_0, oi_s, oi_n u _ (by decide), t1, if_pos (Int32.le_refl _), sk_stop (Or.inl (Nat.le_refl _))]
  | succ j ih =>
    intro k n hk hn
    obtain ⟨n, rfl⟩ : ∃ k, n = k + 1 := ⟨n - 1, by omega⟩
    obtain ⟨z1, z2, z3⟩ := t3 k (by omega)
    have s := sg_rng z1 z2
    have c1 : (zI (L : Int) ≤ zI (k : Int)) = False := by simp (maxSteps := 400000) (disch := omega) only [zI_lit, zI_neg, zI_add, zI_sub, zI_mul, zI_div, zI_tn, zI_toL, zL_lit, zL_neg, zL_add, zL_sub, zL_mul, zL_div, zL_toI, zI_ltT, zI_ltF, zI_leT, zI_leF, zI_eqT, zI_eqF, zL_ltT, zL_ltF, zL_leT, zL_leF, zL_eqT, zL_eqF, nleT, nleF, or_self, or_false, false_or, true_or, or_true, not_true_eq_false, not_false_eq_true, ↓reduceIte, Option.bind_some, Bool.false_eq_true, decide_true, decide_false]
    have c2 : (zI (k : Int) < 0 ∨ 600 ≤ k) = False := by simp (maxSteps := 400000) (disch := omega) only [zI_lit, zI_neg, zI_add, zI_sub, zI_mul, zI_div, zI_tn, zI_toL, zL_lit, zL_neg, zL_add, zL_sub, zL_mul, zL_div, zL_toI, zI_ltT, zI_ltF, zI_leT, zI_leF, zI_eqT, zI_eqF, zL_ltT, zL_ltF, zL_leT, zL_leF, zL_eqT, zL_eqF, nleT, nleF, or_self, or_false, false_or, true_or, or_true, not_true_eq_false, not_false_eq_true, ↓reduceIte, Option.bind_some, Bool.false_eq_true, decide_true, decide_false]
    have c3 : (zI (sg (T k)) = 32) = (sg (T k) = 32) := by rw [zI_lit, zI_eq (by omega) (by omega) (by omega) (by omega)]
    rw [l_X3_skipSpaces_0, oi_s, oi_n u _ (by decide), t1, ifF c1, zI_tnN (by omega), ifF c2]
    show (if u.2.2.1 0 k = 32 then _ else _) = _
    rw [z3, zI_suc, oi_oi]
    by_cases g : sg (T k) = 32
    · rw [ifP c3 g, sk_go (by omega) (decide_eq_true (show T k = 32 by omega))]
      exact ih (k + 1) n (by omega) (by omega)
    · rw [ifN c3 g, sk_stop (Or.inr (decide_eq_false (show ¬ T k = 32 by omega)))]
theorem X3_skipSpaces_v {N : Nat} (hN : 700 ≤ N) {T : Nat → Int} {L p : Nat} {u : Ob} (hT : CT T L u) (hp : u.1 3 = zI p) (pL : p ≤ L) : f_X3_skipSpaces N u = some (oi u 3 (zI (sk spc T L p))) := by
  have := X3_sp_l N hT (L - p) p N (by omega) (by have := hT.2.1; omega)
  rw [oi_id u 3 hp] at this
  exact this
theorem X3_rw_l (N : Nat) {T : Nat → Int} {L : Nat} {u : Ob} (hT : CT T L u) : ∀ (j k n : Nat), k + j = L → j < n → l_X3_readWord_12 N n (oi u 3 (zI k)) = some (oi u 3 (zI (sk ltr T L k))) := by
  obtain ⟨⟨t1, t6⟩, t2, t3⟩ := hT
  intro j
  induction j with
  | zero =>
    intro k n hk hn
    obtain ⟨n, rfl⟩ : ∃ k, n = k + 1 := ⟨n - 1, by omega⟩
    have : k = L := by omega
    subst this
    rw [l_X3_readWord_12, oi_s, oi_n u _ (by decide), t1, if_pos (Int32.le_refl _), sk_stop (Or.inl (Nat.le_refl _))]
  | succ j ih =>
    intro k n hk hn
    obtain ⟨n, rfl⟩ : ∃ k, n = k + 1 := ⟨n - 1, by omega⟩
    obtain ⟨z1, z2, z3⟩ := t3 k (by omega)
    have s := sg_rng z1 z2
    have c1 : (zI (L : Int) ≤ zI (k : Int)) = False := by simp (maxSteps := 400000) (disch := omega) only [zI_lit, zI_neg, zI_add, zI_sub, zI_mul, zI_div, zI_tn, zI_toL, zL_lit, zL_neg, zL_add, zL_sub, zL_mul, zL_div, zL_toI, zI_ltT, zI_ltF, zI_leT, zI_leF, zI_eqT, zI_eqF, zL_ltT, zL_ltF, zL_leT, zL_leF, zL_eqT, zL_eqF, nleT, nleF, or_self, or_false, false_or, true_or, or_true, not_true_eq_false, not_false_eq_true, ↓reduceIte, Option.bind_some, Bool.false_eq_true, decide_true, decide_false]
    have c2 : (zI (k : Int) < 0 ∨ 600 ≤ k) = False := by simp (maxSteps := 400000) (disch := omega) only [zI_lit, zI_neg, zI_add, zI_sub, zI_mul, zI_div, zI_tn, zI_toL, zL_lit, zL_neg, zL_add, zL_sub, zL_mul, zL_div, zL_toI, zI_ltT, zI_ltF, zI_leT, zI_leF, zI_eqT, zI_eqF, zL_ltT, zL_ltF, zL_leT, zL_leF, zL_eqT, zL_eqF, nleT, nleF, or_self, or_false, false_or, true_or, or_true, not_true_eq_false, not_false_eq_true, ↓reduceIte, Option.bind_some, Bool.false_eq_true, decide_true, decide_false]
    have c3 : (zI (sg (T k)) < 97) = (sg (T k) < 97) := by rw [zI_lit, zI_lt (by omega) (by omega) (by omega) (by omega)]
    have c4 : ((122 : Int32) < zI (sg (T k))) = (122 < sg (T k)) := by rw [zI_lit, zI_lt (by omega) (by omega) (by omega) (by omega)]
    rw [l_X3_readWord_12, oi_s, oi_n u _ (by decide), t1, ifF c1, zI_tnN (by omega), ifF c2]
    show (if u.2.2.1 0 k < 97 then _ else (if zI (k : Int) < 0 ∨ 600 ≤ k then _ else (if (122 : Int32) < u.2.2.1 0 k then _ else _))) = _
    rw [z3, ifF c2, zI_suc, oi_oi]
    by_cases g : sg (T k) < 97
    · rw [ifP c3 g, sk_stop (Or.inr (decide_eq_false (by omega)))]
    · rw [ifN c3 g]
      by_cases g2 : 122 < sg (T k)
      · rw [ifP c4 g2, sk_stop (Or.inr (decide_eq_false (by omega)))]
      · rw [ifN c4 g2, sk_go (by omega) (decide_eq_true (by omega))]
        exact ih (k + 1) n (by omega) (by omega)
theorem X3_readWord_v {N : Nat} (hN : 700 ≤ N) {T : Nat → Int} {L p : Nat} {u : Ob} (hT : CT T L u) (hp : u.1 3 = zI p) (pL : p ≤ L) : f_X3_readWord N u = some (oi (oi (oi u 3 (zI (sk spc T L p))) 4 (zI (sk spc T L p))) 3 (zI (sk ltr T L (sk spc T L p)))) := by
  have r := sk_rng spc T pL
  have hT2 : CT T L (oi (oi u 3 (zI (sk spc T L p))) 4 (zI (sk spc T L p))) := CT_up hT ((oi_n _ _ (by decide)).trans (oi_n _ _ (by decide))) ((oi_n _ _ (by decide)).trans (oi_n _ _ (by decide))) rfl
  have := X3_rw_l N hT2 (L - sk spc T L p) (sk spc T L p) N (by omega) (by have := hT.2.1; omega)
  rw [oi_id _ 3 ((oi_n _ _ (by decide)).trans (oi_s u 3 _))] at this
  rw [f_X3_readWord, X3_skipSpaces_v hN hT hp pL, Option.bind_some, oi_s]
  exact this
def nrR (T : Nat → Int) (L a : Nat) (lo hi : Int) : Int := if sk dgt T L a = a then -2 else if nmT T L a < lo ∨ hi < nmT T L a then -3 else 0
theorem X3_rn_end (N : Nat) {L : Nat} {lo hi : Int} (l1 : -2147483648 ≤ lo) (l2 : lo < 2147483648) (h1 : -2147483648 ≤ hi) (h2 : hi < 2147483648) {s d : Nat} (hs : s ≤ 600) (hd : d ≤ 600) {m : Int} (m0 : 0 ≤ m) (m1 : m < 200000000000) (u : Ob) (hu : u.1 3 = zI d) :
    (if u.1 3 = zI (s : Int) then ((f_X3_fail N (-2) (zI s) u).bind fun q11 => some ((0 : Int32), q11)) else (if zL (if m < 10000000000 then m else 10000000000) < (zI lo).toInt64 then ((f_X3_fail N (-3) (zI s) u).bind fun q6 => some (0, q6)) else (if zL (if m < 10000000000 then m else 10000000000) ≤ (zI hi).toInt64 then some ((zL (if m < 10000000000 then m else 10000000000)).toInt32, u) else ((f_X3_fail N (-3) (zI s) u).bind fun q9 => some (0, q9))))) =
    (if d = s then some (0, oi (oi u 5 (-2)) 6 (zI s)) else if m < lo ∨ hi < m then some (0, oi (oi u 5 (-3)) 6 (zI s)) else some (zI m, u)) := by
  rw [hu, zI_toL l1 l2, zI_toL h1 h2]
  have e1 : (zI (d : Int) = zI (s : Int)) = (d = s) := by
    rw [zI_eq (by omega) (by omega) (by omega) (by omega)]
    exact propext (by omega)
  by_cases g : d = s
  · rw [ifP e1 g, if_pos g]
    rfl
  · rw [ifN e1 g, if_neg g]
    by_cases gm : m < 10000000000
    · rw [if_pos gm]
      have e2 : (zL m < zL lo) = (m < lo) := zL_lt (by omega) (by omega) (by omega) (by omega)
      have e3 : (zL m ≤ zL hi) = (m ≤ hi) := zL_le (by omega) (by omega) (by omega) (by omega)
      by_cases g2 : m < lo
      · rw [ifP e2 g2, if_pos (Or.inl g2)]
        rfl
      · rw [ifN e2 g2]
        by_cases g3 : m ≤ hi
        · rw [ifP e3 g3, if_neg (by omega), zL_toI]
        · rw [ifN e3 g3, if_pos (by omega)]
          rfl
    · rw [if_neg gm]
      have e2 : (zL 10000000000 < zL lo) = (10000000000 < lo) := zL_lt (by omega) (by omega) (by omega) (by omega)
      have e3 : (zL 10000000000 ≤ zL hi) = (10000000000 ≤ hi) := zL_le (by omega) (by omega) (by omega) (by omega)
      rw [ifN e2 (by omega), ifN e3 (by omega), if_pos (by omega)]
      rfl
theorem X3_rn_l (N : Nat) {T : Nat → Int} {L s : Nat} {lo hi : Int} (l1 : -2147483648 ≤ lo) (l2 : lo < 2147483648) (h1 : -2147483648 ≤ hi) (h2 : hi < 2147483648) {u : Ob} (hT : CT T L u) (hs : s ≤ 600) : ∀ (j k n : Nat) (c : Int), k + j = L → j < n → 0 ≤ c → c < 200000000000 →
    l_X3_readNumber_12 N (zI lo) (zI hi) n (zI s) (zL (if c < 10000000000 then c else 10000000000)) (oi u 3 (zI k)) = (if sk dgt T L k = s then some (0, oi (oi (oi u 3 (zI (sk dgt T L k))) 5 (-2)) 6 (zI s)) else if nmv T (L - k) k c < lo ∨ hi < nmv T (L - k) k c then some (0, oi (oi (oi u 3 (zI (sk dgt T L k))) 5 (-3)) 6 (zI s)) else some (zI (nmv T (L - k) k c), oi u 3 (zI (sk dgt T L k)))) := by
  have t2' := hT.2.1
  obtain ⟨⟨t1, t6⟩, t2, t3⟩ := id hT
  intro j
  induction j with
  | zero =>
    intro k n c hk hn c0 c1
    obtain ⟨n, rfl⟩ : ∃ k, n = k + 1 := ⟨n - 1, by omega⟩
    have : k = L := by omega
    subst this
    have e := X3_rn_end N (L := k) l1 l2 h1 h2 hs (show k ≤ 600 by omega) c0 c1 (oi u 3 (zI k)) (oi_s u 3 _)
    rw [oi_s] at e
    rw [l_X3_readNumber_12, oi_s, oi_n u _ (by decide), t1, if_pos (Int32.le_refl _), sk_stop (Or.inl (Nat.le_refl _)), Nat.sub_self, nmv]
    exact e
  | succ j ih =>
    intro k n c hk hn c0 c1
    obtain ⟨n, rfl⟩ : ∃ k, n = k + 1 := ⟨n - 1, by omega⟩
    obtain ⟨z1, z2, z3⟩ := t3 k (by omega)
    have sr := sg_rng z1 z2
    have d1 : (zI (L : Int) ≤ zI (k : Int)) = False := by simp (maxSteps := 400000) (disch := omega) only [zI_lit, zI_neg, zI_add, zI_sub, zI_mul, zI_div, zI_tn, zI_toL, zL_lit, zL_neg, zL_add, zL_sub, zL_mul, zL_div, zL_toI, zI_ltT, zI_ltF, zI_leT, zI_leF, zI_eqT, zI_eqF, zL_ltT, zL_ltF, zL_leT, zL_leF, zL_eqT, zL_eqF, nleT, nleF, or_self, or_false, false_or, true_or, or_true, not_true_eq_false, not_false_eq_true, ↓reduceIte, Option.bind_some, Bool.false_eq_true, decide_true, decide_false]
    have d2 : (zI (k : Int) < 0 ∨ 600 ≤ k) = False := by simp (maxSteps := 400000) (disch := omega) only [zI_lit, zI_neg, zI_add, zI_sub, zI_mul, zI_div, zI_tn, zI_toL, zL_lit, zL_neg, zL_add, zL_sub, zL_mul, zL_div, zL_toI, zI_ltT, zI_ltF, zI_leT, zI_leF, zI_eqT, zI_eqF, zL_ltT, zL_ltF, zL_leT, zL_leF, zL_eqT, zL_eqF, nleT, nleF, or_self, or_false, false_or, true_or, or_true, not_true_eq_false, not_false_eq_true, ↓reduceIte, Option.bind_some, Bool.false_eq_true, decide_true, decide_false]
    have d3 : (zI (sg (T k)) < 48) = (sg (T k) < 48) := by rw [zI_lit, zI_lt (by omega) (by omega) (by omega) (by omega)]
    have d4 : ((57 : Int32) < zI (sg (T k))) = (57 < sg (T k)) := by rw [zI_lit, zI_lt (by omega) (by omega) (by omega) (by omega)]
    have e := X3_rn_end N (L := k) l1 l2 h1 h2 hs (show k ≤ 600 by omega) c0 c1 (oi u 3 (zI k)) (oi_s u 3 _)
    have hj : L - k = j + 1 := by omega
    have hj2 : L - (k + 1) = j := by omega
    rw [l_X3_readNumber_12, ifF (show ((oi u 3 (zI (k : Int))).1 2 ≤ (oi u 3 (zI (k : Int))).1 3) = False by rw [oi_s, oi_n u _ (by decide), t1]; exact d1)]
    have x3 : (oi u 3 (zI (k : Int))).1 3 = zI k := oi_s u 3 _
    have tt : ((oi u 3 (zI (k : Int))).1 3).toNatClampNeg = k := by rw [x3]; exact zI_tnN (by omega)
    have d2' : ((oi u 3 (zI (k : Int))).1 3 < 0 ∨ 600 ≤ ((oi u 3 (zI (k : Int))).1 3).toNatClampNeg) = False := by
      rw [tt, x3]
      exact d2
    rw [ifF d2', ifF d2', ifF d2', tt]
    have zr : (oi u 3 (zI (k : Int))).2.2.1 0 k = zI (sg (T k)) := z3
    rw [zr]
    by_cases g : sg (T k) < 48
    · have gd : dgt (T k) = false := decide_eq_false (by omega)
      rw [ifP d3 g, sk_stop (Or.inr gd), hj, nmv, gd, ifb0]
      exact e
    · rw [ifN d3 g]
      by_cases g2 : 57 < sg (T k)
      · have gd : dgt (T k) = false := decide_eq_false (by omega)
        rw [ifP d4 g2, sk_stop (Or.inr gd), hj, nmv, gd, ifb0]
        exact e
      · have gd : dgt (T k) = true := decide_eq_true (by omega)
        have hsg : sg (T k) = T k := sr.2.2.1 (by omega)
        rw [ifN d4 g2, sk_go (by omega) gd, hj, nmv, gd, ifb1, hsg, x3, zI_suc, oi_oi, zI_toL (by omega) (by omega)]
        have h := ih (k + 1) n (if c < 10000000000 then 10 * c + (T k - 48) else c) (by omega) (by omega) (by split <;> omega) (by split <;> omega)
        rw [hj2] at h
        rw [← h]
        congr 1
        by_cases gc : c < 10000000000
        · rw [if_pos gc, if_pos gc]
          by_cases gn : 10 * c + (T k - 48) < 10000000000
          · rw [if_pos gn]
            have ee : (10 : Int64) * zL c + zL (T k) - 48 = zL (10 * c + (T k - 48)) := by
              simp (maxSteps := 400000) (disch := omega) only [zI_lit, zI_neg, zI_add, zI_sub, zI_mul, zI_div, zI_tn, zI_toL, zL_lit, zL_neg, zL_add, zL_sub, zL_mul, zL_div, zL_toI, zI_lt, zI_le, zI_eq, zL_lt, zL_le, zL_eq]
              congr 1
              omega
            rw [ee, if_neg (show ¬ ((10000000000 : Int64) < zL (10 * c + (T k - 48))) by rw [zL_lit, zL_lt (by omega) (by omega) (by omega) (by omega)]; omega)]
          · rw [if_neg gn]
            have ee : (10 : Int64) * zL c + zL (T k) - 48 = zL (10 * c + (T k - 48)) := by
              simp (maxSteps := 400000) (disch := omega) only [zI_lit, zI_neg, zI_add, zI_sub, zI_mul, zI_div, zI_tn, zI_toL, zL_lit, zL_neg, zL_add, zL_sub, zL_mul, zL_div, zL_toI, zI_lt, zI_le, zI_eq, zL_lt, zL_le, zL_eq]
              congr 1
              omega
            rw [ee]
            by_cases gz : 10 * c + (T k - 48) = 10000000000
            · rw [gz, if_neg (show ¬ ((10000000000 : Int64) < zL 10000000000) by decide)]
            · rw [if_pos (show ((10000000000 : Int64) < zL (10 * c + (T k - 48))) by rw [zL_lit, zL_lt (by omega) (by omega) (by omega) (by omega)]; omega)]
              rfl
        · rw [if_neg gc, if_neg gc, if_neg gc]
          have ee : (10 : Int64) * zL 10000000000 + zL (T k) - 48 = zL (100000000000 + (T k - 48)) := by
            simp (maxSteps := 400000) (disch := omega) only [zI_lit, zI_neg, zI_add, zI_sub, zI_mul, zI_div, zI_tn, zI_toL, zL_lit, zL_neg, zL_add, zL_sub, zL_mul, zL_div, zL_toI, zI_lt, zI_le, zI_eq, zL_lt, zL_le, zL_eq]
            congr 1
            omega
          rw [ee, if_pos (show ((10000000000 : Int64) < zL (100000000000 + (T k - 48))) by rw [zL_lit, zL_lt (by omega) (by omega) (by omega) (by omega)]; omega)]
          rfl
theorem X3_readNumber_v {N : Nat} (hN : 700 ≤ N) {T : Nat → Int} {L p : Nat} {lo hi : Int} (l1 : -2147483648 ≤ lo) (l2 : lo < 2147483648) (h1 : -2147483648 ≤ hi) (h2 : hi < 2147483648) {u : Ob} (hT : CT T L u) (hp : u.1 3 = zI p) (pL : p ≤ L) : f_X3_readNumber N (zI lo) (zI hi) u = (if nrR T L (sk spc T L p) lo hi = 0 then some (zI (nmT T L (sk spc T L p)), oi u 3 (zI (sk dgt T L (sk spc T L p)))) else some (0, oi (oi (oi u 3 (zI (sk dgt T L (sk spc T L p)))) 5 (zI (nrR T L (sk spc T L p) lo hi))) 6 (zI (sk spc T L p)))) := by
  have r := sk_rng spc T pL
  have h600 := hT.2.1
  have h := X3_rn_l N (s := sk spc T L p) l1 l2 h1 h2 hT (by omega) (L - sk spc T L p) (sk spc T L p) N 0 (by omega) (by omega) (by omega) (by omega)
  rw [f_X3_readNumber, X3_skipSpaces_v hN hT hp pL, Option.bind_some, oi_s]
  refine Eq.trans h ?_
  unfold nrR
  rw [show nmv T (L - sk spc T L p) (sk spc T L p) 0 = nmT T L (sk spc T L p) from rfl]
  by_cases g : sk dgt T L (sk spc T L p) = sk spc T L p
  · rw [if_pos g, if_pos g, if_neg (by decide)]
    rfl
  · rw [if_neg g, if_neg g]
    by_cases g2 : nmT T L (sk spc T L p) < lo ∨ hi < nmT T L (sk spc T L p)
    · rw [if_pos g2, if_pos g2, if_neg (by decide)]
      rfl
    · rw [if_neg g2, if_neg g2, if_pos rfl]
