/-! the reference's tokens -/
def TOK (T : Nat → Int) (L : Nat) (m : Ob) (a : Nat) : Prop := m.1 12 = zI a ∧ m.1 13 = zI (tkE T L a) ∧ m.1 14 = zI (tkK T L a) ∧ (tkK T L a = 1 → m.2.1 18 = zL (nmT T L a))
/-- what a step of the tokens leaves as it was -/
def LF (m v : Ob) : Prop := (∀ k, k ≠ 8 → k ≠ 12 → k ≠ 13 → k ≠ 14 → k ≠ 15 → k ≠ 16 → v.1 k = m.1 k) ∧ v.2.2.1 = m.2.2.1 ∧ ∀ k, k ≠ 0 → v.2.2.2 k = m.2.2.2 k
theorem LF_rfl (m : Ob) : LF m m := ⟨fun _ _ _ _ _ _ _ => rfl, rfl, fun _ _ => rfl⟩
theorem LF_tr {u v w : Ob} (h1 : LF u v) (h2 : LF v w) : LF u w := ⟨fun k a b c d e f => (h2.1 k a b c d e f).trans (h1.1 k a b c d e f), h2.2.1.trans h1.2.1, fun k hk => (h2.2.2 k hk).trans (h1.2.2 k hk)⟩
theorem LF_Sd {u v : Ob} (h : Sd u v) : LF u v := ⟨fun k a _ _ _ _ _ => h.1 k a, h.2.2.1, h.2.2.2⟩
theorem MT_LF {T : Nat → Int} {L : Nat} {u v : Ob} (h : MT T L u) (hl : LF u v) : MT T L v := MT_up h (hl.1 11 (by decide) (by decide) (by decide) (by decide) (by decide) (by decide)) hl.2.1
theorem X6_see_v (N : Nat) {T : Nat → Int} {L k : Nat} {m : Ob} (hT : MT T L m) (hk : k ≤ 600) : f_X6_see N (zI k) m = some (zI (if k < L then T k else -1)) := by
  obtain ⟨t1, t2, t3⟩ := hT
  rw [f_X6_see, t1]
  by_cases g : k < L
  · obtain ⟨z1, z2, z3⟩ := t3 k g
    have c1 : (zI (L : Int) ≤ zI (k : Int)) = False := by simp (maxSteps := 400000) (disch := omega) only [zI_lit, zI_neg, zI_add, zI_sub, zI_mul, zI_div, zI_tn, zI_toL, zL_lit, zL_neg, zL_add, zL_sub, zL_mul, zL_div, zL_toI, zI_ltT, zI_ltF, zI_leT, zI_leF, zI_eqT, zI_eqF, zL_ltT, zL_ltF, zL_leT, zL_leF, zL_eqT, zL_eqF, nleT, nleF, or_self, or_false, false_or, true_or, or_true, not_true_eq_false, not_false_eq_true, ↓reduceIte, Option.bind_some, Bool.false_eq_true, decide_true, decide_false]
    have c2 : (zI (k : Int) < 0 ∨ 600 ≤ k) = False := by simp (maxSteps := 400000) (disch := omega) only [zI_lit, zI_neg, zI_add, zI_sub, zI_mul, zI_div, zI_tn, zI_toL, zL_lit, zL_neg, zL_add, zL_sub, zL_mul, zL_div, zL_toI, zI_ltT, zI_ltF, zI_leT, zI_leF, zI_eqT, zI_eqF, zL_ltT, zL_ltF, zL_leT, zL_leF, zL_eqT, zL_eqF, nleT, nleF, or_self, or_false, false_or, true_or, or_true, not_true_eq_false, not_false_eq_true, ↓reduceIte, Option.bind_some, Bool.false_eq_true, decide_true, decide_false]
    rw [ifF c1, zI_tnN (by omega), ifF c2, z3, if_pos g]
  · rw [if_pos (show zI (L : Int) ≤ zI (k : Int) by rw [zI_le (by omega) (by omega) (by omega) (by omega)]; omega), if_neg g]
    rfl
theorem X6_isLetter_v (N : Nat) {z : Int} (h1 : -1 ≤ z) (h2 : z ≤ 255) : f_X6_isLetter N (zI z) = some (ltr z) := by
  rw [f_X6_isLetter, zI_toL (by omega) (by omega), show (97 : Int64) = zL 97 from rfl, show (122 : Int64) = zL 122 from rfl, X6_isIn_v N (by omega) (by omega) (by omega)]
  rfl
theorem X6_isDigit_v (N : Nat) {z : Int} (h1 : -1 ≤ z) (h2 : z ≤ 255) : f_X6_isDigit N (zI z) = some (dgt z) := by
  rw [f_X6_isDigit, zI_toL (by omega) (by omega), show (48 : Int64) = zL 48 from rfl, show (57 : Int64) = zL 57 from rfl, X6_isIn_v N (by omega) (by omega) (by omega)]
  rfl
theorem sv_rng {T : Nat → Int} {L : Nat} {m : Ob} (hT : MT T L m) (k : Nat) : -1 ≤ (if k < L then T k else -1) ∧ (if k < L then T k else -1) ≤ 255 := by
  by_cases g : k < L
  · rw [if_pos g]
    have := hT.2.2 k g
    omega
  · rw [if_neg g]
    omega
theorem X6_n75_l {N : Nat} {T : Nat → Int} {L : Nat} {m : Ob} (hT : MT T L m) : ∀ (j k n : Nat), k + j = L → j < n → l_X6_next_75 N n (oi m 13 (zI k)) = some (oi (oi m 13 (zI (sk ltr T L k))) 14 0) := by
  have t2 := hT.2.1
  intro j
  induction j with
  | zero =>
    intro k n hk hn
    obtain ⟨n, rfl⟩ : ∃ k, n = k + 1 := ⟨n - 1, by omega⟩
    have : k = L := by omega
    subst this
    have hT2 : MT T k (oi m 13 (zI k)) := MT_up hT (oi_n m _ (by decide)) rfl
    rw [l_X6_next_75, oi_s, X6_see_v N hT2 (by omega), Option.bind_some, if_neg (Nat.lt_irrefl k), X6_isLetter_v N (by omega) (by omega), Option.bind_some, show ltr (-1) = false from rfl, ifb0, sk_stop (Or.inl (Nat.le_refl _))]
  | succ j ih =>
    intro k n hk hn
    obtain ⟨n, rfl⟩ : ∃ k, n = k + 1 := ⟨n - 1, by omega⟩
    have hT2 : MT T L (oi m 13 (zI k)) := MT_up hT (oi_n m _ (by decide)) rfl
    have hz := hT.2.2 k (by omega)
    rw [l_X6_next_75, oi_s, X6_see_v N hT2 (by omega), Option.bind_some, if_pos (show k < L by omega), X6_isLetter_v N (by omega) (by omega), Option.bind_some, zI_suc, oi_oi]
    cases g : ltr (T k)
    · rw [ifb0, sk_stop (Or.inr g)]
    · rw [ifb1, sk_go (by omega) g]
      exact ih (k + 1) n (by omega) (by omega)
theorem X6_n129_l {N : Nat} {T : Nat → Int} {L : Nat} {m : Ob} (hT : MT T L m) : ∀ (j k n : Nat) (c : Int), k + j = L → j < n → 0 ≤ c → c < 200000000000 → l_X6_next_129 N n (ol (oi m 13 (zI k)) 18 (zL c)) = some (oi (ol (oi m 13 (zI (sk dgt T L k))) 18 (zL (nmv T (L - k) k c))) 14 1) := by
  have t2 := hT.2.1
  intro j
  induction j with
  | zero =>
    intro k n c hk hn c0 c1
    obtain ⟨n, rfl⟩ : ∃ k, n = k + 1 := ⟨n - 1, by omega⟩
    have : k = L := by omega
    subst this
    have hT2 : MT T k (ol (oi m 13 (zI k)) 18 (zL c)) := MT_up hT (show (oi m 13 (zI (k : Int))).1 11 = m.1 11 from oi_n m _ (by decide)) rfl
    have x13 : (ol (oi m 13 (zI k)) 18 (zL c)).1 13 = zI k := oi_s m 13 _
    rw [l_X6_next_129, x13, X6_see_v N hT2 (by omega), Option.bind_some, if_neg (Nat.lt_irrefl k), X6_isDigit_v N (by omega) (by omega), Option.bind_some, show dgt (-1) = false from rfl, ifb0, sk_stop (Or.inl (Nat.le_refl _)), Nat.sub_self, nmv]
  | succ j ih =>
    intro k n c hk hn c0 c1
    obtain ⟨n, rfl⟩ : ∃ k, n = k + 1 := ⟨n - 1, by omega⟩
    have hT2 : MT T L (ol (oi m 13 (zI k)) 18 (zL c)) := MT_up hT (show (oi m 13 (zI (k : Int))).1 11 = m.1 11 from oi_n m _ (by decide)) rfl
    have hz := hT.2.2 k (by omega)
    have x13 : (ol (oi m 13 (zI k)) 18 (zL c)).1 13 = zI k := oi_s m 13 _
    have x18 : (ol (oi m 13 (zI k)) 18 (zL c)).2.1 18 = zL c := ol_s _ 18 _
    have hj : L - k = j + 1 := by omega
    have hj2 : L - (k + 1) = j := by omega
    rw [l_X6_next_129, x13, x18, X6_see_v N hT2 (by omega), Option.bind_some, if_pos (show k < L by omega), X6_isDigit_v N (by omega) (by omega), Option.bind_some, Option.bind_some, zI_suc, hj, nmv]
    cases g : dgt (T k)
    · rw [ifb0, ifb0, sk_stop (Or.inr g)]
    · unfold dgt at g
      have g' := of_decide_eq_true g
      rw [ifb1, ifb1, sk_go (by omega) g]
      by_cases gc : c < 10000000000
      · rw [if_neg (show ¬ ((10000000000 : Int64) ≤ zL c) by rw [zL_lit, zL_le (by omega) (by omega) (by omega) (by omega)]; omega), if_pos gc]
        have ee : (10 : Int64) * zL c + (zI (T k)).toInt64 - 48 = zL (10 * c + (T k - 48)) := by
          rw [zI_toL (by omega) (by omega)]
          simp (maxSteps := 400000) (disch := omega) only [zI_lit, zI_neg, zI_add, zI_sub, zI_mul, zI_div, zI_tn, zI_toL, zL_lit, zL_neg, zL_add, zL_sub, zL_mul, zL_div, zL_toI, zI_lt, zI_le, zI_eq, zL_lt, zL_le, zL_eq]
          congr 1
          omega
        rw [ee]
        have h := ih (k + 1) n (10 * c + (T k - 48)) (by omega) (by omega) (by omega) (by omega)
        rw [hj2] at h
        rw [← h]
        congr 1
        show (va_up (va_up m.1 13 (zI k)) 13 _, va_up (va_up m.2.1 18 (zL c)) 18 _, m.2.2) = (va_up m.1 13 _, va_up m.2.1 18 _, m.2.2)
        rw [va_up_up, va_up_up]
      · rw [if_pos (show ((10000000000 : Int64) ≤ zL c) by rw [zL_lit, zL_le (by omega) (by omega) (by omega) (by omega)]; omega), if_neg gc]
        have h := ih (k + 1) n c (by omega) (by omega) (by omega) (by omega)
        rw [hj2] at h
        rw [← h]
        congr 1
        show (va_up (va_up m.1 13 (zI k)) 13 _, va_up m.2.1 18 (zL c), m.2.2) = (va_up m.1 13 _, va_up m.2.1 18 _, m.2.2)
        rw [va_up_up]
theorem X6_n8_l {N : Nat} (hN : 700 ≤ N) {T : Nat → Int} {L : Nat} {m : Ob} (hT : MT T L m) : ∀ (j k n : Nat), k + j = L → j < n → ∃ v, l_X6_next_8 N n (oi m 12 (zI k)) = some v ∧ TOK T L v (sk spc T L k) ∧ (∀ i, i ≠ 12 → i ≠ 13 → i ≠ 14 → v.1 i = m.1 i) ∧ v.2.2 = m.2.2 := by
  have t2 := hT.2.1
  have stop : ∀ (k n : Nat), k ≤ L → spc (if k < L then T k else -1) = false → sk spc T L k = k → ∃ v, l_X6_next_8 N (n + 1) (oi m 12 (zI k)) = some v ∧ TOK T L v k ∧ (∀ i, i ≠ 12 → i ≠ 13 → i ≠ 14 → v.1 i = m.1 i) ∧ v.2.2 = m.2.2 := by
    intro k n hk hs _
    have hT2 : MT T L (oi m 12 (zI k)) := MT_up hT (oi_n m _ (by decide)) rfl
    have hT3 : MT T L (oi (oi m 12 (zI k)) 13 (zI k)) := MT_up hT ((oi_n _ _ (by decide)).trans (oi_n m _ (by decide))) rfl
    have r := sv_rng hT k
    have x12 : (oi m 12 (zI (k : Int))).1 12 = zI k := oi_s m 12 _
    have x11 : (oi m 12 (zI (k : Int))).1 11 = zI L := (oi_n m _ (by decide)).trans hT.1
    have hs' : ¬ ((if k < L then T k else -1) = 32) := by
      unfold spc at hs
      exact of_decide_eq_false hs
    rw [l_X6_next_8, x12, X6_see_v N hT2 (by omega), Option.bind_some, x11, if_neg (show ¬ zI (if k < L then T k else -1) = 32 by rw [zI_lit, zI_eq (by omega) (by omega) (by omega) (by omega)]; exact hs')]
    by_cases g : k < L
    · have hz := hT.2.2 k g
      rw [if_pos (show zI (k : Int) < zI (L : Int) by rw [zI_lt (by omega) (by omega) (by omega) (by omega)]; omega), X6_see_v N hT3 (by omega), Option.bind_some, if_pos g, X6_isLetter_v N (by omega) (by omega), Option.bind_some]
      cases gl : ltr (T k)
      · rw [ifb0, Option.bind_some, X6_isDigit_v N (by omega) (by omega), Option.bind_some]
        cases gd : dgt (T k)
        · rw [ifb0, zI_suc]
          refine ⟨_, rfl, ⟨?_, ?_, ?_, fun h => ?_⟩, fun i i1 i2 i3 => ?_, rfl⟩
          · rw [oi_n _ _ (by decide), oi_n _ _ (by decide), oi_n _ _ (by decide), oi_s]
          · rw [oi_n _ _ (by decide), oi_s]
            unfold tkE
            rw [if_neg (by omega), gl, ifb0, gd, ifb0]
          · rw [oi_s]
            unfold tkK
            rw [if_neg (by omega), gl, ifb0, gd, ifb0]
            rfl
          · unfold tkK at h
            rw [if_neg (by omega), gl, ifb0, gd, ifb0] at h
            omega
          · rw [oi_n _ _ i3, oi_n _ _ i2, oi_n _ _ i2, oi_n _ _ i1]
        · rw [ifb1]
          have h := X6_n129_l (N := N) (m := oi m 12 (zI k)) (L := L) (T := T) hT2 (L - k) k N 0 (by omega) (by omega) (by omega) (by omega)
          refine ⟨_, h, ⟨?_, ?_, ?_, fun _ => ?_⟩, fun i i1 i2 i3 => ?_, rfl⟩
          · rw [oi_n _ _ (by decide)]
            show (oi (oi m 12 (zI k)) 13 (zI (sk dgt T L k))).1 12 = _
            rw [oi_n _ _ (by decide), oi_s]
          · have hE : tkE T L k = sk dgt T L k := by
              unfold tkE
              rw [if_neg (by omega), gl, ifb0, gd, ifb1]
            rw [oi_n _ _ (by decide), hE]
            exact oi_s (oi m 12 (zI k)) 13 _
          · rw [oi_s]
            unfold tkK
            rw [if_neg (by omega), gl, ifb0, gd, ifb1]
            rfl
          · exact ol_s _ 18 _
          · rw [oi_n _ _ i3]
            show (oi (oi m 12 (zI k)) 13 (zI (sk dgt T L k))).1 i = _
            rw [oi_n _ _ i2, oi_n _ _ i1]
      · rw [ifb1]
        have h := X6_n75_l (N := N) (m := oi m 12 (zI k)) (L := L) (T := T) hT2 (L - k) k N (by omega) (by omega)
        refine ⟨_, h, ⟨?_, ?_, ?_, fun h => ?_⟩, fun i i1 i2 i3 => ?_, rfl⟩
        · rw [oi_n _ _ (by decide), oi_n _ _ (by decide), oi_s]
        · rw [oi_n _ _ (by decide), oi_s]
          unfold tkE
          rw [if_neg (by omega), gl, ifb1]
        · rw [oi_s]
          unfold tkK
          rw [if_neg (by omega), gl, ifb1]
          rfl
        · unfold tkK at h
          rw [if_neg (by omega), gl, ifb1] at h
          omega
        · rw [oi_n _ _ i3, oi_n _ _ i2, oi_n _ _ i1]
    · rw [if_neg (show ¬ zI (k : Int) < zI (L : Int) by rw [zI_lt (by omega) (by omega) (by omega) (by omega)]; omega)]
      refine ⟨_, rfl, ⟨?_, ?_, ?_, fun h => ?_⟩, fun i i1 i2 i3 => ?_, rfl⟩
      · rw [oi_n _ _ (by decide), oi_n _ _ (by decide), oi_s]
      · rw [oi_n _ _ (by decide), oi_s]
        unfold tkE
        rw [if_pos (by omega)]
      · rw [oi_s]
        unfold tkK
        rw [if_pos (by omega)]
        rfl
      · unfold tkK at h
        rw [if_pos (by omega)] at h
        omega
      · rw [oi_n _ _ i3, oi_n _ _ i2, oi_n _ _ i1]
  intro j
  induction j with
  | zero =>
    intro k n hk hn
    obtain ⟨n, rfl⟩ : ∃ k, n = k + 1 := ⟨n - 1, by omega⟩
    have e : sk spc T L k = k := sk_stop (Or.inl (by omega))
    rw [e]
    exact stop k n (by omega) (by rw [if_neg (by omega)]; rfl) e
  | succ j ih =>
    intro k n hk hn
    obtain ⟨n, rfl⟩ : ∃ k, n = k + 1 := ⟨n - 1, by omega⟩
    cases g : spc (T k)
    · have e : sk spc T L k = k := sk_stop (Or.inr g)
      rw [e]
      exact stop k n (by omega) (by rw [if_pos (by omega)]; exact g) e
    · obtain ⟨v, v1, v2⟩ := ih (k + 1) n (by omega) (by omega)
      have hT2 : MT T L (oi m 12 (zI k)) := MT_up hT (oi_n m _ (by decide)) rfl
      have hz := hT.2.2 k (by omega)
      have g' : T k = 32 := of_decide_eq_true g
      rw [sk_go (by omega) g]
      refine ⟨v, ?_, v2⟩
      rw [l_X6_next_8, oi_s, X6_see_v N hT2 (by omega), Option.bind_some, if_pos (show k < L by omega), if_pos (show zI (T k) = 32 by rw [g']; rfl), zI_suc, oi_oi]
      exact v1
theorem X6_next_v {N : Nat} (hN : 700 ≤ N) {T : Nat → Int} {L p : Nat} {m : Ob} (hT : MT T L m) (hp : m.1 13 = zI p) (pL : p ≤ L) : ∃ v, f_X6_next N m = some v ∧ TOK T L v (sk spc T L p) ∧ (∀ i, i ≠ 12 → i ≠ 13 → i ≠ 14 → v.1 i = m.1 i) ∧ v.2.2 = m.2.2 := by
  have t2 := hT.2.1
  rw [f_X6_next, hp]
  exact X6_n8_l hN hT (L - p) p N (by omega) (by omega)
/-- words -/
def lnW (i : Nat) : Nat := lenS.getD i 0
def chW (i j : Nat) : Int := (((bytS.getD i []).getD j 0) : Int32).toInt
theorem ch_fin : ∀ i : Fin 9, ∀ j : Fin 9, j.val < lnW i.val → (i2c (((bytS.getD i.val []).getD j.val 0) &&& 255) = zI (chW i.val j.val)) ∧ 97 ≤ chW i.val j.val ∧ chW i.val j.val ≤ 122 := by decide +kernel
theorem ln_fin : ∀ i : Fin 9, 1 ≤ lnW i.val ∧ lnW i.val ≤ 9 ∧ (Int32.ofNat (lenS.getD i.val 0)) >>> ((0 : Int32) &&& 31) = zI (lnW i.val) ∧ Int32.ofNat (lenS.getD i.val 0) = zI (lnW i.val) := by decide +kernel
theorem len_v (N : Nat) {i : Nat} (hi : i < 9) : f_J0_length_8abf5 N i = some (zI (lnW i)) := by
  rw [f_J0_length_8abf5, f_J0_coder_7d493, Option.bind_some]
  exact congrArg some (ln_fin ⟨i, hi⟩).2.2.1
theorem chr_v (N : Nat) {i j : Nat} (hi : i < 9) (hj : j < lnW i) : f_J0_charAt_5068e N i (zI j) = some (zI (chW i j)) := by
  have hl := ln_fin ⟨i, hi⟩
  have hl2 : lnW i ≤ 9 := hl.2.1
  have hl4 : Int32.ofNat (lenS.getD i 0) = zI (lnW i) := hl.2.2.2
  have c1 : (zI (j : Int) < 0) = False := by simp (maxSteps := 400000) (disch := omega) only [zI_lit, zI_neg, zI_add, zI_sub, zI_mul, zI_div, zI_tn, zI_toL, zL_lit, zL_neg, zL_add, zL_sub, zL_mul, zL_div, zL_toI, zI_ltT, zI_ltF, zI_leT, zI_leF, zI_eqT, zI_eqF, zL_ltT, zL_ltF, zL_leT, zL_leF, zL_eqT, zL_eqF, nleT, nleF, or_self, or_false, false_or, true_or, or_true, not_true_eq_false, not_false_eq_true, ↓reduceIte, Option.bind_some, Bool.false_eq_true, decide_true, decide_false]
  have c2 : (zI (j : Int) < zI (lnW i : Int)) = True := by
    rw [zI_lt (by omega) (by omega) (by omega) (by omega)]
    exact eq_true (by omega)
  have c3 : (zI (j : Int) < 0 ∨ lenS.getD i 0 ≤ j) = False := by
    have : ¬ (lenS.getD i 0 ≤ j) := by
      show ¬ (lnW i ≤ j)
      omega
    rw [c1]
    exact eq_false (fun z => z.elim id this)
  have hc := (ch_fin ⟨i, hi⟩ ⟨j, by omega⟩ hj).1
  rw [f_J0_charAt_5068e, f_J0_isLatin1_aae02, Option.bind_some, ifb1, f_J1_charAt_3b067, f_J0_checkIndex_df160, hl4, f_J3_checkIndex_8e157_n, ifF c1, if_pos (c2.mpr trivial), Option.bind_some, Option.bind_some, zI_tnN (by omega), ifF c3, Option.bind_some]
  exact congrArg some hc
def wB (T : Nat → Int) (L i a : Nat) : Bool := decide (sk ltr T L a - a = lnW i ∧ ∀ t, t < lnW i → T (a + t) = chW i t)
theorem X3_wi_l (N : Nat) {T : Nat → Int} {L i a : Nat} (hi : i < 9) {u : Ob} (hT : CT T L u) (h4 : u.1 4 = zI a) (ha : a + lnW i ≤ L) : ∀ (j t n : Nat), t + j = lnW i → j < n → (∀ q, q < t → T (a + q) = chW i q) → l_X3_wordIs_20 N i n (zI t) u = some (decide (∀ q, q < lnW i → T (a + q) = chW i q), u) := by
  obtain ⟨⟨t1, t6⟩, t2, t3⟩ := hT
  have hl2 : lnW i ≤ 9 := (ln_fin ⟨i, hi⟩).2.1
  intro j
  induction j with
  | zero =>
    intro t n ht hn hq
    obtain ⟨n, rfl⟩ : ∃ k, n = k + 1 := ⟨n - 1, by omega⟩
    rw [l_X3_wordIs_20, len_v N hi, Option.bind_some, if_pos (show zI (lnW i : Int) ≤ zI (t : Int) by rw [zI_le (by omega) (by omega) (by omega) (by omega)]; omega), decide_eq_true (fun q hq' => hq q (by omega))]
  | succ j ih =>
    intro t n ht hn hq
    obtain ⟨n, rfl⟩ : ∃ k, n = k + 1 := ⟨n - 1, by omega⟩
    obtain ⟨z1, z2, z3⟩ := t3 (a + t) (by omega)
    have s := sg_rng z1 z2
    have hc := (ch_fin ⟨i, hi⟩ ⟨t, by omega⟩ (show t < lnW i by omega)).2
    have hc : 97 ≤ chW i t ∧ chW i t ≤ 122 := hc
    have za : zI (a : Int) + zI (t : Int) = zI ((a + t : Nat) : Int) := by rw [zI_add]; rfl
    have d1 : (zI (lnW i : Int) ≤ zI (t : Int)) = False := by simp (maxSteps := 400000) (disch := omega) only [zI_lit, zI_neg, zI_add, zI_sub, zI_mul, zI_div, zI_tn, zI_toL, zL_lit, zL_neg, zL_add, zL_sub, zL_mul, zL_div, zL_toI, zI_ltT, zI_ltF, zI_leT, zI_leF, zI_eqT, zI_eqF, zL_ltT, zL_ltF, zL_leT, zL_leF, zL_eqT, zL_eqF, nleT, nleF, or_self, or_false, false_or, true_or, or_true, not_true_eq_false, not_false_eq_true, ↓reduceIte, Option.bind_some, Bool.false_eq_true, decide_true, decide_false]
    have d2 : (zI (L : Int) ≤ zI ((a + t : Nat) : Int)) = False := by simp (maxSteps := 400000) (disch := omega) only [zI_lit, zI_neg, zI_add, zI_sub, zI_mul, zI_div, zI_tn, zI_toL, zL_lit, zL_neg, zL_add, zL_sub, zL_mul, zL_div, zL_toI, zI_ltT, zI_ltF, zI_leT, zI_leF, zI_eqT, zI_eqF, zL_ltT, zL_ltF, zL_leT, zL_leF, zL_eqT, zL_eqF, nleT, nleF, or_self, or_false, false_or, true_or, or_true, not_true_eq_false, not_false_eq_true, ↓reduceIte, Option.bind_some, Bool.false_eq_true, decide_true, decide_false]
    have d3 : (zI ((a + t : Nat) : Int) < 0 ∨ 600 ≤ a + t) = False := by simp (maxSteps := 400000) (disch := omega) only [zI_lit, zI_neg, zI_add, zI_sub, zI_mul, zI_div, zI_tn, zI_toL, zL_lit, zL_neg, zL_add, zL_sub, zL_mul, zL_div, zL_toI, zI_ltT, zI_ltF, zI_leT, zI_leF, zI_eqT, zI_eqF, zL_ltT, zL_ltF, zL_leT, zL_leF, zL_eqT, zL_eqF, nleT, nleF, or_self, or_false, false_or, true_or, or_true, not_true_eq_false, not_false_eq_true, ↓reduceIte, Option.bind_some, Bool.false_eq_true, decide_true, decide_false]
    have d4 : (zI (sg (T (a + t))) = zI (chW i t)) = (T (a + t) = chW i t) := by
      rw [zI_eq (by omega) (by omega) (by omega) (by omega)]
      exact propext (by omega)
    rw [l_X3_wordIs_20, len_v N hi, Option.bind_some, ifF d1, t1, h4, za, ifF d2, zI_tnN (by omega), ifF d3, chr_v N hi (by omega), Option.bind_some, z3, zI_suc]
    by_cases g : T (a + t) = chW i t
    · rw [ifP d4 g]
      refine ih (t + 1) n (by omega) (by omega) (fun q hq' => ?_)
      by_cases e : q = t
      · rw [e]; exact g
      · exact hq q (by omega)
    · rw [ifN d4 g, decide_eq_false (fun z => g (z t (by omega)))]
theorem X3_wordIs_v {N : Nat} (hN : 700 ≤ N) {T : Nat → Int} {L i a : Nat} (hi : i < 9) {u : Ob} (hT : CT T L u) (aL : a ≤ L) (h4 : u.1 4 = zI a) (h3 : u.1 3 = zI (sk ltr T L a)) : f_X3_wordIs N i u = some (wB T L i a, u) := by
  have r := sk_rng ltr T aL
  have t2 := hT.2.1
  have hl := ln_fin ⟨i, hi⟩
  have hl1 : 1 ≤ lnW i := hl.1
  have hl2 : lnW i ≤ 9 := hl.2.1
  have e : (zI (sk ltr T L a : Int) - zI (a : Int) = zI (lnW i : Int)) = (sk ltr T L a - a = lnW i) := by
    rw [zI_sub, zI_eq (by omega) (by omega) (by omega) (by omega)]
    exact propext (by omega)
  rw [f_X3_wordIs, len_v N hi, Option.bind_some, h3, h4]
  unfold wB
  by_cases g : sk ltr T L a - a = lnW i
  · rw [ifP e g]
    refine Eq.trans (X3_wi_l N hi hT h4 (by omega) (lnW i) 0 N (by omega) (by omega) (fun q hq => by omega)) ?_
    congr 2
    exact decide_eq_decide.mpr ⟨fun z => ⟨g, z⟩, fun z => z.2⟩
  · rw [ifN e g, decide_eq_false (fun z => g z.1)]
theorem X6_iw_l (N : Nat) {T : Nat → Int} {L i a : Nat} (hi : i < 9) {m : Ob} (hT : MT T L m) (h4 : m.1 12 = zI a) (ha : a + lnW i ≤ L) : ∀ (j t n : Nat), t + j = lnW i → j < n → (∀ q, q < t → T (a + q) = chW i q) → l_X6_isWord_34 N i n (zI t) m = some (decide (∀ q, q < lnW i → T (a + q) = chW i q), m) := by
  obtain ⟨t1, t2, t3⟩ := hT
  have hl2 : lnW i ≤ 9 := (ln_fin ⟨i, hi⟩).2.1
  intro j
  induction j with
  | zero =>
    intro t n ht hn hq
    obtain ⟨n, rfl⟩ : ∃ k, n = k + 1 := ⟨n - 1, by omega⟩
    rw [l_X6_isWord_34, len_v N hi, Option.bind_some, if_pos (show zI (lnW i : Int) ≤ zI (t : Int) by rw [zI_le (by omega) (by omega) (by omega) (by omega)]; omega), decide_eq_true (fun q hq' => hq q (by omega))]
  | succ j ih =>
    intro t n ht hn hq
    obtain ⟨n, rfl⟩ : ∃ k, n = k + 1 := ⟨n - 1, by omega⟩
    obtain ⟨z1, z2, z3⟩ := t3 (a + t) (by omega)
    have hc := (ch_fin ⟨i, hi⟩ ⟨t, by omega⟩ (show t < lnW i by omega)).2
    have hc : 97 ≤ chW i t ∧ chW i t ≤ 122 := hc
    have za : zI (a : Int) + zI (t : Int) = zI ((a + t : Nat) : Int) := by rw [zI_add]; rfl
    have d1 : (zI (lnW i : Int) ≤ zI (t : Int)) = False := by simp (maxSteps := 400000) (disch := omega) only [zI_lit, zI_neg, zI_add, zI_sub, zI_mul, zI_div, zI_tn, zI_toL, zL_lit, zL_neg, zL_add, zL_sub, zL_mul, zL_div, zL_toI, zI_ltT, zI_ltF, zI_leT, zI_leF, zI_eqT, zI_eqF, zL_ltT, zL_ltF, zL_leT, zL_leF, zL_eqT, zL_eqF, nleT, nleF, or_self, or_false, false_or, true_or, or_true, not_true_eq_false, not_false_eq_true, ↓reduceIte, Option.bind_some, Bool.false_eq_true, decide_true, decide_false]
    have d3 : (zI ((a + t : Nat) : Int) < 0 ∨ 600 ≤ a + t) = False := by simp (maxSteps := 400000) (disch := omega) only [zI_lit, zI_neg, zI_add, zI_sub, zI_mul, zI_div, zI_tn, zI_toL, zL_lit, zL_neg, zL_add, zL_sub, zL_mul, zL_div, zL_toI, zI_ltT, zI_ltF, zI_leT, zI_leF, zI_eqT, zI_eqF, zL_ltT, zL_ltF, zL_leT, zL_leF, zL_eqT, zL_eqF, nleT, nleF, or_self, or_false, false_or, true_or, or_true, not_true_eq_false, not_false_eq_true, ↓reduceIte, Option.bind_some, Bool.false_eq_true, decide_true, decide_false]
    have d4 : (zI (T (a + t)) = zI (chW i t)) = (T (a + t) = chW i t) := zI_eq (by omega) (by omega) (by omega) (by omega)
    rw [l_X6_isWord_34, len_v N hi, Option.bind_some, ifF d1, h4, za, zI_tnN (by omega), ifF d3, chr_v N hi (by omega), Option.bind_some, z3, zI_suc]
    by_cases g : T (a + t) = chW i t
    · rw [ifP d4 g]
      refine ih (t + 1) n (by omega) (by omega) (fun q hq' => ?_)
      by_cases e : q = t
      · rw [e]; exact g
      · exact hq q (by omega)
    · rw [ifN d4 g, decide_eq_false (fun z => g (z t (by omega)))]
theorem tk_word {T : Nat → Int} {L i a : Nat} (hi : i < 9) (aL : a ≤ L) (h : wB T L i a = true) : tkK T L a = 0 ∧ tkE T L a = sk ltr T L a ∧ a < sk ltr T L a ∧ a < L := by
  have hw := of_decide_eq_true h
  have hl1 : 1 ≤ lnW i := (ln_fin ⟨i, hi⟩).1
  have r := sk_rng ltr T aL
  have aL2 : a < L := by omega
  have hlt : ltr (T a) = true := by
    cases g : ltr (T a)
    · have := sk_stop (L := L) (Or.inr g)
      omega
    · rfl
  unfold tkK tkE
  have nL : ¬ L ≤ a := by omega
  rw [if_neg nL, if_neg nL, if_pos hlt, if_pos hlt]
  exact ⟨rfl, rfl, by omega, aL2⟩
theorem X6_isWord_v {N : Nat} (hN : 700 ≤ N) {T : Nat → Int} {L i a : Nat} (hi : i < 9) {m : Ob} (hT : MT T L m) (aL : a ≤ L) (hk : TOK T L m a) (h15 : m.1 15 = 0) : f_X6_isWord N i m = some (wB T L i a, m) := by
  obtain ⟨k1, k2, k3, k4⟩ := hk
  have r := sk_rng ltr T aL
  have t2 := hT.2.1
  have hl := ln_fin ⟨i, hi⟩
  have hl1 : 1 ≤ lnW i := hl.1
  have hl2 : lnW i ≤ 9 := hl.2.1
  rw [f_X6_isWord, if_pos h15, k3, k2, k1]
  by_cases g0 : tkK T L a = 0
  · have aL2 : a < L := by
      unfold tkK at g0
      by_cases g : L ≤ a
      · rw [if_pos g] at g0; omega
      · omega
    have hlt : ltr (T a) = true := by
      unfold tkK at g0
      rw [if_neg (by omega)] at g0
      cases g : ltr (T a)
      · rw [g, ifb0] at g0
        split at g0 <;> omega
      · rfl
    have hE : tkE T L a = sk ltr T L a := by
      unfold tkE
      rw [if_neg (by omega), if_pos hlt]
    rw [if_pos (show zI (tkK T L a) = 0 by rw [g0]; rfl), len_v N hi, Option.bind_some, hE]
    have e : (zI (sk ltr T L a : Int) - zI (a : Int) = zI (lnW i : Int)) = (sk ltr T L a - a = lnW i) := by
      rw [zI_sub, zI_eq (by omega) (by omega) (by omega) (by omega)]
      exact propext (by omega)
    unfold wB
    by_cases g : sk ltr T L a - a = lnW i
    · rw [ifP e g]
      refine Eq.trans (X6_iw_l N hi hT k1 (by omega) (lnW i) 0 N (by omega) (by omega) (fun q hq => by omega)) ?_
      congr 2
      exact decide_eq_decide.mpr ⟨fun z => ⟨g, z⟩, fun z => z.2⟩
    · rw [ifN e g, decide_eq_false (fun z => g z.1)]
  · have hz : ¬ (zI (tkK T L a) = 0) := by
      have : tkK T L a = 0 ∨ tkK T L a = 1 ∨ tkK T L a = 2 ∨ tkK T L a = 3 := by
        unfold tkK
        grind
      rw [zI_lit, zI_eq (by omega) (by omega) (by omega) (by omega)]
      exact g0
    rw [if_neg hz]
    cases g : wB T L i a
    · rfl
    · exact absurd (tk_word hi aL g).1 g0
theorem X6_isWord_w (N : Nat) (i : Nat) {m : Ob} (h : ¬ (m.1 15 = 0)) : f_X6_isWord N i m = some (false, m) := by
  rw [f_X6_isWord, if_neg h]
