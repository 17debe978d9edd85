/-! undo, save, restore, written text -/
theorem st_undo {N : Nat} (hN : 700 ≤ N) : S_undo Rel N := by
  intro u0 u1 u2 u3 mo h
  obtain ⟨r1, r2, ⟨e, c, e8, c8, h4, h5, h6, hu⟩, r4, r5, r6⟩ := id h
  have h4 : u0.1 4 = zI e := h4
  have h5 : u0.1 5 = zI c := h5
  have e5 := f_X5_undo.eq_1 N u0 u1 u2 u3
  have e6 := f_X6_undo.eq_1 N mo
  have c0 : (zI (c : Int) = 0) = (c = 0) := by
    rw [zI_lit, zI_eq (by omega) (by omega) (by omega) (by omega)]
    exact propext (by omega)
  have ze : zI (e : Int) + 8 - 1 - (zI (e : Int) + 8 - 1) / 8 * 8 = zI (((e + 7) % 8 : Nat) : Int) := by
    simp (maxSteps := 400000) (disch := omega) only [zI_lit, zI_neg, zI_add, zI_sub, zI_mul, zI_div, zI_tn, zI_toL, zL_lit, zL_neg, zL_add, zL_sub, zL_mul, zL_div, zL_toI, zI_lt, zI_le, zI_eq, zL_lt, zL_le, zL_eq]
    congr 1
    omega
  have ce : (zI (((e + 7) % 8 : Nat) : Int) < 0 ∨ 8 ≤ (zI (((e + 7) % 8 : Nat) : Int)).toNatClampNeg) = False := by
    rw [zI_tnN (by omega)]
    simp (maxSteps := 400000) (disch := omega) only [zI_lit, zI_neg, zI_add, zI_sub, zI_mul, zI_div, zI_tn, zI_toL, zL_lit, zL_neg, zL_add, zL_sub, zL_mul, zL_div, zL_toI, zI_ltT, zI_ltF, zI_leT, zI_leF, zI_eqT, zI_eqF, zL_ltT, zL_ltF, zL_leT, zL_leF, zL_eqT, zL_eqF, nleT, nleF, or_self, or_false, false_or, true_or, or_true, not_true_eq_false, not_false_eq_true, ↓reduceIte, Option.bind_some, Bool.false_eq_true, decide_true, decide_false]
  rw [h5, h4, ze] at e5
  rw [h6] at e6
  by_cases g : c = 0
  · rw [ifP c0 g] at e5 e6
    exact S_e h e5 e6 (okX1 0 0 0)
  · obtain ⟨c', rfl⟩ : ∃ c', c = c' + 1 := ⟨c - 1, by omega⟩
    have z1 : zI ((c' + 1 : Nat) : Int) - 1 = zI (c' : Int) := by
      rw [zI_lit, zI_sub]
      congr 1
      omega
    have z2 : (48 : Int32) * zI (c' : Int) = zI ((48 * c' : Nat) : Int) := by rw [zI_lit, zI_mul]; rfl
    obtain ⟨v, v1, v2⟩ := X4_copyFrom_v N (u2 0) (u2 (3 + (e + 7) % 8))
    rw [ifN c0 g, ifF ce, zI_tnN (by omega), v1, z1] at e5
    rw [ifN c0 g, z1, z2] at e6
    obtain ⟨b, b1, b2⟩ := becomes3_l N (o := 48 * c') (by omega) 48 0 N (oi (oi mo 7 0) 6 (zI c')) (by omega) (by omega)
    have b1 : f_X6_becomes_3 N (zI ((48 * c' : Nat) : Int)) (oi (oi mo 7 0) 6 (zI c')) = some (oj (oi (oi mo 7 0) 6 (zI c')) 0 b) := b1
    rw [b1] at e6
    have huc := hu c' (by omega)
    rw [show 3 + (e + 8 - (c' + 1) + c') % 8 = 3 + (e + 7) % 8 by omega] at huc
    have w : ∀ j, j ≠ 0 → (va_up (va_up u2 0 v) (3 + (e + 7) % 8) (u2 (3 + (e + 7) % 8))) j = u2 j := by
      intro j hj
      by_cases gj : j = 3 + (e + 7) % 8
      · rw [gj, va_up_self]
      · rw [va_up_ne _ _ gj, va_up_ne _ _ hj]
    have w0 : (va_up (va_up u2 0 v) (3 + (e + 7) % 8) (u2 (3 + (e + 7) % 8))) 0 = v := by
      rw [va_up_ne _ _ (by omega), va_up_self]
    refine ⟨_, _, _, e5, e6, ⟨?_, ?_⟩, ?_⟩
    · show va_up (va_up mo.1 7 0) 6 (zI c') 7 = 0
      rw [va_up_ne _ _ (by decide), va_up_self]
    · exact (oi_s (oi mo 7 0) 6 (zI c')).symm
    · refine ⟨?_, ?_, ⟨(e + 7) % 8, c', by omega, by omega, ?_, ?_, oi_s (oi mo 7 0) 6 (zI c'), fun i hi => ?_⟩, RV_up r4 rfl (fun i hi => w _ (by omega)) rfl rfl, RB_up r5 rfl rfl rfl ?_ ?_ rfl, RW_up r6 ?_ rfl ?_ rfl⟩
      · show RR ((va_up (va_up u2 0 v) (3 + (e + 7) % 8) (u2 (3 + (e + 7) % 8))) 0) ((oj (oi (oi mo 7 0) 6 (zI c')) 0 b).2.2.2 0)
        rw [w0, oj_s]
        refine RR_cp v2 (fun k hk => ?_) huc
        rw [b2 k, if_pos (by omega)]
        rfl
      · show RR ((va_up (va_up u2 0 v) (3 + (e + 7) % 8) (u2 (3 + (e + 7) % 8))) 1) a00
        rw [w 1 (by decide)]
        exact r2
      · exact oi_s (oi u0 5 (zI c')) 4 (zI (((e + 7) % 8 : Nat) : Int))
      · exact (oi_n (oi u0 5 (zI c')) (zI (((e + 7) % 8 : Nat) : Int)) (show 5 ≠ 4 by decide)).trans (oi_s u0 5 (zI c'))
      · show RR ((va_up (va_up u2 0 v) (3 + (e + 7) % 8) (u2 (3 + (e + 7) % 8))) _) (fun k => (oj (oi (oi mo 7 0) 6 (zI c')) 0 b).2.2.2 3 (48 * i + k))
        rw [w _ (by omega), oj_n _ _ (by decide), show 3 + ((e + 7) % 8 + 8 - c' + i) % 8 = 3 + (e + 8 - (c' + 1) + i) % 8 by omega]
        exact hu i (by omega)
      · exact (oi_n (oi mo 7 0) (zI c') (show 10 ≠ 6 by decide)).trans (oi_n mo 0 (by decide))
      · exact (oi_n (oi mo 7 0) (zI c') (show 17 ≠ 6 by decide)).trans (oi_n mo 0 (by decide))
      · exact (oi_n (oi u0 5 (zI c')) (zI (((e + 7) % 8 : Nat) : Int)) (show 10 ≠ 4 by decide)).trans (oi_n u0 (zI c') (by decide))
      · exact (oi_n (oi mo 7 0) (zI c') (show 21 ≠ 6 by decide)).trans (oi_n mo 0 (by decide))
theorem save37_l (N : Nat) {x : Nat} (hx : x < 2) : ∀ (j s n : Nat) (u : Ob), s + j = 48 → j < n → ∃ b, l_X6_save_37 N (zI x) n (zI s) u = some ((u.2.2.2 0 12).toInt32, oj u 4 b) ∧ ∀ k, b k = if 48 * x + s ≤ k ∧ k < 48 * x + 48 then u.2.2.2 0 (k - 48 * x) else u.2.2.2 4 k := by
  intro j
  induction j with
  | zero =>
    intro s n u hs hn
    obtain ⟨n, rfl⟩ : ∃ k, n = k + 1 := ⟨n - 1, by omega⟩
    refine ⟨u.2.2.2 4, ?_, fun k => by rw [if_neg (by omega)]⟩
    rw [oj_id, l_X6_save_37, if_pos (show (48 : Int32) ≤ zI (s : Int) by rw [zI_lit, zI_le (by omega) (by omega) (by omega) (by omega)]; omega)]
    rfl
  | succ j ih =>
    intro s n u hs hn
    obtain ⟨n, rfl⟩ : ∃ k, n = k + 1 := ⟨n - 1, by omega⟩
    have c48 : ((48 : Int32) ≤ zI (s : Int)) = False := by simp (maxSteps := 400000) (disch := omega) only [zI_lit, zI_neg, zI_add, zI_sub, zI_mul, zI_div, zI_tn, zI_toL, zL_lit, zL_neg, zL_add, zL_sub, zL_mul, zL_div, zL_toI, zI_ltT, zI_ltF, zI_leT, zI_leF, zI_eqT, zI_eqF, zL_ltT, zL_ltF, zL_leT, zL_leF, zL_eqT, zL_eqF, nleT, nleF, or_self, or_false, false_or, true_or, or_true, not_true_eq_false, not_false_eq_true, ↓reduceIte, Option.bind_some, Bool.false_eq_true, decide_true, decide_false]
    have z0 : (48 : Int32) * zI (x : Int) + zI (s : Int) = zI ((48 * x + s : Nat) : Int) := by rw [zI_lit, zI_mul, zI_add]; rfl
    have c1 : (zI (s : Int) < 0 ∨ 48 ≤ (zI (s : Int)).toNatClampNeg) = False := by
      rw [zI_tnN (by omega)]
      simp (maxSteps := 400000) (disch := omega) only [zI_lit, zI_neg, zI_add, zI_sub, zI_mul, zI_div, zI_tn, zI_toL, zL_lit, zL_neg, zL_add, zL_sub, zL_mul, zL_div, zL_toI, zI_ltT, zI_ltF, zI_leT, zI_leF, zI_eqT, zI_eqF, zL_ltT, zL_ltF, zL_leT, zL_leF, zL_eqT, zL_eqF, nleT, nleF, or_self, or_false, false_or, true_or, or_true, not_true_eq_false, not_false_eq_true, ↓reduceIte, Option.bind_some, Bool.false_eq_true, decide_true, decide_false]
    have c2 : (zI ((48 * x + s : Nat) : Int) < 0 ∨ 96 ≤ (zI ((48 * x + s : Nat) : Int)).toNatClampNeg) = False := by
      rw [zI_tnN (by omega)]
      simp (maxSteps := 400000) (disch := omega) only [zI_lit, zI_neg, zI_add, zI_sub, zI_mul, zI_div, zI_tn, zI_toL, zL_lit, zL_neg, zL_add, zL_sub, zL_mul, zL_div, zL_toI, zI_ltT, zI_ltF, zI_leT, zI_leF, zI_eqT, zI_eqF, zL_ltT, zL_ltF, zL_leT, zL_leF, zL_eqT, zL_eqF, nleT, nleF, or_self, or_false, false_or, true_or, or_true, not_true_eq_false, not_false_eq_true, ↓reduceIte, Option.bind_some, Bool.false_eq_true, decide_true, decide_false]
    obtain ⟨b, b1, b2⟩ := ih (s + 1) n (oj u 4 (vp_updL (u.2.2.2 4) (48 * x + s) (u.2.2.2 0 s))) (by omega) (by omega)
    refine ⟨b, ?_, fun k => ?_⟩
    · rw [l_X6_save_37, ifF c48, z0, ifF c1, ifF c2, zI_tnN (by omega), zI_tnN (by omega), zI_suc, b1, oj_oj, oj_n _ _ (by decide)]
    · rw [b2 k, oj_s, oj_n _ _ (by decide)]
      by_cases e : k = 48 * x + s
      · rw [if_neg (by omega), if_pos (by omega), e, vp_s, show 48 * x + s - 48 * x = s by omega]
      · rw [vp_n _ _ e]
        by_cases g : 48 * x + s ≤ k ∧ k < 48 * x + 48
        · rw [if_pos g, if_pos (by omega)]
        · rw [if_neg g, if_neg (by omega)]
theorem st_save {N : Nat} (hN : 700 ≤ N) : S_save Rel N := by
  intro u0 u1 u2 u3 mo h x
  obtain ⟨x, x1, x2, rfl⟩ := zI_get x
  obtain ⟨r1, r2, r3, r4, r5, r6⟩ := id h
  have e5 := f_X5_save.eq_1 N (zI x) u0 u1 u2 u3
  have e6 := f_X6_save.eq_1 N (zI x) mo
  rw [zI_toL x1 x2, show (0 : Int64) = zL 0 from rfl, show (1 : Int64) = zL 1 from rfl] at e6
  have c1 : (zI x < 0) = (x < 0) := by rw [zI_lit, zI_lt (by omega) (by omega) (by omega) (by omega)]
  have c2 : (zI x < 2) = (x < 2) := by rw [zI_lit, zI_lt (by omega) (by omega) (by omega) (by omega)]
  by_cases g : 0 ≤ x ∧ x ≤ 1
  · obtain ⟨k, rfl⟩ : ∃ k : Nat, x = k := ⟨x.toNat, by omega⟩
    have d1 : (zI (k : Int) < 0 ∨ 2 ≤ (zI (k : Int)).toNatClampNeg) = False := by
      rw [zI_tnN (by omega)]
      simp (maxSteps := 400000) (disch := omega) only [zI_lit, zI_neg, zI_add, zI_sub, zI_mul, zI_div, zI_tn, zI_toL, zL_lit, zL_neg, zL_add, zL_sub, zL_mul, zL_div, zL_toI, zI_ltT, zI_ltF, zI_leT, zI_leF, zI_eqT, zI_eqF, zL_ltT, zL_ltF, zL_leT, zL_leF, zL_eqT, zL_eqF, nleT, nleF, or_self, or_false, false_or, true_or, or_true, not_true_eq_false, not_false_eq_true, ↓reduceIte, Option.bind_some, Bool.false_eq_true, decide_true, decide_false]
    have d2 : (zI (k : Int) < 0 ∨ 2 ≤ k) = False := by
      simp (maxSteps := 400000) (disch := omega) only [zI_lit, zI_neg, zI_add, zI_sub, zI_mul, zI_div, zI_tn, zI_toL, zL_lit, zL_neg, zL_add, zL_sub, zL_mul, zL_div, zL_toI, zI_ltT, zI_ltF, zI_leT, zI_leF, zI_eqT, zI_eqF, zL_ltT, zL_ltF, zL_leT, zL_leF, zL_eqT, zL_eqF, nleT, nleF, or_self, or_false, false_or, true_or, or_true, not_true_eq_false, not_false_eq_true, ↓reduceIte, Option.bind_some, Bool.false_eq_true, decide_true, decide_false]
    obtain ⟨v, v1, v2⟩ := X4_copyFrom_v N (u2 (11 + k)) (u2 0)
    rw [ifN c1 (by omega), ifP c2 (by omega), ifF d1, zI_tnN (by omega), v1, Option.bind_some, ifF d2] at e5
    rw [isIn_T N (by omega) (by omega) (by omega) g, Option.bind_some, if_pos rfl, ifF d1, zI_tnN (by omega)] at e6
    obtain ⟨b, b1, b2⟩ := save37_l N (x := k) (by omega) 48 0 N (oa (oi mo 7 0) 5 (upd (mo.2.2.1 5) k 1)) (by omega) (by omega)
    have e6 : f_X6_save N (zI (k : Int)) mo = some ((mo.2.2.2 0 12).toInt32, oj (oa (oi mo 7 0) 5 (upd (mo.2.2.1 5) k 1)) 4 b) := by
      rw [e6]
      exact b1
    obtain ⟨F, q, m, hV, hF, _, _⟩ := RR_va h.1
    have hF1 : (u2 0).1 11 = zI F := hF.1
    have hr : (mo.2.2.2 0 12).toInt32 = zI F := by rw [hV.1, zL_toI]
    rw [hr] at e6
    have e5 : f_X5_save N (zI (k : Int)) u0 u1 u2 u3 = some (.inr (zI F), oa u0 7 (upd (u0.2.2.1 7) k 1), u1, va_up (va_up u2 (11 + k) v) 0 (u2 0), u3) := by
      rw [e5, ← hF1]
      rfl
    have w : ∀ j, j ≠ 11 + k → (va_up (va_up u2 (11 + k) v) 0 (u2 0)) j = u2 j := by
      intro j hj
      by_cases gj : j = 0
      · rw [gj, va_up_self]
      · rw [va_up_ne _ _ gj, va_up_ne _ _ hj]
    have wk : (va_up (va_up u2 (11 + k) v) 0 (u2 0)) (11 + k) = v := by
      rw [va_up_ne _ _ (by omega), va_up_self]
    refine ⟨_, _, _, e5, e6, ⟨oi_s mo 7 0, rfl⟩, ?_, ?_, RU_up r3 rfl rfl (fun i hi => w _ (by omega)) (oi_n mo 0 (show 6 ≠ 7 by decide)) (oj_n (oa (oi mo 7 0) 5 (upd (mo.2.2.1 5) k 1)) b (show 3 ≠ 4 by decide)), fun j hj => ?_, RB_up r5 rfl rfl rfl (oi_n mo 0 (show 10 ≠ 7 by decide)) (oi_n mo 0 (show 17 ≠ 7 by decide)) (oa_n (oi mo 7 0) (upd (mo.2.2.1 5) k 1) (show 9 ≠ 5 by decide)), RW_up r6 rfl (oa_n u0 (upd (u0.2.2.1 7) k 1) (show 9 ≠ 7 by decide)) (oi_n mo 0 (show 21 ≠ 7 by decide)) (oa_n (oi mo 7 0) (upd (mo.2.2.1 5) k 1) (show 20 ≠ 5 by decide))⟩
    · show RR ((va_up (va_up u2 (11 + k) v) 0 (u2 0)) 0) ((oj (oa (oi mo 7 0) 5 (upd (mo.2.2.1 5) k 1)) 4 b).2.2.2 0)
      rw [w 0 (by omega), oj_n _ _ (by decide)]
      exact r1
    · show RR ((va_up (va_up u2 (11 + k) v) 0 (u2 0)) 1) a00
      rw [w 1 (by omega)]
      exact r2
    · by_cases gj : j = k
      · refine ⟨1, by omega, ?_, ?_, fun _ => ?_⟩
        · show (oa u0 7 (upd (u0.2.2.1 7) k 1)).2.2.1 7 j = _
          rw [oa_s, gj]
          unfold upd
          rw [if_pos rfl]
          rfl
        · show (oa (oi mo 7 0) 5 (upd (mo.2.2.1 5) k 1)).2.2.1 5 j = _
          rw [oa_s, gj]
          unfold upd
          rw [if_pos rfl]
          rfl
        · show RR ((va_up (va_up u2 (11 + k) v) 0 (u2 0)) (11 + j)) (fun i => (oj (oa (oi mo 7 0) 5 (upd (mo.2.2.1 5) k 1)) 4 b).2.2.2 4 (48 * j + i))
          rw [gj, wk, oj_s]
          refine RR_cp v2 (fun i hi => ?_) r1
          rw [b2, if_pos (by omega), show 48 * k + i - 48 * k = i by omega]
          rfl
      · obtain ⟨f, f1, f2, f3, f4⟩ := r4 j hj
        refine ⟨f, f1, ?_, ?_, fun hf => ?_⟩
        · show (oa u0 7 (upd (u0.2.2.1 7) k 1)).2.2.1 7 j = _
          rw [oa_s]
          unfold upd
          rw [if_neg gj]
          exact f2
        · show (oa (oi mo 7 0) 5 (upd (mo.2.2.1 5) k 1)).2.2.1 5 j = _
          rw [oa_s]
          unfold upd
          rw [if_neg gj]
          exact f3
        · show RR ((va_up (va_up u2 (11 + k) v) 0 (u2 0)) (11 + j)) (fun i => (oj (oa (oi mo 7 0) 5 (upd (mo.2.2.1 5) k 1)) 4 b).2.2.2 4 (48 * j + i))
          rw [w _ (by omega), oj_s]
          refine RR_row (fun i hi => ?_) (f4 hf)
          rw [b2, if_neg (by omega)]
          rfl
  · rw [isIn_F N (by omega) (by omega) (by omega) g, Option.bind_some, if_neg (by decide)] at e6
    by_cases g1 : x < 0
    · rw [ifP c1 g1] at e5
      exact S_e h e5 e6 (okX1 2 2 0)
    · rw [ifN c1 g1, ifN c2 (by omega)] at e5
      exact S_e h e5 e6 (okX1 2 2 0)
theorem st_restore {N : Nat} (hN : 700 ≤ N) : S_restore Rel N := by
  intro u0 u1 u2 u3 mo h x
  obtain ⟨x, x1, x2, rfl⟩ := zI_get x
  obtain ⟨r1, r2, r3, r4, r5, r6⟩ := id h
  have e5 := f_X5_restore.eq_1 N (zI x) u0 u1 u2 u3
  have e6 := f_X6_restore.eq_1 N (zI x) mo
  rw [zI_toL x1 x2, show (0 : Int64) = zL 0 from rfl, show (1 : Int64) = zL 1 from rfl] at e6
  have c1 : (zI x < 0) = (x < 0) := by rw [zI_lit, zI_lt (by omega) (by omega) (by omega) (by omega)]
  have c2 : (zI x < 2) = (x < 2) := by rw [zI_lit, zI_lt (by omega) (by omega) (by omega) (by omega)]
  by_cases g : 0 ≤ x ∧ x ≤ 1
  · obtain ⟨k, rfl⟩ : ∃ k : Nat, x = k := ⟨x.toNat, by omega⟩
    have d1 : (zI (k : Int) < 0 ∨ 2 ≤ (zI (k : Int)).toNatClampNeg) = False := by
      rw [zI_tnN (by omega)]
      simp (maxSteps := 400000) (disch := omega) only [zI_lit, zI_neg, zI_add, zI_sub, zI_mul, zI_div, zI_tn, zI_toL, zL_lit, zL_neg, zL_add, zL_sub, zL_mul, zL_div, zL_toI, zI_ltT, zI_ltF, zI_leT, zI_leF, zI_eqT, zI_eqF, zL_ltT, zL_ltF, zL_leT, zL_leF, zL_eqT, zL_eqF, nleT, nleF, or_self, or_false, false_or, true_or, or_true, not_true_eq_false, not_false_eq_true, ↓reduceIte, Option.bind_some, Bool.false_eq_true, decide_true, decide_false]
    have d2 : (zI (k : Int) < 0 ∨ 2 ≤ k) = False := by
      simp (maxSteps := 400000) (disch := omega) only [zI_lit, zI_neg, zI_add, zI_sub, zI_mul, zI_div, zI_tn, zI_toL, zL_lit, zL_neg, zL_add, zL_sub, zL_mul, zL_div, zL_toI, zI_ltT, zI_ltF, zI_leT, zI_leF, zI_eqT, zI_eqF, zL_ltT, zL_ltF, zL_leT, zL_leF, zL_eqT, zL_eqF, nleT, nleF, or_self, or_false, false_or, true_or, or_true, not_true_eq_false, not_false_eq_true, ↓reduceIte, Option.bind_some, Bool.false_eq_true, decide_true, decide_false]
    obtain ⟨f, f1, f2, f3, f4⟩ := r4 k (by omega)
    have f2 : u0.2.2.1 7 k = zI f := f2
    have cf : (zI (f : Int) = 0) = (f = 0) := by
      rw [zI_lit, zI_eq (by omega) (by omega) (by omega) (by omega)]
      exact propext (by omega)
    rw [ifN c1 (by omega), ifP c2 (by omega), ifF d1, zI_tnN (by omega), f2] at e5
    rw [isIn_T N (by omega) (by omega) (by omega) g, Option.bind_some, if_pos rfl, ifF d1, zI_tnN (by omega), f3] at e6
    by_cases gf : f = 0
    · rw [ifP cf gf] at e5 e6
      exact S_e h e5 e6 (okX2 (by decide) 0)
    · rw [ifN cf gf] at e5 e6
      obtain ⟨v0, v2, m, q1, q2, q3, q4, q5, q6, q7, q8, q9⟩ := remember_v hN (Rel_7 h 0)
      obtain ⟨v, w1, w2⟩ := X4_copyFrom_v N (v2 0) (v2 (11 + k))
      have z2 : (48 : Int32) * zI (k : Int) = zI ((48 * k : Nat) : Int) := by rw [zI_lit, zI_mul]; rfl
      obtain ⟨b, b1, b2⟩ := becomes4_l N (o := 48 * k) (by omega) 48 0 N m (by omega) (by omega)
      have b1 : f_X6_becomes_4 N (zI ((48 * k : Nat) : Int)) m = some (oj m 0 b) := b1
      have hR : RR v b := by
        refine RR_cp w2 (fun i hi => ?_) (?_ : RR (v2 (11 + k)) (fun i => mo.2.2.2 4 (48 * k + i)))
        · rw [b2, if_pos (by omega), q6 4 (by decide)]
          rfl
        · rw [q4 _ (by omega)]
          exact f4 (by omega)
      obtain ⟨F, q, mm, hV, hF, _, _⟩ := RR_va hR
      have hF1 : v.1 11 = zI F := hF.1
      have hw : va_up (va_up v2 0 v) (11 + k) (v2 (11 + k)) = va_up v2 0 v := by
        funext j
        by_cases gj : j = 11 + k
        · rw [gj, va_up_self, va_up_ne _ _ (by omega)]
        · rw [va_up_ne _ _ gj]
      rw [q1, Option.bind_some, ifF d2] at e5
      have e5 : f_X5_restore N (zI (k : Int)) u0 u1 u2 u3 = some (.inr (zI F), v0, u1, va_up v2 0 v, u3) := by
        rw [e5]
        show ((f_X4_copyFrom N (v2 0) (v2 (11 + k))).bind _) = _
        rw [w1, Option.bind_some]
        show some (Sum.inr ((va_up (va_up v2 0 v) (11 + k) (v2 (11 + k)) 0).1 11), v0, u1, va_up (va_up v2 0 v) (11 + k) (v2 (11 + k)), u3) = _
        rw [hw, va_up_self, hF1]
      rw [q2, Option.bind_some, z2, b1, Option.bind_some, show (12 : Int32).toNatClampNeg = 12 from rfl, oj_s, hV.1, zL_toI] at e6
      refine ⟨_, _, _, e5, e6, ⟨?_, rfl⟩, Rel_pr q3 (by rw [oj_s]; exact hR) (Sd_oj m b)⟩
      show m.1 7 = 0
      rw [q5 7 (by decide), oi_s]
  · rw [isIn_F N (by omega) (by omega) (by omega) g, Option.bind_some, if_neg (by decide)] at e6
    by_cases g1 : x < 0
    · rw [ifP c1 g1] at e5
      exact S_e h e5 e6 (okX1 2 0 0)
    · rw [ifN c1 g1, ifN c2 (by omega)] at e5
      exact S_e h e5 e6 (okX1 2 0 0)
theorem st_writtenByte (N : Nat) : S_writtenByte Rel N := by
  intro u0 u1 u2 u3 mo h x
  obtain ⟨x, x1, x2, rfl⟩ := zI_get x
  obtain ⟨n, n1, n2, n3, n4⟩ := h.2.2.2.2.2
  have n2 : u0.1 10 = zI n := n2
  have e5 := f_X5_writtenByte.eq_1 N (zI x) u0 u1 u2 u3
  have e6 := f_X6_writtenByte.eq_1 N (zI x) mo
  have z : zI (n : Int) - 1 = zI ((n : Int) - 1) := by rw [zI_lit, zI_sub]
  rw [n2] at e5
  rw [n3, z, zI_toL x1 x2, zI_toL (a := (n : Int) - 1) (by omega) (by omega), show (0 : Int64) = zL 0 from rfl] at e6
  have c1 : (zI x < 0) = (x < 0) := by rw [zI_lit, zI_lt (by omega) (by omega) (by omega) (by omega)]
  have c2 : (zI (n : Int) ≤ zI x) = ((n : Int) ≤ x) := zI_le (by omega) (by omega) (by omega) (by omega)
  have c3 : (zI x < 18) = (x < 18) := by rw [zI_lit, zI_lt (by omega) (by omega) (by omega) (by omega)]
  by_cases g : 0 ≤ x ∧ x ≤ (n : Int) - 1
  · obtain ⟨k, rfl⟩ : ∃ k : Nat, x = k := ⟨x.toNat, by omega⟩
    have d1 : (zI (k : Int) < 0 ∨ 18 ≤ (zI (k : Int)).toNatClampNeg) = False := by
      rw [zI_tnN (by omega)]
      simp (maxSteps := 400000) (disch := omega) only [zI_lit, zI_neg, zI_add, zI_sub, zI_mul, zI_div, zI_tn, zI_toL, zL_lit, zL_neg, zL_add, zL_sub, zL_mul, zL_div, zL_toI, zI_ltT, zI_ltF, zI_leT, zI_leF, zI_eqT, zI_eqF, zL_ltT, zL_ltF, zL_leT, zL_leF, zL_eqT, zL_eqF, nleT, nleF, or_self, or_false, false_or, true_or, or_true, not_true_eq_false, not_false_eq_true, ↓reduceIte, Option.bind_some, Bool.false_eq_true, decide_true, decide_false]
    have d2 : (zI (k : Int) < 0 ∨ 20 ≤ (zI (k : Int)).toNatClampNeg) = False := by
      rw [zI_tnN (by omega)]
      simp (maxSteps := 400000) (disch := omega) only [zI_lit, zI_neg, zI_add, zI_sub, zI_mul, zI_div, zI_tn, zI_toL, zL_lit, zL_neg, zL_add, zL_sub, zL_mul, zL_div, zL_toI, zI_ltT, zI_ltF, zI_leT, zI_leF, zI_eqT, zI_eqF, zL_ltT, zL_ltF, zL_leT, zL_leF, zL_eqT, zL_eqF, nleT, nleF, or_self, or_false, false_or, true_or, or_true, not_true_eq_false, not_false_eq_true, ↓reduceIte, Option.bind_some, Bool.false_eq_true, decide_true, decide_false]
    have n4 : u0.2.2.1 9 k = mo.2.2.1 20 k := n4 k (by omega)
    rw [ifN c1 (by omega), ifN c2 (by omega), ifP c3 (by omega), ifF d1, zI_tnN (by omega), n4] at e5
    rw [isIn_T N (by omega) (by omega) (by omega) g, Option.bind_some, if_pos rfl, ifF d2, zI_tnN (by omega)] at e6
    exact S_r h _ e5 e6
  · rw [isIn_F N (by omega) (by omega) (by omega) g, Option.bind_some, if_neg (by decide)] at e6
    by_cases g1 : x < 0
    · rw [ifP c1 g1] at e5
      exact S_e h e5 e6 (okX1 2 2 0)
    · rw [ifN c1 g1, ifP c2 (by omega)] at e5
      exact S_e h e5 e6 (okX1 2 2 0)
