/-! what a frame tells, by the reference -/
theorem fv_cong {x y : Int64} {s w m : Nat} (hs : s < 64) (hm : m = 2 ^ w - 1) (h : ∀ k, s ≤ k → k < s + w → lb x k = lb y k) : fv x (nI s) m = fv y (nI s) m := by
  have e : ∀ (z : Int64) (i : Nat), i < 32 → ((jushr z (nI s)).toInt32).toBitVec.getLsbD i = lb z (s + i) := by
    intro z i hi
    rw [Int64.toBitVec_toInt32, BitVec.getLsbD_signExtend, decide_eq_true hi, Bool.true_and, if_pos (by omega)]
    exact lb_jushr z hs i
  unfold fv
  congr 1
  apply Int32.toBitVec_inj.mp
  apply BitVec.eq_of_getLsbD_eq
  intro i hi
  rw [Int32.toBitVec_and, Int32.toBitVec_and, BitVec.getLsbD_and, BitVec.getLsbD_and, e x i hi, e y i hi]
  by_cases hw : i < w
  · rw [h (s + i) (by omega) (by omega)]
  · have e2 : (nI m).toBitVec.getLsbD i = false := by
      show (BitVec.ofNat 32 m).getLsbD i = false
      rw [BitVec.getLsbD_ofNat, hm, Nat.testBit_two_pow_sub_one, decide_eq_false hw, Bool.and_false]
    rw [e2, Bool.and_false, Bool.and_false]
theorem oddB_cong2 {x y : Int64} {a n : Nat} (h : ∀ k, a ≤ k → k < a + n → lb x k = lb y k) : oddB x a n = oddB y a n := by unfold oddB; rw [cb_cong n a h]
theorem fltB_cong {x y : Int64} (h : ∀ k, k ≠ 19 → lb x k = lb y k) : fltB x = fltB y := by
  have f : ∀ (s w m : Nat), s < 64 → 19 < s → m = 2 ^ w - 1 → fv x (nI s) m = fv y (nI s) m := fun s w m h1 h2 h3 => fv_cong h1 h3 fun k h4 h5 => h k (by omega)
  have n : ∀ (s s4 w m : Nat), s < 64 → 19 < s → s4 < 64 → 19 < s4 → m = 2 ^ w - 1 → nv x (nI s) (nI s4) m = nv y (nI s) (nI s4) m := by
    intro s s4 w m h1 h2 h3 h4 h5
    unfold nv
    rw [f s 4 15 h1 h2 (by decide), f s4 w m h3 h4 h5]
  have e1 : yV x = yV y := n 50 54 4 15 (by decide) (by decide) (by decide) (by decide) (by decide)
  have e2 : moV x = moV y := n 45 49 1 1 (by decide) (by decide) (by decide) (by decide) (by decide)
  have e3 : dV x = dV y := n 36 40 2 3 (by decide) (by decide) (by decide) (by decide) (by decide)
  have e4 : hV x = hV y := n 29 33 2 3 (by decide) (by decide) (by decide) (by decide) (by decide)
  have e5 : miV x = miV y := n 21 25 3 7 (by decide) (by decide) (by decide) (by decide) (by decide)
  have e6 : wV x = wV y := f 42 3 7 (by decide) (by decide) (by decide)
  have e7 : okV x ↔ okV y := by unfold okV; rw [e1, e2, e3]
  have e8 : daV x = daV y := by unfold daV; rw [e1, e2, e3]
  unfold fltB fltT
  rw [h 0 (by decide), h 20 (by decide), oddB_cong2 (a := 21) (n := 8) fun k h1 h2 => h k (by omega), oddB_cong2 (a := 29) (n := 7) fun k h1 h2 => h k (by omega), oddB_cong2 (a := 36) (n := 23) fun k h1 h2 => h k (by omega), e4, e5, e6, e8]
  by_cases k : okV x
  · have k2 := e7.mp k
    grind
  · have k2 : ¬ okV y := fun a => k (e7.mpr a)
    grind
theorem wS_1 (x g : Int64) : ∀ j i f, wS x g j i 1 f ≠ -1 → ∀ w, i ≤ w → w < i + j → fltB (mkS x g w) ≠ 0
  | 0, i, f, _ => fun w h1 h2 => by omega
  | j + 1, i, f, h => fun w h1 h2 => by
    rw [wS] at h
    by_cases e : fltB (mkS x g i) = 0
    · rw [if_pos e] at h
      exact absurd (wS_2 x g j (i + 1) 2 _ (by omega)) h
    · rw [if_neg e] at h
      by_cases q : i = w
      · rw [← q]; exact e
      · exact wS_1 x g j (i + 1) f h w (by omega) (by omega)
theorem wS_uniq (x g : Int64) : ∀ j i f, wS x g j i 0 f ≠ -1 → ∃ w, i ≤ w ∧ w < i + j ∧ fltB (mkS x g w) = 0 ∧ ∀ v, i ≤ v → v < i + j → fltB (mkS x g v) = 0 → v = w
  | 0, i, f, h => by rw [wS, if_neg (show ¬ (0 = 1) by decide)] at h; exact absurd rfl h
  | j + 1, i, f, h => by
    rw [wS] at h
    by_cases e : fltB (mkS x g i) = 0
    · rw [if_pos e] at h
      refine ⟨i, by omega, by omega, e, fun v h1 h2 h3 => ?_⟩
      by_cases q : v = i
      · exact q
      · exact absurd h3 (wS_1 x g j (i + 1) _ h v (by omega) (by omega))
    · rw [if_neg e] at h
      obtain ⟨w, w1, w2, w3, w4⟩ := wS_uniq x g j (i + 1) f h
      refine ⟨w, by omega, by omega, w3, fun v h1 h2 h3 => ?_⟩
      by_cases q : v = i
      · rw [q] at h3; exact absurd h3 e
      · exact w4 v (by omega) (by omega) h3
theorem cb_lt {g : Int64} {a b : Nat} (h : a < b) (hg : lb g a = true) : cb g 0 a < cb g 0 b := by
  obtain ⟨d, rfl⟩ : ∃ d, b = a + (d + 1) := ⟨b - a - 1, by omega⟩
  rw [cb_add g (d + 1) a 0, cb, Nat.zero_add, if_pos hg]
  omega
theorem minS_19 {x g : Int64} (h : lb g 19 = true) : minS x g = -1 := by
  by_cases n : minS x g = -1
  · exact n
  · exfalso
    obtain ⟨w, w1, w2, w3, w4⟩ := wS_uniq x g _ _ _ n
    have hp : cb g 0 19 < cb g 0 59 := cb_lt (by decide) h
    have q : fltB (mkS x g (w ^^^ 2 ^ cb g 0 19)) = fltB (mkS x g w) := by
      apply fltB_cong
      intro k hk
      by_cases k9 : k < 59
      · rw [lb_mkS x g _ k9, lb_mkS x g _ k9]
        cases hg : lb g k
        · rfl
        · have : cb g 0 k ≠ cb g 0 19 := by
            rcases Nat.lt_or_gt_of_ne hk with l | l
            · have := cb_lt l hg; omega
            · have := cb_lt l h; omega
          rw [Nat.testBit_xor, Nat.testBit_two_pow, decide_eq_false (fun e => this e.symm), Bool.xor_false]
      · rw [lb_mkS_hi x g _ (by omega), lb_mkS_hi x g _ (by omega)]
    have lt : w ^^^ 2 ^ cb g 0 19 < 2 ^ cb g 0 59 := Nat.xor_lt_two_pow (by omega) (Nat.pow_lt_pow_right (by decide) hp)
    have e := w4 (w ^^^ 2 ^ cb g 0 19) (Nat.zero_le _) (by omega) (q.trans w3)
    have t := congrArg (fun z => z.testBit (cb g 0 19)) e
    simp only [Nat.testBit_xor, Nat.testBit_two_pow, decide_true, Bool.xor_true] at t
    revert t
    cases w.testBit (cb g 0 19) <;> simp
theorem mkS_19 {x g : Int64} (w : Nat) (h : lb g 19 = false) : lb (mkS x g w) 19 = lb x 19 := by
  rw [lb_mkS x g w (by decide), h, Bool.false_and, Bool.or_false]
theorem X6_tells_l {N : Nat} (hN : 700 ≤ N) (x1 x6 : Int32) (x d : Int64) {G : Nat} (hG : G ≤ 3) (hg : cb (gM d) 0 59 ≤ 3) : ∀ (j i c : Nat) (f : Int) (n : Nat) (u : Ob), i + j = 2 ^ G → j < n → c + j ≤ 8 → (lb (gM d) 19 = false → lb (u.2.1 19) 19 = lb x 19) →
    ∃ v, l_X6_tells_95 N x1 n x d x6 (zI G) (zI c) (zI f) (zI i) u = some (zI (wS x (gM d) j i c f), v) ∧ Sc u v ∧ (lb (gM d) 19 = false → lb (v.2.1 19) 19 = lb x 19) := by
  have sh : (1 : Int32) <<< (zI G &&& 31) = zI ((2 ^ G : Nat) : Int) := sh_fin ⟨G, by omega⟩
  have p8 : 2 ^ G ≤ 8 := Nat.pow_le_pow_right (n := 2) (by decide) hG
  intro j
  induction j with
  | zero =>
    intro i c f n u hi hn hc h19
    obtain ⟨n, rfl⟩ : ∃ k, n = k + 1 := ⟨n - 1, by omega⟩
    refine ⟨u, ?_, Sc_rfl u, h19⟩
    rw [l_X6_tells_95, sh, if_pos (by rw [show i = 2 ^ G by omega]; exact Int32.le_refl _), wS]
    by_cases h1 : c = 1
    · rw [if_pos h1, h1, if_pos (show zI ((1 : Nat) : Int) = 1 from rfl)]
    · rw [if_neg h1]
      have e3 : (zI c = 1) = False := by
        simp (maxSteps := 400000) (disch := omega) only [zI_lit, zI_neg, zI_add, zI_sub, zI_mul, zI_div, zI_tn, zI_toL, zL_lit, zL_neg, zL_add, zL_sub, zL_mul, zL_div, zL_toI, zI_ltT, zI_ltF, zI_leT, zI_leF, zI_eqT, zI_eqF, zL_ltT, zL_ltF, zL_leT, zL_leF, zL_eqT, zL_eqF, nleT, nleF, or_self, or_false, false_or, true_or, or_true, not_true_eq_false, not_false_eq_true, ↓reduceIte, Option.bind_some, Bool.false_eq_true, decide_true, decide_false]
      rw [ifF e3]
      rfl
  | succ j ih =>
    intro i c f n u hi hn hc h19
    obtain ⟨n, rfl⟩ : ∃ k, n = k + 1 := ⟨n - 1, by omega⟩
    have e0 : (zI ((2 ^ G : Nat) : Int) ≤ zI i) = False := by
      rw [zI_le (by omega) (by omega) (by omega) (by omega)]; exact eq_false (by omega)
    obtain ⟨v, hv1, hv2, hv3, hv4⟩ := X6_faultOf_v hN (mkS x (gM d) i) 0 u
    have ef : fltS (mkS x (gM d) i) 0 = fltB (mkS x (gM d) i) := rfl
    have fr := fltB_rng (mkS x (gM d) i)
    rw [l_X6_tells_95, sh, ifF e0, X6_madeBy_v hN x d (by omega) hg, Option.bind_some, hv1, Option.bind_some, Option.bind_some, zI_suc, zI_suc, wS]
    rw [ef] at hv4 ⊢
    by_cases h0 : fltB (mkS x (gM d) i) = 0
    · rw [if_pos h0, h0, if_pos (show zI 0 = 0 from rfl), hv4 h0]
      obtain ⟨w, w1, w2, w3⟩ := ih (i + 1) (c + 1) (numV (mkS x (gM d) i)) n (ol v 19 (mkS x (gM d) i)) (by omega) (by omega) (by omega) (fun q => by
        rw [show (ol v 19 (mkS x (gM d) i)).2.1 19 = mkS x (gM d) i from ol_s v 19 _]
        exact mkS_19 i q)
      exact ⟨w, w1, Sc_trans hv2 (Sc_trans (Sc_19 v _) w2), w3⟩
    · rw [if_neg h0]
      have e3 : (zI (fltB (mkS x (gM d) i)) = 0) = False := by
        simp (maxSteps := 400000) (disch := omega) only [zI_lit, zI_neg, zI_add, zI_sub, zI_mul, zI_div, zI_tn, zI_toL, zL_lit, zL_neg, zL_add, zL_sub, zL_mul, zL_div, zL_toI, zI_ltT, zI_ltF, zI_leT, zI_leF, zI_eqT, zI_eqF, zL_ltT, zL_ltF, zL_leT, zL_leF, zL_eqT, zL_eqF, nleT, nleF, or_self, or_false, false_or, true_or, or_true, not_true_eq_false, not_false_eq_true, ↓reduceIte, Option.bind_some, Bool.false_eq_true, decide_true, decide_false]
      rw [ifF e3]
      obtain ⟨w, w1, w2, w3⟩ := ih (i + 1) c f n v (by omega) (by omega) (by omega) (by rw [hv3]; exact h19)
      exact ⟨w, w1, Sc_trans hv2 w2, w3⟩
def tellS (x d : Int64) (m : Int) : Int := if (cb (gM d) 0 59 : Int) ≤ m then minS x (gM d) else -1
theorem tellS_rng (x d : Int64) (m : Int) : -1 ≤ tellS x d m ∧ tellS x d m < 52596000 := by
  have := minS_rng x (gM d)
  unfold tellS
  split <;> omega
theorem X6_tells_v {N : Nat} (hN : 700 ≤ N) {k m : Int} (hk : 0 ≤ k) (hk2 : k < 8) (u : Ob) (hm : u.2.2.2 0 3 = zL m) (hm0 : 0 ≤ m) (hm3 : m ≤ 3) :
    ∃ v, f_X6_tells N (zI k) u = some (zI (tellS (u.2.2.2 0 (16 + 2 * k.toNat)) (u.2.2.2 0 (17 + 2 * k.toNat)) m), v) ∧ Sc u v ∧ (tellS (u.2.2.2 0 (16 + 2 * k.toNat)) (u.2.2.2 0 (17 + 2 * k.toNat)) m ≠ -1 → lb (v.2.1 19) 19 = lb (u.2.2.2 0 (16 + 2 * k.toNat)) 19) := by
  have t1 : ((16 : Int32) + 2 * zI k).toNatClampNeg = 16 + 2 * k.toNat := by
    simp (maxSteps := 400000) (disch := omega) only [zI_lit, zI_neg, zI_add, zI_sub, zI_mul, zI_div, zI_tn, zI_toL, zL_lit, zL_neg, zL_add, zL_sub, zL_mul, zL_div, zL_toI, zI_lt, zI_le, zI_eq, zL_lt, zL_le, zL_eq]
    omega
  have t2 : ((16 : Int32) + 2 * zI k + 1).toNatClampNeg = 17 + 2 * k.toNat := by
    simp (maxSteps := 400000) (disch := omega) only [zI_lit, zI_neg, zI_add, zI_sub, zI_mul, zI_div, zI_tn, zI_toL, zL_lit, zL_neg, zL_add, zL_sub, zL_mul, zL_div, zL_toI, zI_lt, zI_le, zI_eq, zL_lt, zL_le, zL_eq]
    omega
  have c1 : ((16 : Int32) + 2 * zI k < 0 ∨ 48 ≤ ((16 : Int32) + 2 * zI k).toNatClampNeg) = False := by
    rw [t1]
    simp (maxSteps := 400000) (disch := omega) only [zI_lit, zI_neg, zI_add, zI_sub, zI_mul, zI_div, zI_tn, zI_toL, zL_lit, zL_neg, zL_add, zL_sub, zL_mul, zL_div, zL_toI, zI_lt, zI_le, zI_eq, zL_lt, zL_le, zL_eq]
    exact eq_false (by omega)
  have c2 : ((16 : Int32) + 2 * zI k + 1 < 0 ∨ 48 ≤ ((16 : Int32) + 2 * zI k + 1).toNatClampNeg) = False := by
    rw [t2]
    simp (maxSteps := 400000) (disch := omega) only [zI_lit, zI_neg, zI_add, zI_sub, zI_mul, zI_div, zI_tn, zI_toL, zL_lit, zL_neg, zL_add, zL_sub, zL_mul, zL_div, zL_toI, zI_lt, zI_le, zI_eq, zL_lt, zL_le, zL_eq]
    exact eq_false (by omega)
  rw [f_X6_tells, ifF c1, ifF c2, t1, t2]
  generalize hx : u.2.2.2 0 (16 + 2 * k.toNat) = x
  generalize hd : u.2.2.2 0 (17 + 2 * k.toNat) = d
  obtain ⟨v, v1, v2, v3, v4⟩ := X6_faultOf_v hN x d (ol u 19 x)
  have w19 : v.2.1 19 = x := by rw [v3]; exact ol_s u 19 x
  have hsc : Sc u v := Sc_trans (Sc_19 u x) v2
  have hcb := cb_le (gM d) 59 0
  have hb : f_X6_bits N (d &&& 576460752302899201) (zI 0) (zI 58) = some (zI (cb (gM d) 0 59)) := X6_bits_v hN (gM d) (a := 0) (b := 58) (by omega) (by omega) (by omega)
  have hmr : v.2.2.2 0 (3 : Int32).toNatClampNeg = zL m := by rw [v2.2.2]; exact hm
  have fr := fltB_rng x
  rw [v1, Option.bind_some, show ((0 : Int32) = zI 0) from rfl, show ((58 : Int32) = zI 58) from rfl, hb, Option.bind_some, hmr]
  show ∃ v', (if zI (fltS x d) = zI 0 then some (v.1 8, v) else _) = _ ∧ _
  by_cases hgz : gM d = 0
  · have hcz : cb (gM d) 0 59 = 0 := by rw [hgz]; exact cb_0 59 0 (fun k _ _ => lb_0 k)
    have hs : fltS x d = fltB x := if_pos hgz
    have ht : tellS x d m = if fltB x = 0 then numV x else -1 := by
      unfold tellS
      rw [hcz, if_pos (by omega), hgz, minS_0]
    by_cases h0 : fltB x = 0
    · rw [if_pos h0] at ht
      rw [hs] at v4 ⊢
      refine ⟨v, ?_, hsc, fun _ => by rw [w19]⟩
      rw [h0, if_pos (show zI 0 = zI 0 from rfl), ht, v4 h0]
    · rw [if_neg h0] at ht
      refine ⟨v, ?_, hsc, fun _ => by rw [w19]⟩
      rw [hs, ht]
      simp (maxSteps := 400000) (disch := omega) only [zI_lit, zI_neg, zI_add, zI_sub, zI_mul, zI_div, zI_tn, zI_toL, zL_lit, zL_neg, zL_add, zL_sub, zL_mul, zL_div, zL_toI, zI_ltT, zI_ltF, zI_leT, zI_leF, zI_eqT, zI_eqF, zL_ltT, zL_ltF, zL_leT, zL_leF, zL_eqT, zL_eqF, nleT, nleF, or_self, or_false, false_or, true_or, or_true, not_true_eq_false, not_false_eq_true, ↓reduceIte, Option.bind_some, Bool.false_eq_true, decide_true, decide_false]
  · have hs : fltS x d = 1 := if_neg hgz
    rw [hs]
    by_cases hle : (cb (gM d) 0 59 : Int) ≤ m
    · have ht : tellS x d m = minS x (gM d) := if_pos hle
      have p8 : 2 ^ cb (gM d) 0 59 ≤ 8 := Nat.pow_le_pow_right (n := 2) (j := 3) (by decide) (by omega)
      obtain ⟨w, w1, w2, w3⟩ := X6_tells_l hN (zI k) (zI 1) x d (G := cb (gM d) 0 59) (by omega) (by omega) (2 ^ cb (gM d) 0 59) 0 0 (-1) N v (by omega) (by omega) (by omega) (fun _ => by rw [w19])
      refine ⟨w, ?_, Sc_trans hsc w2, fun hne => ?_⟩
      · rw [ht]
        simp (maxSteps := 400000) (disch := omega) only [zI_lit, zI_neg, zI_add, zI_sub, zI_mul, zI_div, zI_tn, zI_toL, zL_lit, zL_neg, zL_add, zL_sub, zL_mul, zL_div, zL_toI, zI_ltT, zI_ltF, zI_leT, zI_leF, zI_eqT, zI_eqF, zL_ltT, zL_ltF, zL_leT, zL_leF, zL_eqT, zL_eqF, nleT, nleF, or_self, or_false, false_or, true_or, or_true, not_true_eq_false, not_false_eq_true, ↓reduceIte, Option.bind_some, Bool.false_eq_true, decide_true, decide_false]
        exact w1
      · rw [ht] at hne
        refine w3 ?_
        cases hg : lb (gM d) 19
        · rfl
        · exact absurd (minS_19 hg) hne
    · have ht : tellS x d m = -1 := if_neg hle
      refine ⟨v, ?_, hsc, fun h => absurd ht h⟩
      rw [ht]
      simp (maxSteps := 400000) (disch := omega) only [zI_lit, zI_neg, zI_add, zI_sub, zI_mul, zI_div, zI_tn, zI_toL, zL_lit, zL_neg, zL_add, zL_sub, zL_mul, zL_div, zL_toI, zI_ltT, zI_ltF, zI_leT, zI_leF, zI_eqT, zI_eqF, zL_ltT, zL_ltF, zL_leT, zL_leF, zL_eqT, zL_eqF, nleT, nleF, or_self, or_false, false_or, true_or, or_true, not_true_eq_false, not_false_eq_true, ↓reduceIte, Option.bind_some, Bool.false_eq_true, decide_true, decide_false]
def voteS (x d : Int64) (m k : Int) : Int := if tellS x d m = -1 then -1 else tellS x d m + k
theorem X6_votesFor_v {N : Nat} (hN : 700 ≤ N) {k m : Int} (hk : 0 ≤ k) (hk2 : k < 8) (u : Ob) (hm : u.2.2.2 0 3 = zL m) (hm0 : 0 ≤ m) (hm3 : m ≤ 3) :
    ∃ v, f_X6_votesFor N (zI k) u = some (zI (voteS (u.2.2.2 0 (16 + 2 * k.toNat)) (u.2.2.2 0 (17 + 2 * k.toNat)) m k), v) ∧ Sc u v ∧ (voteS (u.2.2.2 0 (16 + 2 * k.toNat)) (u.2.2.2 0 (17 + 2 * k.toNat)) m k ≠ -1 → lb (v.2.1 19) 19 = lb (u.2.2.2 0 (16 + 2 * k.toNat)) 19) := by
  obtain ⟨v, v1, v2, v3⟩ := X6_tells_v hN hk hk2 u hm hm0 hm3
  have r := tellS_rng (u.2.2.2 0 (16 + 2 * k.toNat)) (u.2.2.2 0 (17 + 2 * k.toNat)) m
  refine ⟨v, ?_, v2, fun h => v3 fun e => h (by unfold voteS; rw [if_pos e])⟩
  rw [f_X6_votesFor, v1, Option.bind_some]
  unfold voteS
  by_cases e : tellS (u.2.2.2 0 (16 + 2 * k.toNat)) (u.2.2.2 0 (17 + 2 * k.toNat)) m = -1
  · rw [if_pos e]
    simp (maxSteps := 400000) (disch := omega) only [zI_lit, zI_neg, zI_add, zI_sub, zI_mul, zI_div, zI_tn, zI_toL, zL_lit, zL_neg, zL_add, zL_sub, zL_mul, zL_div, zL_toI, zI_ltT, zI_ltF, zI_leT, zI_leF, zI_eqT, zI_eqF, zL_ltT, zL_ltF, zL_leT, zL_leF, zL_eqT, zL_eqF, nleT, nleF, or_self, or_false, false_or, true_or, or_true, not_true_eq_false, not_false_eq_true, ↓reduceIte, Option.bind_some, Bool.false_eq_true, decide_true, decide_false]
  · rw [if_neg e]
    simp (maxSteps := 400000) (disch := omega) only [zI_lit, zI_neg, zI_add, zI_sub, zI_mul, zI_div, zI_tn, zI_toL, zL_lit, zL_neg, zL_add, zL_sub, zL_mul, zL_div, zL_toI, zI_ltT, zI_ltF, zI_leT, zI_leF, zI_eqT, zI_eqF, zL_ltT, zL_ltF, zL_leT, zL_leF, zL_eqT, zL_eqF, nleT, nleF, or_self, or_false, false_or, true_or, or_true, not_true_eq_false, not_false_eq_true, ↓reduceIte, Option.bind_some, Bool.false_eq_true, decide_true, decide_false]
