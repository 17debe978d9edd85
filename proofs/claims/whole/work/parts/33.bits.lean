/-! bits of a long (the first rows: kit/laws/BITS.to-paste) -/
theorem wb_tb (n : Nat) : (lN n).toBitVec = BitVec.ofNat 64 n := rfl
theorem wb_inj {a b : Int64} (h : a.toBitVec = b.toBitVec) : a = b := Int64.toBitVec_inj.mp h
theorem wb_tn {n : Nat} (h : n < 2 ^ 64) : (lN n).toBitVec.toNat = n := by rw [wb_tb, BitVec.toNat_ofNat, Nat.mod_eq_of_lt h]
theorem wb_of (x : Int64) : ∃ n, n < 2 ^ 64 ∧ x = lN n := ⟨x.toBitVec.toNat, x.toBitVec.isLt, wb_inj (by rw [wb_tb]; simp)⟩
theorem wb_of32 (x : Int32) : ∃ n, n < 2 ^ 32 ∧ x = nI n := ⟨x.toBitVec.toNat, x.toBitVec.isLt, Int32.toBitVec_inj.mp (by show _ = BitVec.ofNat 32 _; simp)⟩
theorem wb_c : ∀ k, k < 64 → ((nI k).toInt64 &&& 63) = lN k := by decide +kernel
theorem wb_cu : ∀ k, k < 64 → ((nI k).toInt64.toUInt64 &&& Int64.toUInt64 63) = UInt64.ofNat k := by decide +kernel
theorem wb_sm : ∀ k, k < 64 → (BitVec.ofNat 64 k).smod 64 = BitVec.ofNat 64 k := by decide +kernel
theorem wb_pw {a b : Nat} (h : a ≤ b) : 2 ^ b = 2 ^ a * 2 ^ (b - a) := by rw [← Nat.pow_add]; congr 1; omega
theorem wb_lt2 {a b : Nat} (h : a < b) : 2 ^ a < 2 ^ b := Nat.pow_lt_pow_right (by decide) h
theorem wb_mod (n : Nat) : lN n = lN (n % 2 ^ 64) := wb_inj (by rw [wb_tb, wb_tb]; apply BitVec.eq_of_toNat_eq; rw [BitVec.toNat_ofNat, BitVec.toNat_ofNat, Nat.mod_mod])
theorem wb_shr {n k : Nat} (hn : n < 2 ^ 64) (hk : k < 64) : ((lN n).toUInt64 >>> ((nI k).toInt64.toUInt64 &&& Int64.toUInt64 63)).toInt64 = lN (n / 2 ^ k) := by
  rw [wb_cu k hk]
  apply wb_inj
  apply BitVec.eq_of_toNat_eq
  show ((lN n).toUInt64 >>> UInt64.ofNat k).toNat = (BitVec.ofNat 64 _).toNat
  have h1 : (UInt64.ofNat k).toNat = k := by
    show (BitVec.ofNat 64 k).toNat = k
    rw [BitVec.toNat_ofNat, Nat.mod_eq_of_lt (by omega)]
  have h2 : (lN n).toUInt64.toNat = n := wb_tn hn
  rw [UInt64.toNat_shiftRight, h1, h2, Nat.mod_eq_of_lt hk, Nat.shiftRight_eq_div_pow, BitVec.toNat_ofNat, Nat.mod_eq_of_lt (Nat.lt_of_le_of_lt (Nat.div_le_self _ _) hn)]
theorem wb_shl (n : Nat) {k : Nat} (hk : k < 64) : lN n <<< ((nI k).toInt64 &&& 63) = lN (n * 2 ^ k) := by
  rw [wb_c k hk]
  apply wb_inj
  rw [Int64.toBitVec_shiftLeft, wb_tb, wb_tb, wb_tb, wb_sm k hk]
  apply BitVec.eq_of_toNat_eq
  rw [BitVec.shiftLeft_eq', BitVec.toNat_shiftLeft, BitVec.toNat_ofNat, BitVec.toNat_ofNat, BitVec.toNat_ofNat, Nat.mod_eq_of_lt (show k < 2 ^ 64 by omega), Nat.shiftLeft_eq, Nat.mul_mod, Nat.mod_mod, ← Nat.mul_mod]
theorem wb_and {a b : Nat} (ha : a < 2 ^ 64) (hb : b < 2 ^ 64) : lN a &&& lN b = lN (a &&& b) := by
  apply wb_inj
  rw [Int64.toBitVec_and, wb_tb, wb_tb, wb_tb]
  apply BitVec.eq_of_toNat_eq
  rw [BitVec.toNat_and, BitVec.toNat_ofNat, BitVec.toNat_ofNat, BitVec.toNat_ofNat, Nat.mod_eq_of_lt ha, Nat.mod_eq_of_lt hb, Nat.mod_eq_of_lt (Nat.and_lt_two_pow _ hb)]
theorem wb_or {a b : Nat} (ha : a < 2 ^ 64) (hb : b < 2 ^ 64) : lN a ||| lN b = lN (a ||| b) := by
  apply wb_inj
  rw [Int64.toBitVec_or, wb_tb, wb_tb, wb_tb]
  apply BitVec.eq_of_toNat_eq
  rw [BitVec.toNat_or, BitVec.toNat_ofNat, BitVec.toNat_ofNat, BitVec.toNat_ofNat, Nat.mod_eq_of_lt ha, Nat.mod_eq_of_lt hb, Nat.mod_eq_of_lt (Nat.or_lt_two_pow ha hb)]
theorem wb_mask {n k : Nat} (hn : n < 2 ^ 64) (hk : k < 64) : lN n &&& lN (2 ^ k - 1) = lN (n % 2 ^ k) := by
  rw [wb_and hn (by have := wb_lt2 hk; omega), Nat.and_two_pow_sub_one_eq_mod]
theorem wb_a1 {n : Nat} (hn : n < 2 ^ 64) : lN n &&& 1 = lN (n % 2) := wb_mask (k := 1) hn (by decide)
theorem wb_bit {n k : Nat} (hn : n < 2 ^ 64) (hk : k < 64) : ((lN n).toUInt64 >>> ((nI k).toInt64.toUInt64 &&& Int64.toUInt64 63)).toInt64 &&& 1 = lN (n / 2 ^ k % 2) := by
  rw [wb_shr hn hk, wb_a1 (Nat.lt_of_le_of_lt (Nat.div_le_self _ _) hn)]
/-- bit k of a long -/
def lb (x : Int64) (k : Nat) : Bool := x.toBitVec.getLsbD k
theorem lb_ext {x y : Int64} (h : ∀ k, k < 64 → lb x k = lb y k) : x = y := Int64.toBitVec_inj.mp (BitVec.eq_of_getLsbD_eq fun i hi => h i hi)
theorem lb_or (x y : Int64) (k : Nat) : lb (x ||| y) k = (lb x k || lb y k) := by unfold lb; rw [Int64.toBitVec_or, BitVec.getLsbD_or]
theorem lb_and (x y : Int64) (k : Nat) : lb (x &&& y) k = (lb x k && lb y k) := by unfold lb; rw [Int64.toBitVec_and, BitVec.getLsbD_and]
theorem lb_xor (x y : Int64) (k : Nat) : lb (x ^^^ y) k = (lb x k ^^ lb y k) := by unfold lb; rw [Int64.toBitVec_xor, BitVec.getLsbD_xor]
theorem lb_big {x : Int64} {k : Nat} (h : 64 ≤ k) : lb x k = false := BitVec.getLsbD_of_ge _ _ h
theorem lb_lN {n : Nat} (hn : n < 2 ^ 64) (k : Nat) : lb (lN n) k = n.testBit k := by
  unfold lb
  rw [wb_tb, BitVec.getLsbD_ofNat]
  by_cases hk : k < 64
  · simp [hk]
  · rw [decide_eq_false hk, Bool.false_and]
    exact (Nat.testBit_lt_two_pow (Nat.lt_of_lt_of_le hn (Nat.pow_le_pow_right (by decide) (by omega)))).symm
theorem lb_0 (k : Nat) : lb 0 k = false := BitVec.getLsbD_zero
theorem lb_1 (k : Nat) : lb 1 k = decide (k = 0) := by
  rw [show (1 : Int64) = lN 1 from rfl, lb_lN (by decide)]
  cases k with
  | zero => rfl
  | succ k => simp [Nat.testBit_succ]
theorem zI_nI (k : Nat) : zI (k : Int) = nI k := rfl
theorem zI_nI' {k : Int} (h : 0 ≤ k) : zI k = nI k.toNat := by rw [← zI_nI, Int.toNat_of_nonneg h]
theorem lb_jushr (x : Int64) {n : Nat} (hn : n < 64) (k : Nat) : lb (jushr x (nI n)) k = lb x (n + k) := by
  obtain ⟨a, ha, rfl⟩ := wb_of x
  have h : jushr (lN a) (nI n) = lN (a / 2 ^ n) := wb_shr ha hn
  rw [h, lb_lN (Nat.lt_of_le_of_lt (Nat.div_le_self _ _) ha), lb_lN ha, Nat.testBit_div_two_pow, Nat.add_comm]
theorem lb_jshl (x : Int64) {n : Nat} (hn : n < 64) {k : Nat} (hk : k < 64) : lb (jshl x (nI n)) k = (decide (n ≤ k) && lb x (k - n)) := by
  obtain ⟨a, ha, rfl⟩ := wb_of x
  have h : jshl (lN a) (nI n) = lN (a * 2 ^ n) := wb_shl a hn
  rw [h, lb_lN ha]
  unfold lb
  rw [wb_tb, BitVec.getLsbD_ofNat, decide_eq_true hk, Bool.true_and, Nat.testBit_mul_two_pow]
theorem jb1 (x : Int64) {n : Nat} (hn : n < 64) : (jushr x (nI n)) &&& 1 = if lb x n then 1 else 0 := by
  apply lb_ext
  intro k hk
  rw [lb_and, lb_jushr x hn, lb_1]
  cases hx : lb x n <;> by_cases h0 : k = 0
  · subst h0; simp [hx, lb_0]
  · simp [h0, lb_0]
  · subst h0; simp [hx, lb_1]
  · simp [h0, lb_1]
theorem jb_1 (x : Int64) {n : Nat} (hn : n < 64) : ((jushr x (nI n)) &&& 1 = 1) = (lb x n = true) := by
  rw [jb1 x hn]
  cases lb x n <;> simp
theorem jb_0 (x : Int64) {n : Nat} (hn : n < 64) : ((jushr x (nI n)) &&& 1 = 0) = (lb x n = false) := by
  rw [jb1 x hn]
  cases lb x n <;> simp
theorem and1 (x : Int64) : (x &&& 1 = 0) = (lb x 0 = false) := by
  have h := jb_0 x (n := 0) (by decide)
  rwa [show jushr x (nI 0) = x from lb_ext fun k hk => by rw [lb_jushr x (by decide), Nat.zero_add]] at h
/-- how many bits from a on, of n -/
def cb (x : Int64) : Nat → Nat → Nat
  | _, 0 => 0
  | a, n + 1 => (if lb x a then 1 else 0) + cb x (a + 1) n
theorem cb_le (x : Int64) : ∀ n a, cb x a n ≤ n
  | 0, _ => Nat.le_refl 0
  | n + 1, a => by
    have h := cb_le x n (a + 1)
    rw [cb]
    split <;> omega
theorem cb_add (x : Int64) (m : Nat) : ∀ n a, cb x a (n + m) = cb x a n + cb x (a + n) m
  | 0, a => by rw [Nat.zero_add, cb, Nat.zero_add, Nat.add_zero]
  | n + 1, a => by
    rw [show n + 1 + m = (n + m) + 1 by omega, cb, cb, cb_add x m n (a + 1), show a + 1 + n = a + (n + 1) by omega]
    omega
theorem cb_cong {x y : Int64} : ∀ n a, (∀ k, a ≤ k → k < a + n → lb x k = lb y k) → cb x a n = cb y a n
  | 0, _, _ => rfl
  | n + 1, a, h => by
    rw [cb, cb, h a (by omega) (by omega), cb_cong n (a + 1) (fun k h1 h2 => h k (by omega) (by omega))]
theorem cb_0 {x : Int64} : ∀ n a, (∀ k, a ≤ k → k < a + n → lb x k = false) → cb x a n = 0
  | 0, _, _ => rfl
  | n + 1, a, h => by
    rw [cb, h a (by omega) (by omega), cb_0 n (a + 1) (fun k h1 h2 => h k (by omega) (by omega))]
    rfl
theorem cb_0' {x : Int64} : ∀ n a, cb x a n = 0 → ∀ k, a ≤ k → k < a + n → lb x k = false
  | 0, _, _ => fun k h1 h2 => by omega
  | n + 1, a, h => fun k h1 h2 => by
    rw [cb] at h
    by_cases e : k = a
    · subst e
      cases hx : lb x k
      · rfl
      · rw [hx, if_pos rfl] at h; omega
    · exact cb_0' n (a + 1) (by omega) k (by omega) (by omega)
/-- a part of the bits, by a mask -/
theorem cb_mask {x m : Int64} {s n : Nat} (hs : s + n ≤ 64) (hm : ∀ k, k < 64 → lb m k = decide (s ≤ k ∧ k < s + n)) : cb (x &&& m) 0 64 = cb x s n := by
  rw [show 64 = s + (n + (64 - s - n)) by omega, cb_add, cb_add, cb_0 s 0, cb_0 (64 - s - n), Nat.zero_add, Nat.zero_add, Nat.add_zero]
  · refine cb_cong n s fun k h1 h2 => ?_
    rw [lb_and, hm k (by omega), decide_eq_true (by omega), Bool.and_true]
  · intro k h1 h2
    rw [lb_and, hm k (by omega), decide_eq_false (by omega), Bool.and_false]
  · intro k h1 h2
    rw [lb_and, hm k (by omega), decide_eq_false (by omega), Bool.and_false]
theorem X6_has_v (N : Nat) (x : Int64) {k : Int} (h1 : 0 ≤ k) (h2 : k < 64) : f_X6_has N x (zI k) = some (lb x k.toNat) := by
  have h := jb_1 x (n := k.toNat) (by omega)
  simp only [f_X6_has, zI_nI' h1, h]
  cases lb x k.toNat <;> rfl
theorem X6_bits_l (N : Nat) (x : Int64) {x9 : Int32} {b : Int} (hb : b < 64) : ∀ (j : Nat) (a t : Int) (n : Nat), 0 ≤ a → a + j = b + 1 → j < n → l_X6_bits_6 N x x9 (zI b) n (zI t) (zI a) = some (zI (t + cb x a.toNat j)) := by
  intro j
  induction j with
  | zero =>
    intro a t n ha hj hn
    obtain ⟨n, rfl⟩ : ∃ k, n = k + 1 := ⟨n - 1, by omega⟩
    rw [l_X6_bits_6]
    simp (maxSteps := 400000) (disch := omega) only [zI_lit, zI_neg, zI_add, zI_sub, zI_mul, zI_div, zI_tn, zI_toL, zL_lit, zL_neg, zL_add, zL_sub, zL_mul, zL_div, zL_toI, zI_ltT, zI_ltF, zI_leT, zI_leF, zI_eqT, zI_eqF, zL_ltT, zL_ltF, zL_leT, zL_leF, zL_eqT, zL_eqF, nleT, nleF, or_self, or_false, false_or, true_or, or_true, not_true_eq_false, not_false_eq_true, ↓reduceIte, Option.bind_some, Bool.false_eq_true, decide_true, decide_false]
    rw [cb, Int.natCast_zero, Int.add_zero]
  | succ j ih =>
    intro a t n ha hj hn
    obtain ⟨n, rfl⟩ : ∃ k, n = k + 1 := ⟨n - 1, by omega⟩
    have e : (a + 1).toNat = a.toNat + 1 := by omega
    have h := fun t => ih (a + 1) t n (by omega) (by omega) (by omega)
    rw [e] at h
    rw [l_X6_bits_6, X6_has_v N x ha (by omega), cb]
    cases hx : lb x a.toNat
    · simp (maxSteps := 400000) (disch := omega) only [zI_lit, zI_neg, zI_add, zI_sub, zI_mul, zI_div, zI_tn, zI_toL, zL_lit, zL_neg, zL_add, zL_sub, zL_mul, zL_div, zL_toI, zI_ltT, zI_ltF, zI_leT, zI_leF, zI_eqT, zI_eqF, zL_ltT, zL_ltF, zL_leT, zL_leF, zL_eqT, zL_eqF, nleT, nleF, or_self, or_false, false_or, true_or, or_true, not_true_eq_false, not_false_eq_true, ↓reduceIte, Option.bind_some, Bool.false_eq_true, decide_true, decide_false, h]
      congr 2
      simp
    · simp (maxSteps := 400000) (disch := omega) only [zI_lit, zI_neg, zI_add, zI_sub, zI_mul, zI_div, zI_tn, zI_toL, zL_lit, zL_neg, zL_add, zL_sub, zL_mul, zL_div, zL_toI, zI_ltT, zI_ltF, zI_leT, zI_leF, zI_eqT, zI_eqF, zL_ltT, zL_ltF, zL_leT, zL_leF, zL_eqT, zL_eqF, nleT, nleF, or_self, or_false, false_or, true_or, or_true, not_true_eq_false, not_false_eq_true, ↓reduceIte, Option.bind_some, Bool.false_eq_true, decide_true, decide_false, h]
      congr 2
      simp
      omega
theorem X6_bits_v {N : Nat} (hN : 700 ≤ N) (x : Int64) {a b : Int} (ha : 0 ≤ a) (hab : a ≤ b + 1) (hb : b < 64) : f_X6_bits N x (zI a) (zI b) = some (zI (cb x a.toNat (b + 1 - a).toNat)) := by
  have h := X6_bits_l N x hb (x9 := zI a) (b + 1 - a).toNat a 0 N ha (by omega) (by omega)
  rw [Int.zero_add] at h
  exact h
