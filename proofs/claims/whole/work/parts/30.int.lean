/-! numbers of the machine as images of Int; ifs and divisions are then omega's -/
def zI (z : Int) : Int32 := Int32.ofInt z
def zL (z : Int) : Int64 := Int64.ofInt z
theorem zI_self (x : Int32) : x = zI x.toInt := (Int32.ofInt_toInt x).symm
theorem zL_self (x : Int64) : x = zL x.toInt := (Int64.ofInt_toInt x).symm
theorem zI_get (x : Int32) : ∃ z : Int, -2147483648 ≤ z ∧ z < 2147483648 ∧ x = zI z := ⟨x.toInt, Int32.le_toInt x, Int32.toInt_lt x, zI_self x⟩
theorem zI_toInt {z : Int} (h1 : -2147483648 ≤ z) (h2 : z < 2147483648) : (zI z).toInt = z := Int32.toInt_ofInt_of_le h1 h2
theorem zL_toInt {z : Int} (h1 : -9223372036854775808 ≤ z) (h2 : z < 9223372036854775808) : (zL z).toInt = z := Int64.toInt_ofInt_of_le h1 h2
theorem zI_lit (n : Nat) : (OfNat.ofNat n : Int32) = zI (OfNat.ofNat n : Int) := rfl
theorem zL_lit (n : Nat) : (OfNat.ofNat n : Int64) = zL (OfNat.ofNat n : Int) := rfl
theorem zI_neg (a : Int) : -zI a = zI (-a) := (Int32.ofInt_neg a).symm
theorem zL_neg (a : Int) : -zL a = zL (-a) := (Int64.ofInt_neg a).symm
theorem zI_add (a b : Int) : zI a + zI b = zI (a + b) := (Int32.ofInt_add a b).symm
theorem zL_add (a b : Int) : zL a + zL b = zL (a + b) := (Int64.ofInt_add a b).symm
theorem zI_mul (a b : Int) : zI a * zI b = zI (a * b) := (Int32.ofInt_mul a b).symm
theorem zL_mul (a b : Int) : zL a * zL b = zL (a * b) := (Int64.ofInt_mul a b).symm
theorem zI_sub (a b : Int) : zI a - zI b = zI (a - b) := by
  rw [Int32.sub_eq_add_neg, zI_neg, zI_add, Int.sub_eq_add_neg]
theorem zL_sub (a b : Int) : zL a - zL b = zL (a - b) := by
  rw [Int64.sub_eq_add_neg, zL_neg, zL_add, Int.sub_eq_add_neg]
theorem zI_lt {a b : Int} (h1 : -2147483648 ≤ a) (h2 : a < 2147483648) (h3 : -2147483648 ≤ b) (h4 : b < 2147483648) : (zI a < zI b) = (a < b) := by
  rw [Int32.lt_iff_toInt_lt, zI_toInt h1 h2, zI_toInt h3 h4]
theorem zI_le {a b : Int} (h1 : -2147483648 ≤ a) (h2 : a < 2147483648) (h3 : -2147483648 ≤ b) (h4 : b < 2147483648) : (zI a ≤ zI b) = (a ≤ b) := by
  rw [Int32.le_iff_toInt_le, zI_toInt h1 h2, zI_toInt h3 h4]
theorem zI_eq {a b : Int} (h1 : -2147483648 ≤ a) (h2 : a < 2147483648) (h3 : -2147483648 ≤ b) (h4 : b < 2147483648) : (zI a = zI b) = (a = b) := by
  rw [← Int32.toInt_inj, zI_toInt h1 h2, zI_toInt h3 h4]
theorem zL_lt {a b : Int} (h1 : -9223372036854775808 ≤ a) (h2 : a < 9223372036854775808) (h3 : -9223372036854775808 ≤ b) (h4 : b < 9223372036854775808) : (zL a < zL b) = (a < b) := by
  rw [Int64.lt_iff_toInt_lt, zL_toInt h1 h2, zL_toInt h3 h4]
theorem zL_le {a b : Int} (h1 : -9223372036854775808 ≤ a) (h2 : a < 9223372036854775808) (h3 : -9223372036854775808 ≤ b) (h4 : b < 9223372036854775808) : (zL a ≤ zL b) = (a ≤ b) := by
  rw [Int64.le_iff_toInt_le, zL_toInt h1 h2, zL_toInt h3 h4]
theorem zL_eq {a b : Int} (h1 : -9223372036854775808 ≤ a) (h2 : a < 9223372036854775808) (h3 : -9223372036854775808 ≤ b) (h4 : b < 9223372036854775808) : (zL a = zL b) = (a = b) := by
  rw [← Int64.toInt_inj, zL_toInt h1 h2, zL_toInt h3 h4]
theorem zI_tn {a : Int} (h1 : -2147483648 ≤ a) (h2 : a < 2147483648) : (zI a).toNatClampNeg = a.toNat := by
  rw [Int32.toNatClampNeg, zI_toInt h1 h2]
theorem zI_toL {a : Int} (h1 : -2147483648 ≤ a) (h2 : a < 2147483648) : (zI a).toInt64 = zL a := by
  apply Int64.toInt_inj.mp
  rw [Int32.toInt_toInt64, zI_toInt h1 h2, zL_toInt (by omega) (by omega)]
theorem zL_toI (a : Int) : (zL a).toInt32 = zI a := Int64.toInt32_ofInt
theorem zI_div {a b : Int} (h1 : 0 ≤ a) (h2 : a < 2147483648) (h3 : 0 < b) (h4 : b < 2147483648) : zI a / zI b = zI (a / b) := by
  have hle : a / b ≤ a := Int.ediv_le_self b h1
  have h0 : 0 ≤ a / b := Int.ediv_nonneg h1 (by omega)
  apply Int32.toInt_inj.mp
  rw [Int32.toInt_div_of_ne_right _ _ (fun h => ?_), zI_toInt (by omega) h2, zI_toInt (by omega) h4, zI_toInt (by omega) (by omega), Int.tdiv_eq_ediv_of_nonneg h1]
  have h := congrArg Int32.toInt h
  rw [zI_toInt (by omega) h4] at h
  have : (-1 : Int32).toInt = -1 := by decide
  omega
theorem zL_div {a b : Int} (h1 : 0 ≤ a) (h2 : a < 9223372036854775808) (h3 : 0 < b) (h4 : b < 9223372036854775808) : zL a / zL b = zL (a / b) := by
  have hle : a / b ≤ a := Int.ediv_le_self b h1
  have h0 : 0 ≤ a / b := Int.ediv_nonneg h1 (by omega)
  apply Int64.toInt_inj.mp
  rw [Int64.toInt_div_of_ne_right _ _ (fun h => ?_), zL_toInt (by omega) h2, zL_toInt (by omega) h4, zL_toInt (by omega) (by omega), Int.tdiv_eq_ediv_of_nonneg h1]
  have h := congrArg Int64.toInt h
  rw [zL_toInt (by omega) h4] at h
  have : (-1 : Int64).toInt = -1 := by decide
  omega
theorem zI_ltT {a b : Int} (h1 : -2147483648 ≤ a) (h2 : a < 2147483648) (h3 : -2147483648 ≤ b) (h4 : b < 2147483648) (h : a < b) : (zI a < zI b) = True := by rw [zI_lt h1 h2 h3 h4]; exact eq_true h
theorem zI_ltF {a b : Int} (h1 : -2147483648 ≤ a) (h2 : a < 2147483648) (h3 : -2147483648 ≤ b) (h4 : b < 2147483648) (h : b ≤ a) : (zI a < zI b) = False := by rw [zI_lt h1 h2 h3 h4]; exact eq_false (by omega)
theorem zI_leT {a b : Int} (h1 : -2147483648 ≤ a) (h2 : a < 2147483648) (h3 : -2147483648 ≤ b) (h4 : b < 2147483648) (h : a ≤ b) : (zI a ≤ zI b) = True := by rw [zI_le h1 h2 h3 h4]; exact eq_true h
theorem zI_leF {a b : Int} (h1 : -2147483648 ≤ a) (h2 : a < 2147483648) (h3 : -2147483648 ≤ b) (h4 : b < 2147483648) (h : b < a) : (zI a ≤ zI b) = False := by rw [zI_le h1 h2 h3 h4]; exact eq_false (by omega)
theorem zI_eqT {a b : Int} (h : a = b) : (zI a = zI b) = True := by rw [h]; exact eq_true rfl
theorem zI_eqF {a b : Int} (h1 : -2147483648 ≤ a) (h2 : a < 2147483648) (h3 : -2147483648 ≤ b) (h4 : b < 2147483648) (h : a ≠ b) : (zI a = zI b) = False := by rw [zI_eq h1 h2 h3 h4]; exact eq_false h
theorem zL_ltT {a b : Int} (h1 : -9223372036854775808 ≤ a) (h2 : a < 9223372036854775808) (h3 : -9223372036854775808 ≤ b) (h4 : b < 9223372036854775808) (h : a < b) : (zL a < zL b) = True := by rw [zL_lt h1 h2 h3 h4]; exact eq_true h
theorem zL_ltF {a b : Int} (h1 : -9223372036854775808 ≤ a) (h2 : a < 9223372036854775808) (h3 : -9223372036854775808 ≤ b) (h4 : b < 9223372036854775808) (h : b ≤ a) : (zL a < zL b) = False := by rw [zL_lt h1 h2 h3 h4]; exact eq_false (by omega)
theorem zL_leT {a b : Int} (h1 : -9223372036854775808 ≤ a) (h2 : a < 9223372036854775808) (h3 : -9223372036854775808 ≤ b) (h4 : b < 9223372036854775808) (h : a ≤ b) : (zL a ≤ zL b) = True := by rw [zL_le h1 h2 h3 h4]; exact eq_true h
theorem zL_leF {a b : Int} (h1 : -9223372036854775808 ≤ a) (h2 : a < 9223372036854775808) (h3 : -9223372036854775808 ≤ b) (h4 : b < 9223372036854775808) (h : b < a) : (zL a ≤ zL b) = False := by rw [zL_le h1 h2 h3 h4]; exact eq_false (by omega)
theorem zL_eqT {a b : Int} (h : a = b) : (zL a = zL b) = True := by rw [h]; exact eq_true rfl
theorem zL_eqF {a b : Int} (h1 : -9223372036854775808 ≤ a) (h2 : a < 9223372036854775808) (h3 : -9223372036854775808 ≤ b) (h4 : b < 9223372036854775808) (h : a ≠ b) : (zL a = zL b) = False := by rw [zL_eq h1 h2 h3 h4]; exact eq_false h
theorem nleT {a b : Nat} (h : a ≤ b) : (a ≤ b) = True := eq_true h
theorem nleF {a b : Nat} (h : b < a) : (a ≤ b) = False := eq_false (by omega)
