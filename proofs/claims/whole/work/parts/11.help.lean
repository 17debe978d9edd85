def jushr (x : Int64) (y : Int32) : Int64 := (x.toUInt64 >>> (y.toInt64.toUInt64 &&& Int64.toUInt64 63)).toInt64
def jshl (x : Int64) (y : Int32) : Int64 := x <<< (y.toInt64 &&& 63)
def jshr (x : Int64) (y : Int32) : Int64 := x >>> (y.toInt64 &&& 63)
def iushr (x y : Int32) : Int32 := (x.toUInt32 >>> (y.toUInt32 &&& Int32.toUInt32 31)).toInt32
def i2c (x : Int32) : Int32 := (x.toUInt32 % 65536).toInt32
theorem nar_c (x : Int32) : narrow .char (.int (i2c x)) = .int (i2c x) := by
  have h : (x.toUInt32 % 65536).toInt32.toUInt32.toUInt16.toUInt32 = x.toUInt32 % 65536 := by
    apply UInt32.toNat_inj.mp
    simp
  show Value.int _ = _
  exact congrArg (fun y : UInt32 => Value.int y.toInt32) h
theorem vin {i : Int32} {n : Nat} (h : ¬ (i < 0 ∨ n ≤ i.toNatClampNeg)) : vp_in i n := h
def wX0 (G : Gp) (h : Nat) (ad : Nat → Nat) (u : Ob) : va_W := [(h, .inr (0, [.ref (ad 0), .int (u.1 1)])), (ad 0, .inl (G.2.2.1 1, 8, .inl (u.2.2.1 0)))]
def wX3 (G : Gp) (h : Nat) (ad : Nat → Nat) (u : Ob) : va_W := [(h, .inr (1, [.ref (ad 0), .int (u.1 1), .int (u.1 2), .int (u.1 3), .int (u.1 4), .int (u.1 5), .int (u.1 6), .int (u.1 7), .int (u.1 8), .int (u.1 9), .int (u.1 10), .long (u.2.1 11)])), (ad 0, .inl (G.2.2.1 0, 600, .inl (u.2.2.1 0)))]
def wX4 (G : Gp) (h : Nat) (ad : Nat → Nat) (u : Ob) : va_W := [(h, .inr (2, [.ref (ad 0), .int (u.1 1), .int (u.1 2), .int (u.1 3), .int (u.1 4), .int (u.1 5), .long (u.2.1 6), .long (u.2.1 7), .ref (ad 8), .ref (ad 9), .ref (ad 10), .int (u.1 11), .int (u.1 12), .int (u.1 13), .ref (ad 14), .ref (ad 15), .int (u.1 16), .ref (ad 17)])), (ad 0, .inl (G.2.2.1 1, 5, .inl (u.2.2.1 0))), (ad 8, .inl (G.2.2.1 2, 8, .inr (.inl (u.2.2.2 8)))), (ad 9, .inl (G.2.2.1 2, 8, .inr (.inl (u.2.2.2 9)))), (ad 10, .inl (G.2.2.1 1, 8, .inl (u.2.2.1 10))), (ad 14, .inl (G.2.2.1 1, 8, .inl (u.2.2.1 14))), (ad 15, .inl (G.2.2.1 1, 8, .inl (u.2.2.1 15)))]
def wX6 (G : Gp) (h : Nat) (ad : Nat → Nat) (u : Ob) : va_W := [(h, .inr (4, [.ref (ad 0), .ref (ad 1), .ref (ad 2), .ref (ad 3), .ref (ad 4), .ref (ad 5), .int (u.1 6), .int (u.1 7), .int (u.1 8), .ref (ad 9), .int (u.1 10), .int (u.1 11), .int (u.1 12), .int (u.1 13), .int (u.1 14), .int (u.1 15), .int (u.1 16), .int (u.1 17), .long (u.2.1 18), .long (u.2.1 19), .ref (ad 20), .int (u.1 21)])), (ad 0, .inl (G.2.2.1 2, 48, .inr (.inl (u.2.2.2 0)))), (ad 1, .inl (G.2.2.1 2, 48, .inr (.inl (u.2.2.2 1)))), (ad 2, .inl (G.2.2.1 2, 48, .inr (.inl (u.2.2.2 2)))), (ad 3, .inl (G.2.2.1 2, 384, .inr (.inl (u.2.2.2 3)))), (ad 4, .inl (G.2.2.1 2, 96, .inr (.inl (u.2.2.2 4)))), (ad 5, .inl (G.2.2.1 3, 2, .inl (u.2.2.1 5))), (ad 9, .inl (G.2.2.1 1, 600, .inl (u.2.2.1 9))), (ad 20, .inl (G.2.2.1 1, 20, .inl (u.2.2.1 20)))]
