/-! Long.bitCount counts the bits -/
def vd (B : Nat) : List Nat → Nat
  | [] => 0
  | d :: ds => d + B * vd B ds
theorem and_split {w a b q r : Nat} (ha : a < 2 ^ w) (hb : b < 2 ^ w) : (a + 2 ^ w * q) &&& (b + 2 ^ w * r) = (a &&& b) + 2 ^ w * (q &&& r) := by
  have hab : a &&& b < 2 ^ w := Nat.and_lt_two_pow _ hb
  apply Nat.eq_of_testBit_eq
  intro i
  rw [Nat.testBit_and, Nat.add_comm a, Nat.add_comm b, Nat.add_comm (a &&& b), Nat.testBit_two_pow_mul_add _ ha, Nat.testBit_two_pow_mul_add _ hb, Nat.testBit_two_pow_mul_add _ hab]
  by_cases h : i < w
  · rw [if_pos h, if_pos h, if_pos h, Nat.testBit_and]
  · rw [if_neg h, if_neg h, if_neg h, Nat.testBit_and]
def rep (v : Nat) : Nat → List Nat
  | 0 => []
  | n + 1 => v :: rep v n
theorem and_1 {a : Nat} (h : a < 4) : a &&& 1 = a % 2 := Nat.and_two_pow_sub_one_eq_mod a 1
theorem pc1 : ∀ ds : List Nat, (∀ d ∈ ds, d < 4) → (vd 4 ds / 2) &&& vd 4 (rep 1 ds.length) = vd 4 (ds.map fun d => d / 2)
  | [], _ => rfl
  | d :: ds, h => by
    have hd := h d List.mem_cons_self
    have ih := pc1 ds (fun x hx => h x (List.mem_cons_of_mem _ hx))
    rw [List.length_cons, rep, vd, vd, List.map_cons, vd, ← ih]
    have e : (d + 4 * vd 4 ds) / 2 = (d / 2 + 2 * (vd 4 ds % 2)) + 2 ^ 2 * (vd 4 ds / 2) := by omega
    rw [e, show (4 : Nat) = 2 ^ 2 from rfl, and_split (w := 2) (by omega) (by decide), and_1 (by omega)]
    omega
theorem pc1s : ∀ ds : List Nat, vd 4 (ds.map fun d => d / 2) ≤ vd 4 ds ∧ vd 4 ds - vd 4 (ds.map fun d => d / 2) = vd 4 (ds.map fun d => d - d / 2)
  | [] => ⟨Nat.le_refl _, rfl⟩
  | d :: ds => by
    have ih := pc1s ds
    rw [List.map_cons, List.map_cons, vd, vd, vd]
    omega
def prs : List Nat → List Nat
  | a :: b :: t => (a + b) :: prs t
  | _ => []
theorem and_3 (a : Nat) : a &&& 3 = a % 4 := Nat.and_two_pow_sub_one_eq_mod a 2
theorem and_15 (a : Nat) : a &&& 15 = a % 16 := Nat.and_two_pow_sub_one_eq_mod a 4
theorem pc2 : ∀ (n : Nat) (es : List Nat), es.length = 2 * n → (∀ d ∈ es, d < 4) → (vd 4 es &&& vd 16 (rep 3 n)) + ((vd 4 es / 4) &&& vd 16 (rep 3 n)) = vd 16 (prs es)
  | 0, es, h, _ => by
    cases es with
    | nil => rfl
    | cons a t => simp at h
  | n + 1, [], h, _ => by simp at h
  | n + 1, [a], h, _ => by simp at h; omega
  | n + 1, a :: b :: t, h, hd => by
    have ha := hd a List.mem_cons_self
    have hb := hd b (List.mem_cons_of_mem _ List.mem_cons_self)
    have ih := pc2 n t (by simp at h; omega) (fun x hx => hd x (List.mem_cons_of_mem _ (List.mem_cons_of_mem _ hx)))
    rw [prs, vd, rep, vd, vd, vd, ← ih]
    have e1 : a + 4 * (b + 4 * vd 4 t) = (a + 4 * b) + 2 ^ 4 * vd 4 t := by omega
    have e2 : ((a + 4 * b) + 2 ^ 4 * vd 4 t) / 4 = (b + 4 * (vd 4 t % 4)) + 2 ^ 4 * (vd 4 t / 4) := by omega
    rw [e1, e2, show (16 : Nat) = 2 ^ 4 from rfl, and_split (w := 4) (by omega) (by decide), and_split (w := 4) (by omega) (by decide), and_3, and_3]
    omega
theorem vd_mod {B d : Nat} {t : List Nat} (h : d < B) : vd B (d :: t) % B = d := by
  rw [vd, Nat.add_mul_mod_self_left, Nat.mod_eq_of_lt h]
theorem pc3 : ∀ (n : Nat) (fs : List Nat), fs.length = 2 * n → (∀ d ∈ fs, d ≤ 4) → ((vd 16 fs + vd 16 fs / 16) &&& vd 256 (rep 15 n)) = vd 256 (prs fs)
  | 0, es, h, _ => by
    cases es with
    | nil => rfl
    | cons a t => simp at h
  | n + 1, [], h, _ => by simp at h
  | n + 1, [a], h, _ => by simp at h; omega
  | n + 1, a :: b :: t, h, hd => by
    have ha := hd a List.mem_cons_self
    have hb := hd b (List.mem_cons_of_mem _ List.mem_cons_self)
    have ht : ∀ x ∈ t, x ≤ 4 := fun x hx => hd x (List.mem_cons_of_mem _ (List.mem_cons_of_mem _ hx))
    have ih := pc3 n t (by simp at h; omega) ht
    have hm : vd 16 t % 16 ≤ 4 := by
      cases t with
      | nil => decide
      | cons x t => rw [vd_mod (by have := ht x List.mem_cons_self; omega)]; exact ht x List.mem_cons_self
    rw [prs, vd, rep, vd, vd, vd, ← ih]
    have e1 : a + 16 * (b + 16 * vd 16 t) + (a + 16 * (b + 16 * vd 16 t)) / 16 = (a + b + 16 * (b + vd 16 t % 16)) + 2 ^ 8 * (vd 16 t + vd 16 t / 16) := by omega
    rw [e1, show (256 : Nat) = 2 ^ 8 from rfl, and_split (w := 8) (by omega) (by decide), and_15]
    omega
def dg : Nat → Nat → List Nat
  | 0, _ => []
  | k + 1, n => n % 4 :: dg k (n / 4)
theorem dg_len : ∀ k n, (dg k n).length = k
  | 0, _ => rfl
  | k + 1, n => by rw [dg, List.length_cons, dg_len k]
theorem dg_lt : ∀ k n, ∀ d ∈ dg k n, d < 4
  | 0, _, d, h => by cases h
  | k + 1, n, d, h => by
    rw [dg] at h
    rcases List.mem_cons.mp h with rfl | h
    · omega
    · exact dg_lt k _ d h
theorem dg_vd : ∀ k n, n < 4 ^ k → vd 4 (dg k n) = n
  | 0, n, h => by rw [Nat.pow_zero] at h; show 0 = n; omega
  | k + 1, n, h => by
    rw [dg, vd, dg_vd k (n / 4) (by rw [Nat.pow_succ] at h; omega)]
    omega
def sumN : List Nat → Nat
  | [] => 0
  | d :: ds => d + sumN ds
theorem prs_sum : ∀ (n : Nat) (es : List Nat), es.length = 2 * n → sumN (prs es) = sumN es
  | 0, es, h => by
    cases es with
    | nil => rfl
    | cons a t => simp at h
  | n + 1, [], h => by simp at h
  | n + 1, [a], h => by simp at h; omega
  | n + 1, a :: b :: t, h => by
    have ih := prs_sum n t (by simp at h; omega)
    rw [prs, sumN, sumN, sumN, ih]
    omega
theorem prs_len : ∀ (n : Nat) (es : List Nat), es.length = 2 * n → (prs es).length = n
  | 0, es, h => by
    cases es with
    | nil => rfl
    | cons a t => simp at h
  | n + 1, [], h => by simp at h
  | n + 1, [a], h => by simp at h; omega
  | n + 1, a :: b :: t, h => by
    rw [prs, List.length_cons, prs_len n t (by simp at h; omega)]
theorem prs_le {c : Nat} : ∀ (n : Nat) (es : List Nat), es.length = 2 * n → (∀ d ∈ es, d ≤ c) → ∀ d ∈ prs es, d ≤ 2 * c
  | 0, es, h, _ => by
    cases es with
    | nil => intro d hd; cases hd
    | cons a t => simp at h
  | n + 1, [], h, _ => by simp at h
  | n + 1, [a], h, _ => by simp at h; omega
  | n + 1, a :: b :: t, h, hc => by
    intro d hd
    rw [prs] at hd
    have ha := hc a List.mem_cons_self
    have hb := hc b (List.mem_cons_of_mem _ List.mem_cons_self)
    rcases List.mem_cons.mp hd with rfl | hd
    · omega
    · exact prs_le n t (by simp at h; omega) (fun x hx => hc x (List.mem_cons_of_mem _ (List.mem_cons_of_mem _ hx))) d hd
theorem dg_cnt : ∀ (k n a : Nat), n < 2 ^ 64 → sumN ((dg k (n / 2 ^ a)).map fun d => d - d / 2) = cb (lN n) a (2 * k)
  | 0, _, _, _ => rfl
  | k + 1, n, a, hn => by
    have ih := dg_cnt k n (a + 2) hn
    rw [show 2 * (k + 1) = 2 * k + 1 + 1 by omega, cb, cb, dg, List.map_cons, sumN, show n / 2 ^ a / 4 = n / 2 ^ (a + 2) by rw [Nat.div_div_eq_div_mul, Nat.pow_add], ih, lb_lN hn, lb_lN hn, Nat.testBit_eq_decide_div_mod_eq, Nat.testBit_eq_decide_div_mod_eq, show n / 2 ^ (a + 1) = n / 2 ^ a / 2 by rw [Nat.div_div_eq_div_mul, Nat.pow_succ], show a + 1 + 1 = a + 2 by omega]
    generalize n / 2 ^ a = z
    by_cases h1 : z % 2 = 1 <;> by_cases h2 : z / 2 % 2 = 1 <;> simp [h1, h2] <;> omega
theorem dv {lo h B v : Nat} (hB : 0 < B) (hl : lo < B) (hv : v = lo + B * h) : v / B = h := by
  rw [hv, Nat.add_mul_div_left _ _ hB, Nat.div_eq_of_lt hl, Nat.zero_add]
theorem pc4 {g0 g1 g2 g3 g4 g5 g6 g7 v s4 s5 s6 : Nat} (h0 : g0 ≤ 8) (h1 : g1 ≤ 8) (h2 : g2 ≤ 8) (h3 : g3 ≤ 8) (h4 : g4 ≤ 8) (h5 : g5 ≤ 8) (h6 : g6 ≤ 8) (h7 : g7 ≤ 8)
    (hv : v = g0 + 256 * (g1 + 256 * (g2 + 256 * (g3 + 256 * (g4 + 256 * (g5 + 256 * (g6 + 256 * g7))))))) (e4 : s4 = v + v / 256) (e5 : s5 = s4 + s4 / 65536) (e6 : s6 = s5 + s5 / 4294967296) : s6 < 2 ^ 64 ∧ s6 % 128 = g0 + (g1 + (g2 + (g3 + (g4 + (g5 + (g6 + g7)))))) := by
  have d4 := dv (B := 256) (by decide) (show g0 < 256 by omega) hv
  rw [d4] at e4
  have f4 : s4 = ((g0 + g1) + 256 * (g1 + g2)) + 65536 * ((g2 + g3) + 256 * ((g3 + g4) + 256 * ((g4 + g5) + 256 * ((g5 + g6) + 256 * ((g6 + g7) + 256 * g7))))) := by
    rw [e4, hv]
    clear e4 e5 e6 d4 hv
    omega
  have d5 := dv (B := 65536) (by decide) (show (g0 + g1) + 256 * (g1 + g2) < 65536 by omega) f4
  rw [d5] at e5
  have f5 : s5 = ((g0 + g1 + g2 + g3) + 256 * (g1 + g2 + g3 + g4) + 65536 * (g2 + g3 + g4 + g5) + 16777216 * (g3 + g4 + g5 + g6)) + 4294967296 * ((g4 + g5 + g6 + g7) + 256 * (g5 + g6 + g7) + 65536 * (g6 + g7) + 16777216 * g7) := by
    rw [e5, f4]
    clear e4 e5 e6 d4 hv f4 d5
    omega
  have d6 := dv (B := 4294967296) (by decide) (show (g0 + g1 + g2 + g3) + 256 * (g1 + g2 + g3 + g4) + 65536 * (g2 + g3 + g4 + g5) + 16777216 * (g3 + g4 + g5 + g6) < 4294967296 by omega) f5
  rw [d6] at e6
  have f6 : s6 = (g0 + (g1 + (g2 + (g3 + (g4 + (g5 + (g6 + g7))))))) + 128 * (2 * ((g1 + g2 + g3 + g4 + (g5 + g6 + g7)) + 256 * (g2 + g3 + g4 + g5 + (g6 + g7)) + 65536 * (g3 + g4 + g5 + g6 + g7) + 16777216 * ((g4 + g5 + g6 + g7) + 256 * (g5 + g6 + g7) + 65536 * (g6 + g7) + 16777216 * g7))) := by
    rw [e6, f5]
    clear e4 e5 e6 d4 hv f4 d5 f5 d6
    omega
  clear e4 e5 e6 d4 hv f4 d5 f5 d6
  constructor
  · omega
  · rw [f6, Nat.add_mul_mod_self_left, Nat.mod_eq_of_lt (by omega)]
theorem list8 {l : List Nat} (h : l.length = 8) : ∃ g0 g1 g2 g3 g4 g5 g6 g7, l = [g0, g1, g2, g3, g4, g5, g6, g7] := by
  match l, h with
  | [g0, g1, g2, g3, g4, g5, g6, g7], _ => exact ⟨g0, g1, g2, g3, g4, g5, g6, g7, rfl⟩
theorem jushr_lN {n k : Nat} (hn : n < 2 ^ 64) (hk : k < 64) : jushr (lN n) (nI k) = lN (n / 2 ^ k) := wb_shr hn hk
theorem bitCount_v (N : Nat) (x : Int64) : f_J13_bitCount_95d88 N x = some (zI (cb x 0 64)) := by
  obtain ⟨n, hn, rfl⟩ := wb_of x
  have h4 : n < 4 ^ 32 := Nat.lt_of_lt_of_eq hn (by decide)
  have hd := dg_lt 32 n
  have hl := dg_len 32 n
  have hv := dg_vd 32 n h4
  have m5 : vd 4 (rep 1 32) = 6148914691236517205 := by decide +kernel
  have m3 : vd 16 (rep 3 16) = 3689348814741910323 := by decide +kernel
  have mf : vd 256 (rep 15 8) = 1085102592571150095 := by decide +kernel
  have q1 := pc1 (dg 32 n) hd
  rw [hl, hv, m5] at q1
  obtain ⟨q2, q3⟩ := pc1s (dg 32 n)
  rw [hv, ← q1] at q2 q3
  have l1 : ((dg 32 n).map fun d => d - d / 2).length = 2 * 16 := by rw [List.length_map, hl]
  have b1 : ∀ d ∈ (dg 32 n).map fun d => d - d / 2, d ≤ 2 := by
    intro d h
    obtain ⟨z, hz, rfl⟩ := List.mem_map.mp h
    have := hd z hz
    show z - z / 2 ≤ 2
    omega
  have q4 := pc2 16 _ l1 (fun d h => by have := b1 d h; omega)
  rw [← q3, m3] at q4
  have l2 := prs_len 16 _ l1
  have b2 := prs_le 16 _ l1 b1
  have q5 := pc3 8 _ l2 b2
  rw [← q4, mf] at q5
  have l3 := prs_len 8 _ l2
  have b3 := prs_le 8 _ l2 b2
  have s0 := dg_cnt 32 n 0 hn
  rw [Nat.pow_zero, Nat.div_one] at s0
  have s1 : sumN (prs (prs ((dg 32 n).map fun d => d - d / 2))) = cb (lN n) 0 64 := by
    rw [prs_sum 8 _ l2, prs_sum 16 _ l1, s0]
  obtain ⟨g0, g1, g2, g3, g4, g5, g6, g7, hg⟩ := list8 l3
  rw [hg] at q5 s1 b3
  have v8 : vd 256 [g0, g1, g2, g3, g4, g5, g6, g7] = g0 + 256 * (g1 + 256 * (g2 + 256 * (g3 + 256 * (g4 + 256 * (g5 + 256 * (g6 + 256 * g7)))))) := by simp [vd]
  have s8 : sumN [g0, g1, g2, g3, g4, g5, g6, g7] = g0 + (g1 + (g2 + (g3 + (g4 + (g5 + (g6 + g7)))))) := by simp [sumN]
  obtain ⟨r1, r2⟩ := pc4 (b3 g0 (by simp)) (b3 g1 (by simp)) (b3 g2 (by simp)) (b3 g3 (by simp)) (b3 g4 (by simp)) (b3 g5 (by simp)) (b3 g6 (by simp)) (b3 g7 (by simp)) (q5.trans v8) rfl rfl rfl
  rw [← s8, s1] at r2
  -- the machine's own numbers
  have t1 : lN n - (jushr (lN n) 1 &&& 6148914691236517205) = lN (n - (n / 2 &&& 6148914691236517205)) := by
    rw [show jushr (lN n) 1 = lN (n / 2) from jushr_lN (k := 1) hn (by decide), show (6148914691236517205 : Int64) = lN 6148914691236517205 from rfl, wb_and (by omega) (by decide), lN_sub q2]
  have u1 : n - (n / 2 &&& 6148914691236517205) < 2 ^ 64 := by omega
  generalize n - (n / 2 &&& 6148914691236517205) = n1 at *
  have t2 : (lN n1 &&& 3689348814741910323) + (jushr (lN n1) 2 &&& 3689348814741910323) = lN ((n1 &&& 3689348814741910323) + (n1 / 4 &&& 3689348814741910323)) := by
    rw [show jushr (lN n1) 2 = lN (n1 / 4) from jushr_lN (k := 2) u1 (by decide), show (3689348814741910323 : Int64) = lN 3689348814741910323 from rfl, wb_and u1 (by decide), wb_and (by omega) (by decide), lN_add]
  have u2 : (n1 &&& 3689348814741910323) + (n1 / 4 &&& 3689348814741910323) ≤ 3689348814741910323 + 3689348814741910323 := Nat.add_le_add Nat.and_le_right Nat.and_le_right
  generalize (n1 &&& 3689348814741910323) + (n1 / 4 &&& 3689348814741910323) = n2 at *
  have t3 : (lN n2 + jushr (lN n2) 4) &&& 1085102592571150095 = lN ((n2 + n2 / 16) &&& 1085102592571150095) := by
    rw [show jushr (lN n2) 4 = lN (n2 / 16) from jushr_lN (k := 4) (by omega) (by decide), lN_add, show (1085102592571150095 : Int64) = lN 1085102592571150095 from rfl, wb_and (by omega) (by decide)]
  have u3 : (n2 + n2 / 16) &&& 1085102592571150095 ≤ 1085102592571150095 := Nat.and_le_right
  generalize (n2 + n2 / 16) &&& 1085102592571150095 = n3 at *
  have t4 : lN n3 + jushr (lN n3) 8 = lN (n3 + n3 / 256) := by
    rw [show jushr (lN n3) 8 = lN (n3 / 256) from jushr_lN (k := 8) (by omega) (by decide), lN_add]
  have u4 : n3 + n3 / 256 < 2 ^ 62 := by omega
  have t5 : lN (n3 + n3 / 256) + jushr (lN (n3 + n3 / 256)) 16 = lN (n3 + n3 / 256 + (n3 + n3 / 256) / 65536) := by
    rw [show jushr (lN (n3 + n3 / 256)) 16 = lN ((n3 + n3 / 256) / 65536) from jushr_lN (k := 16) (by omega) (by decide), lN_add]
  generalize n3 + n3 / 256 = n4 at *
  have u5 : n4 + n4 / 65536 < 2 ^ 63 := by omega
  have t6 : lN (n4 + n4 / 65536) + jushr (lN (n4 + n4 / 65536)) 32 = lN (n4 + n4 / 65536 + (n4 + n4 / 65536) / 4294967296) := by
    rw [show jushr (lN (n4 + n4 / 65536)) 32 = lN ((n4 + n4 / 65536) / 4294967296) from jushr_lN (k := 32) (by omega) (by decide), lN_add]
  generalize n4 + n4 / 65536 = n5 at *
  have t7 : (lN (n5 + n5 / 4294967296)).toInt32 &&& 127 = zI (cb (lN n) 0 64) := by
    rw [← r2, zI_nI]
    generalize n5 + n5 / 4294967296 = n6 at *
    apply Int32.toBitVec_inj.mp
    apply BitVec.eq_of_toNat_eq
    rw [show lN n6 = zL (n6 : Int) from rfl, zL_toI, zI_nI, Int32.toBitVec_and, BitVec.toNat_and, show (127 : Int32).toBitVec.toNat = 2 ^ 7 - 1 from rfl, Nat.and_two_pow_sub_one_eq_mod]
    show n6 % 2 ^ 32 % 2 ^ 7 = n6 % 128 % 2 ^ 32
    omega
  rw [f_J13_bitCount_95d88, t1, t2, t3, t4, t5, t6, t7]
