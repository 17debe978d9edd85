theorem kt_1 {w : Cond} (i : Nat) (h : tables_1_1[i]? = some w) : w ∈ lw_tbl := List.mem_append_right _ (by have hm := List.mem_of_getElem? h; exact (List.mem_append_left _ hm))
theorem kt_2 {w : Cond} (i : Nat) (h : tables_1_2[i]? = some w) : w ∈ lw_tbl := List.mem_append_right _ (by have hm := List.mem_of_getElem? h; exact (List.mem_append_right _ (List.mem_append_left _ hm)))
theorem kt_3 {w : Cond} (i : Nat) (h : tables_1_3[i]? = some w) : w ∈ lw_tbl := List.mem_append_right _ (by have hm := List.mem_of_getElem? h; exact (List.mem_append_right _ (List.mem_append_right _ (List.mem_append_left _ hm))))
theorem kt_4 {w : Cond} (i : Nat) (h : tables_1_4[i]? = some w) : w ∈ lw_tbl := List.mem_append_right _ (by have hm := List.mem_of_getElem? h; exact (List.mem_append_right _ (List.mem_append_right _ (List.mem_append_right _ (List.mem_append_left _ hm)))))
theorem kt_5 {w : Cond} (i : Nat) (h : tables_1_5[i]? = some w) : w ∈ lw_tbl := List.mem_append_right _ (by have hm := List.mem_of_getElem? h; exact (List.mem_append_right _ (List.mem_append_right _ (List.mem_append_right _ (List.mem_append_right _ (List.mem_append_left _ hm))))))
theorem kt_6 {w : Cond} (i : Nat) (h : tables_1_6[i]? = some w) : w ∈ lw_tbl := List.mem_append_right _ (by have hm := List.mem_of_getElem? h; exact (List.mem_append_right _ (List.mem_append_right _ (List.mem_append_right _ (List.mem_append_right _ (List.mem_append_right _ (List.mem_append_left _ hm)))))))
theorem kt_7 {w : Cond} (i : Nat) (h : tables_1_7[i]? = some w) : w ∈ lw_tbl := List.mem_append_right _ (by have hm := List.mem_of_getElem? h; exact (List.mem_append_right _ (List.mem_append_right _ (List.mem_append_right _ (List.mem_append_right _ (List.mem_append_right _ (List.mem_append_right _ hm)))))))
theorem sS1 {args : Array Value} {s : State} {t : Term} {n : Nat} {bs : List Int32} {A : Nat → Prop} (hn : n < 2 ^ 31) (hex : (Cond.exactly t "java/lang/String").before args s = true) (hco : (Cond.eq (.field t "java/lang/String" "coder" "B") (.int 0)).before args s = true)
    (har : (Cond.arrayOf (.field t "java/lang/String" "value" "[B") .byte).before args s = true) (hle : (Cond.eq (.length (.field t "java/lang/String" "value" "[B")) (.int (Int32.ofNat n))).before args s = true)
    (hel : ∀ j : Nat, j < n → (Cond.eq (.elem (.field t "java/lang/String" "value" "[B") (.int (Int32.ofNat j))) (.int (bs.getD j 0))).before args s = true) (hA : ∀ a : Nat, a < s.heap.size → ¬ A a) :
    ∃ q : Nat × Nat, t.eval args s none [] s = some (.ref q.1) ∧ va_O "java/lang/String" q.1 A s s.heap ∧ va_OF "java/lang/String" "coder" "B" (.int 0) q.1 A s s.heap ∧ va_OF "java/lang/String" "value" "[B" (.ref q.2) q.1 A s s.heap ∧ va_T .byte q.2 n (fun j => .int (bs.getD j 0)) A s s.heap := by
  obtain ⟨a, c, cA, kA, q1, q2, q3, q4, q5, q6, -⟩ := Cond.exactly_spec (args := args) (first := s) (o := none) (s := s) (idx := []) (t := t) (cls := "java/lang/String") hex
  obtain ⟨v, ht, hT⟩ := va_Tof (f := fun j => .int (bs.getD j 0)) (A := A) hn har (va_eqt hle) (fun j hj => va_eqt (hel j hj)) hA
  exact ⟨(a, v), q1, ⟨cA, q3, q5, by rw [q6]; exact q2, hA a (Array.getElem?_eq_some_iff.mp q3).1⟩, vk_OFof q1 (va_eqt hco) hA, vk_OFof q1 ht hA, hT⟩
theorem sOF {o n d : String} {v v' : Value} {a : Nat} {A : Nat → Prop} {U : State} {H : Heap} (h : va_OF o n d v a A U H) (h' : va_OF o n d v' a A U H) : v = v' := by
  obtain ⟨cf, k, fi, f, cell, g1, g2, g3, g4, g5, g6⟩ := h
  obtain ⟨cf', k', fi', f', cell', g1', g2', g3', g4', g5', g6'⟩ := h'
  cases g1.symm.trans g1'
  cases g3.symm.trans g3'
  exact Option.some.inj (g5.symm.trans g5')
theorem sTT {ty : FieldType} {t N N' : Nat} {f f' : Nat → Value} {A : Nat → Prop} {U : State} {H : Heap} (hN : N < 2 ^ 31) (hN' : N' < 2 ^ 31) (h : va_T ty t N f A U H) (h' : va_T ty t N' f' A U H) : N = N' ∧ ∀ j, j < N → f j = f' j := by
  obtain ⟨cell, g1, g2, g3, g4, g5, g6, g7⟩ := h
  obtain ⟨cell', g1', g2', g3', g4', g5', g6', g7'⟩ := h'
  cases g1.symm.trans g1'
  have e : Int32.ofNat N = Int32.ofNat N' := g5.symm.trans g5'
  have e2 : N = N' := by
    have := congrArg Int32.toNatClampNeg e
    rwa [Int32.toNatClampNeg_ofNat_of_lt hN, Int32.toNatClampNeg_ofNat_of_lt hN'] at this
  refine ⟨e2, fun j hj => ?_⟩
  exact Option.some.inj ((g6 j hj).symm.trans (g6' j (e2 ▸ hj)))
theorem bytS_ne : ∀ i, i < 9 → ∀ j, j < 9 → lenS.getD i 0 = lenS.getD j 0 → (∀ k, k < lenS.getD i 0 → (bytS.getD i []).getD k 0 = (bytS.getD j []).getD k 0) → i = j := by decide +kernel
theorem kA1 {args : Array Value} {s : State} {ty : FieldType} (h : (Cond.arrayClass ty).before args s = true) (hra : ∀ cA : ClassId, s.vm.findClass ("[" ++ ty.toString) = some cA → va_RA s cA ty) : ∃ cA : ClassId, ArrOfT s cA ty ∧ va_RA s cA ty := by
  obtain ⟨c, k, comp, h1, h2, h3⟩ := Cond.arrayClass_spec h
  exact ⟨c, fun n z => ⟨(fun k h => by cases h), k, h2, comp, h3⟩, hra c h1⟩
theorem kA2 {args : Array Value} {s : State} {C : String} (h : (Cond.arrayOver (.object C)).before args s = true) : ∃ cA : ClassId, ArrOfT s cA (.object C) ∧ va_RA s cA (.object C) := by
  obtain ⟨comp, c, k, h1, h2, h3, h4, h5⟩ := Cond.arrayOver_spec h
  exact ⟨c, fun n z => ⟨(fun k h => by cases h), k, h3, comp, h4⟩, k, comp, h3, h4, h1, h5⟩
set_option maxRecDepth 100000 in
set_option maxHeartbeats 4000000 in
theorem k_start {s : State} {args : Array Value} (hg : ∀ w ∈ lw_g, w.before args s = true) (hT : ∀ w ∈ lw_tbl, w.before args s = true) : ∃ (G1 : Nat → ClassId) (G2 : Nat → Nat → Nat) (G3 : Nat → ClassId), va_K (G1, G2) vwCl (tyL G3) s := by
  obtain ⟨c0, i0, k0⟩ := u_known (C := RX0) (T := TX0) (N := 2) (n := 2) hg kl_X0 (hg _ kq1_37)
  obtain ⟨c1, i1, k1⟩ := u_known (C := RX3) (T := TX3) (N := 12) (n := 12) hg kl_X3 (hg _ kq1_127)
  obtain ⟨c2, i2, k2⟩ := u_known (C := RX4) (T := TX4) (N := 18) (n := 18) hg kl_X4 (hg _ kq1_31)
  obtain ⟨c3, i3, k3⟩ := u_known (C := RX5) (T := TX5) (N := 11) (n := 11) hg kl_X5 (hg _ kq1_23)
  obtain ⟨c4, i4, k4⟩ := u_known (C := RX6) (T := TX6) (N := 22) (n := 22) hg kl_X6 (hg _ kq4_228)
  obtain ⟨b0, r0, s0⟩ := kA1 (ty := .byte) (hg _ kq1_178) (fun _ h => h)
  obtain ⟨b1, r1, s1⟩ := kA1 (ty := .int) (hg _ kq1_50) (fun _ h => h)
  obtain ⟨b2, r2, s2⟩ := kA1 (ty := .long) (hg _ kq1_51) (fun _ h => h)
  obtain ⟨b3, r3, s3⟩ := kA1 (ty := .boolean) (hg _ kq1_177) (fun _ h => h)
  obtain ⟨b4, r4, s4⟩ := kA2 (C := RX4) (hT _ (kt_1 125 (by decide +kernel)))
  obtain ⟨b5, r5, s5⟩ := kA1 (ty := .double) (hg _ kq6_231) (fun _ h => h)
  refine ⟨fun k => match k with | 0 => c0 | 1 => c1 | 2 => c2 | 3 => c3 | _ => c4, fun k => match k with | 0 => i0 | 1 => i1 | 2 => i2 | 3 => i3 | _ => i4, fun k => match k with | 0 => b0 | 1 => b1 | 2 => b2 | 3 => b3 | 4 => b4 | _ => b5, ?_, ?_⟩
  · intro k q hq
    match k, hq with
    | 0, hq => cases hq; exact k0
    | 1, hq => cases hq; exact k1
    | 2, hq => cases hq; exact k2
    | 3, hq => cases hq; exact k3
    | 4, hq => cases hq; exact k4
    | k + 5, hq => simp [vwCl] at hq
  · intro k q hq
    match k, hq with
    | 0, hq => cases hq; exact ⟨r0, s0⟩
    | 1, hq => cases hq; exact ⟨r1, s1⟩
    | 2, hq => cases hq; exact ⟨r2, s2⟩
    | 3, hq => cases hq; exact ⟨r3, s3⟩
    | 4, hq => cases hq; exact ⟨r4, s4⟩
    | 5, hq => cases hq; exact ⟨r5, s5⟩
    | k + 6, hq => simp [tyL] at hq
set_option maxRecDepth 100000 in
set_option maxHeartbeats 4000000 in
theorem z_0 {s : State} {args : Array Value} (hg : ∀ w ∈ lw_g, w.before args s = true) (hT : ∀ w ∈ lw_tbl, w.before args s = true) (hN : ∀ (i : Nat) (c : Cond), (flatC (Cond.and given_1 narrow_1))[i]? = some c → c.before args s = true) {A : Nat → Prop} (hA : ∀ a : Nat, a < s.heap.size → ¬ A a) : ∃ t : Nat, va_Z "RadioClock$Code" "BLOCK_ENDS" "[I" (.ref t) A s s.heap ∧ va_T .int t 3 (fun j => .int (aEn j)) A s s.heap := by
  have hel : ∀ j : Nat, j < 3 → (Term.elem (.static "RadioClock$Code" "BLOCK_ENDS" "[I") (.int (Int32.ofNat j))).eval args s none [] s = some (.int (aEn j)) := by
    intro j hj
    match j, hj with
    | 0, _ => exact va_eqt (hN 7 _ (by decide +kernel))
    | 1, _ => exact va_eqt (hN 8 _ (by decide +kernel))
    | 2, _ => exact va_eqt (hN 9 _ (by decide +kernel))
    | k + 3, hj => exact absurd hj (by omega)
  obtain ⟨t, ht, hv⟩ := va_Tof (tm := .static "RadioClock$Code" "BLOCK_ENDS" "[I") (ty := .int) (N := 3) (f := fun j => .int (aEn j)) (A := A) (by decide) (hN 5 _ (by decide +kernel)) (va_eqt (hN 6 _ (by decide +kernel))) hel hA
  exact ⟨t, va_Zof (hT _ (kt_2 27 (by decide +kernel))) (hg _ kq1_17) ht hA, hv⟩
set_option maxRecDepth 100000 in
set_option maxHeartbeats 4000000 in
theorem z_1 {s : State} {args : Array Value} (hg : ∀ w ∈ lw_g, w.before args s = true) (hT : ∀ w ∈ lw_tbl, w.before args s = true) (hN : ∀ (i : Nat) (c : Cond), (flatC (Cond.and given_1 narrow_1))[i]? = some c → c.before args s = true) {A : Nat → Prop} (hA : ∀ a : Nat, a < s.heap.size → ¬ A a) : ∃ t : Nat, va_Z "RadioClock$Code" "BLOCK_STARTS" "[I" (.ref t) A s s.heap ∧ va_T .int t 3 (fun j => .int (aSt j)) A s s.heap := by
  have hel : ∀ j : Nat, j < 3 → (Term.elem (.static "RadioClock$Code" "BLOCK_STARTS" "[I") (.int (Int32.ofNat j))).eval args s none [] s = some (.int (aSt j)) := by
    intro j hj
    match j, hj with
    | 0, _ => exact va_eqt (hN 13 _ (by decide +kernel))
    | 1, _ => exact va_eqt (hN 14 _ (by decide +kernel))
    | 2, _ => exact va_eqt (hN 15 _ (by decide +kernel))
    | k + 3, hj => exact absurd hj (by omega)
  obtain ⟨t, ht, hv⟩ := va_Tof (tm := .static "RadioClock$Code" "BLOCK_STARTS" "[I") (ty := .int) (N := 3) (f := fun j => .int (aSt j)) (A := A) (by decide) (hN 11 _ (by decide +kernel)) (va_eqt (hN 12 _ (by decide +kernel))) hel hA
  exact ⟨t, va_Zof (hT _ (kt_2 29 (by decide +kernel))) (hg _ kq1_17) ht hA, hv⟩
set_option maxRecDepth 100000 in
set_option maxHeartbeats 4000000 in
theorem z_2 {s : State} {args : Array Value} (hg : ∀ w ∈ lw_g, w.before args s = true) (hT : ∀ w ∈ lw_tbl, w.before args s = true) (hN : ∀ (i : Nat) (c : Cond), (flatC (Cond.and given_1 narrow_1))[i]? = some c → c.before args s = true) {A : Nat → Prop} (hA : ∀ a : Nat, a < s.heap.size → ¬ A a) : ∃ t : Nat, va_Z "RadioClock$Calendar" "DAYS_AHEAD_OF_MONTH" "[I" (.ref t) A s s.heap ∧ va_T .int t 13 (fun j => .int (aDy j)) A s s.heap := by
  have hel : ∀ j : Nat, j < 13 → (Term.elem (.static "RadioClock$Calendar" "DAYS_AHEAD_OF_MONTH" "[I") (.int (Int32.ofNat j))).eval args s none [] s = some (.int (aDy j)) := by
    intro j hj
    match j, hj with
    | 0, _ => exact va_eqt (hN 19 _ (by decide +kernel))
    | 1, _ => exact va_eqt (hN 20 _ (by decide +kernel))
    | 2, _ => exact va_eqt (hN 21 _ (by decide +kernel))
    | 3, _ => exact va_eqt (hN 22 _ (by decide +kernel))
    | 4, _ => exact va_eqt (hN 23 _ (by decide +kernel))
    | 5, _ => exact va_eqt (hN 24 _ (by decide +kernel))
    | 6, _ => exact va_eqt (hN 25 _ (by decide +kernel))
    | 7, _ => exact va_eqt (hN 26 _ (by decide +kernel))
    | 8, _ => exact va_eqt (hN 27 _ (by decide +kernel))
    | 9, _ => exact va_eqt (hN 28 _ (by decide +kernel))
    | 10, _ => exact va_eqt (hN 29 _ (by decide +kernel))
    | 11, _ => exact va_eqt (hN 30 _ (by decide +kernel))
    | 12, _ => exact va_eqt (hN 31 _ (by decide +kernel))
    | k + 13, hj => exact absurd hj (by omega)
  obtain ⟨t, ht, hv⟩ := va_Tof (tm := .static "RadioClock$Calendar" "DAYS_AHEAD_OF_MONTH" "[I") (ty := .int) (N := 13) (f := fun j => .int (aDy j)) (A := A) (by decide) (hN 17 _ (by decide +kernel)) (va_eqt (hN 18 _ (by decide +kernel))) hel hA
  exact ⟨t, va_Zof (hT _ (kt_2 50 (by decide +kernel))) (hg _ kq1_19) ht hA, hv⟩
set_option maxRecDepth 100000 in
set_option maxHeartbeats 4000000 in
theorem z_3 {s : State} {args : Array Value} (hg : ∀ w ∈ lw_g, w.before args s = true) (hT : ∀ w ∈ lw_tbl, w.before args s = true) (hN : ∀ (i : Nat) (c : Cond), (flatC (Cond.and given_1 narrow_1))[i]? = some c → c.before args s = true) {A : Nat → Prop} (hA : ∀ a : Nat, a < s.heap.size → ¬ A a) : ∃ t : Nat, va_Z "RadioClock" "LEAST_SETTINGS" "[I" (.ref t) A s s.heap ∧ va_T .int t 5 (fun j => .int (aLe j)) A s s.heap := by
  have hel : ∀ j : Nat, j < 5 → (Term.elem (.static "RadioClock" "LEAST_SETTINGS" "[I") (.int (Int32.ofNat j))).eval args s none [] s = some (.int (aLe j)) := by
    intro j hj
    match j, hj with
    | 0, _ => exact va_eqt (hN 42 _ (by decide +kernel))
    | 1, _ => exact va_eqt (hN 43 _ (by decide +kernel))
    | 2, _ => exact va_eqt (hN 44 _ (by decide +kernel))
    | 3, _ => exact va_eqt (hN 45 _ (by decide +kernel))
    | 4, _ => exact va_eqt (hN 46 _ (by decide +kernel))
    | k + 5, hj => exact absurd hj (by omega)
  obtain ⟨t, ht, hv⟩ := va_Tof (tm := .static "RadioClock" "LEAST_SETTINGS" "[I") (ty := .int) (N := 5) (f := fun j => .int (aLe j)) (A := A) (by decide) (hN 40 _ (by decide +kernel)) (va_eqt (hN 41 _ (by decide +kernel))) hel hA
  exact ⟨t, va_Zof (hT _ (kt_3 94 (by decide +kernel))) (hg _ kq1_1) ht hA, hv⟩
set_option maxRecDepth 100000 in
set_option maxHeartbeats 4000000 in
theorem z_4 {s : State} {args : Array Value} (hg : ∀ w ∈ lw_g, w.before args s = true) (hT : ∀ w ∈ lw_tbl, w.before args s = true) (hN : ∀ (i : Nat) (c : Cond), (flatC (Cond.and given_1 narrow_1))[i]? = some c → c.before args s = true) {A : Nat → Prop} (hA : ∀ a : Nat, a < s.heap.size → ¬ A a) : ∃ t : Nat, va_Z "RadioClock" "GREATEST_SETTINGS" "[I" (.ref t) A s s.heap ∧ va_T .int t 5 (fun j => .int (aGr j)) A s s.heap := by
  have hel : ∀ j : Nat, j < 5 → (Term.elem (.static "RadioClock" "GREATEST_SETTINGS" "[I") (.int (Int32.ofNat j))).eval args s none [] s = some (.int (aGr j)) := by
    intro j hj
    match j, hj with
    | 0, _ => exact va_eqt (hN 50 _ (by decide +kernel))
    | 1, _ => exact va_eqt (hN 51 _ (by decide +kernel))
    | 2, _ => exact va_eqt (hN 52 _ (by decide +kernel))
    | 3, _ => exact va_eqt (hN 53 _ (by decide +kernel))
    | 4, _ => exact va_eqt (hN 54 _ (by decide +kernel))
    | k + 5, hj => exact absurd hj (by omega)
  obtain ⟨t, ht, hv⟩ := va_Tof (tm := .static "RadioClock" "GREATEST_SETTINGS" "[I") (ty := .int) (N := 5) (f := fun j => .int (aGr j)) (A := A) (by decide) (hN 48 _ (by decide +kernel)) (va_eqt (hN 49 _ (by decide +kernel))) hel hA
  exact ⟨t, va_Zof (hT _ (kt_3 96 (by decide +kernel))) (hg _ kq1_1) ht hA, hv⟩
set_option maxRecDepth 100000 in
set_option maxHeartbeats 4000000 in
theorem x_0 {s : State} {args : Array Value} (hg : ∀ w ∈ lw_g, w.before args s = true) (hT : ∀ w ∈ lw_tbl, w.before args s = true) (hN : ∀ (i : Nat) (c : Cond), (flatC (Cond.and given_1 narrow_1))[i]? = some c → c.before args s = true) {A : Nat → Prop} (hA : ∀ a : Nat, a < s.heap.size → ¬ A a) : ∃ q : Nat × Nat, (Term.string RX3 81).eval args s none [] s = some (.ref q.1) ∧ va_O "java/lang/String" q.1 A s s.heap ∧ va_OF "java/lang/String" "coder" "B" (.int 0) q.1 A s s.heap ∧ va_OF "java/lang/String" "value" "[B" (.ref q.2) q.1 A s s.heap ∧ va_T .byte q.2 9 (fun j => .int ((bytS.getD 0 []).getD j 0)) A s s.heap := by
  refine sS1 (bs := bytS.getD 0 []) (by decide) (hN 147 _ (by decide +kernel)) (hN 148 _ (by decide +kernel)) (hN 149 _ (by decide +kernel)) (hN 150 _ (by decide +kernel)) (fun j hj => ?_) hA
  match j, hj with
  | 0, _ => exact (hN 151 _ (by decide +kernel))
  | 1, _ => exact (hN 152 _ (by decide +kernel))
  | 2, _ => exact (hN 153 _ (by decide +kernel))
  | 3, _ => exact (hN 154 _ (by decide +kernel))
  | 4, _ => exact (hN 155 _ (by decide +kernel))
  | 5, _ => exact (hN 156 _ (by decide +kernel))
  | 6, _ => exact (hN 157 _ (by decide +kernel))
  | 7, _ => exact (hN 158 _ (by decide +kernel))
  | 8, _ => exact (hN 159 _ (by decide +kernel))
  | k + 9, hj => exact absurd hj (by omega)
set_option maxRecDepth 100000 in
set_option maxHeartbeats 4000000 in
theorem x_1 {s : State} {args : Array Value} (hg : ∀ w ∈ lw_g, w.before args s = true) (hT : ∀ w ∈ lw_tbl, w.before args s = true) (hN : ∀ (i : Nat) (c : Cond), (flatC (Cond.and given_1 narrow_1))[i]? = some c → c.before args s = true) {A : Nat → Prop} (hA : ∀ a : Nat, a < s.heap.size → ¬ A a) : ∃ q : Nat × Nat, (Term.string RX3 87).eval args s none [] s = some (.ref q.1) ∧ va_O "java/lang/String" q.1 A s s.heap ∧ va_OF "java/lang/String" "coder" "B" (.int 0) q.1 A s s.heap ∧ va_OF "java/lang/String" "value" "[B" (.ref q.2) q.1 A s s.heap ∧ va_T .byte q.2 6 (fun j => .int ((bytS.getD 1 []).getD j 0)) A s s.heap := by
  refine sS1 (bs := bytS.getD 1 []) (by decide) (hN 160 _ (by decide +kernel)) (hN 161 _ (by decide +kernel)) (hN 162 _ (by decide +kernel)) (hN 163 _ (by decide +kernel)) (fun j hj => ?_) hA
  match j, hj with
  | 0, _ => exact (hN 164 _ (by decide +kernel))
  | 1, _ => exact (hN 165 _ (by decide +kernel))
  | 2, _ => exact (hN 166 _ (by decide +kernel))
  | 3, _ => exact (hN 167 _ (by decide +kernel))
  | 4, _ => exact (hN 168 _ (by decide +kernel))
  | 5, _ => exact (hN 169 _ (by decide +kernel))
  | k + 6, hj => exact absurd hj (by omega)
set_option maxRecDepth 100000 in
set_option maxHeartbeats 4000000 in
theorem x_2 {s : State} {args : Array Value} (hg : ∀ w ∈ lw_g, w.before args s = true) (hT : ∀ w ∈ lw_tbl, w.before args s = true) (hN : ∀ (i : Nat) (c : Cond), (flatC (Cond.and given_1 narrow_1))[i]? = some c → c.before args s = true) {A : Nat → Prop} (hA : ∀ a : Nat, a < s.heap.size → ¬ A a) : ∃ q : Nat × Nat, (Term.string RX3 89).eval args s none [] s = some (.ref q.1) ∧ va_O "java/lang/String" q.1 A s s.heap ∧ va_OF "java/lang/String" "coder" "B" (.int 0) q.1 A s s.heap ∧ va_OF "java/lang/String" "value" "[B" (.ref q.2) q.1 A s s.heap ∧ va_T .byte q.2 6 (fun j => .int ((bytS.getD 2 []).getD j 0)) A s s.heap := by
  refine sS1 (bs := bytS.getD 2 []) (by decide) (hN 170 _ (by decide +kernel)) (hN 171 _ (by decide +kernel)) (hN 172 _ (by decide +kernel)) (hN 173 _ (by decide +kernel)) (fun j hj => ?_) hA
  match j, hj with
  | 0, _ => exact (hN 174 _ (by decide +kernel))
  | 1, _ => exact (hN 175 _ (by decide +kernel))
  | 2, _ => exact (hN 176 _ (by decide +kernel))
  | 3, _ => exact (hN 177 _ (by decide +kernel))
  | 4, _ => exact (hN 178 _ (by decide +kernel))
  | 5, _ => exact (hN 179 _ (by decide +kernel))
  | k + 6, hj => exact absurd hj (by omega)
set_option maxRecDepth 100000 in
set_option maxHeartbeats 4000000 in
theorem x_3 {s : State} {args : Array Value} (hg : ∀ w ∈ lw_g, w.before args s = true) (hT : ∀ w ∈ lw_tbl, w.before args s = true) (hN : ∀ (i : Nat) (c : Cond), (flatC (Cond.and given_1 narrow_1))[i]? = some c → c.before args s = true) {A : Nat → Prop} (hA : ∀ a : Nat, a < s.heap.size → ¬ A a) : ∃ q : Nat × Nat, (Term.string RX3 91).eval args s none [] s = some (.ref q.1) ∧ va_O "java/lang/String" q.1 A s s.heap ∧ va_OF "java/lang/String" "coder" "B" (.int 0) q.1 A s s.heap ∧ va_OF "java/lang/String" "value" "[B" (.ref q.2) q.1 A s s.heap ∧ va_T .byte q.2 4 (fun j => .int ((bytS.getD 3 []).getD j 0)) A s s.heap := by
  refine sS1 (bs := bytS.getD 3 []) (by decide) (hN 180 _ (by decide +kernel)) (hN 181 _ (by decide +kernel)) (hN 182 _ (by decide +kernel)) (hN 183 _ (by decide +kernel)) (fun j hj => ?_) hA
  match j, hj with
  | 0, _ => exact (hN 184 _ (by decide +kernel))
  | 1, _ => exact (hN 185 _ (by decide +kernel))
  | 2, _ => exact (hN 186 _ (by decide +kernel))
  | 3, _ => exact (hN 187 _ (by decide +kernel))
  | k + 4, hj => exact absurd hj (by omega)
set_option maxRecDepth 100000 in
set_option maxHeartbeats 4000000 in
theorem x_4 {s : State} {args : Array Value} (hg : ∀ w ∈ lw_g, w.before args s = true) (hT : ∀ w ∈ lw_tbl, w.before args s = true) (hN : ∀ (i : Nat) (c : Cond), (flatC (Cond.and given_1 narrow_1))[i]? = some c → c.before args s = true) {A : Nat → Prop} (hA : ∀ a : Nat, a < s.heap.size → ¬ A a) : ∃ q : Nat × Nat, (Term.string RX3 93).eval args s none [] s = some (.ref q.1) ∧ va_O "java/lang/String" q.1 A s s.heap ∧ va_OF "java/lang/String" "coder" "B" (.int 0) q.1 A s s.heap ∧ va_OF "java/lang/String" "value" "[B" (.ref q.2) q.1 A s s.heap ∧ va_T .byte q.2 5 (fun j => .int ((bytS.getD 4 []).getD j 0)) A s s.heap := by
  refine sS1 (bs := bytS.getD 4 []) (by decide) (hN 188 _ (by decide +kernel)) (hN 189 _ (by decide +kernel)) (hN 190 _ (by decide +kernel)) (hN 191 _ (by decide +kernel)) (fun j hj => ?_) hA
  match j, hj with
  | 0, _ => exact (hN 192 _ (by decide +kernel))
  | 1, _ => exact (hN 193 _ (by decide +kernel))
  | 2, _ => exact (hN 194 _ (by decide +kernel))
  | 3, _ => exact (hN 195 _ (by decide +kernel))
  | 4, _ => exact (hN 196 _ (by decide +kernel))
  | k + 5, hj => exact absurd hj (by omega)
set_option maxRecDepth 100000 in
set_option maxHeartbeats 4000000 in
theorem x_5 {s : State} {args : Array Value} (hg : ∀ w ∈ lw_g, w.before args s = true) (hT : ∀ w ∈ lw_tbl, w.before args s = true) (hN : ∀ (i : Nat) (c : Cond), (flatC (Cond.and given_1 narrow_1))[i]? = some c → c.before args s = true) {A : Nat → Prop} (hA : ∀ a : Nat, a < s.heap.size → ¬ A a) : ∃ q : Nat × Nat, (Term.string RX3 95).eval args s none [] s = some (.ref q.1) ∧ va_O "java/lang/String" q.1 A s s.heap ∧ va_OF "java/lang/String" "coder" "B" (.int 0) q.1 A s s.heap ∧ va_OF "java/lang/String" "value" "[B" (.ref q.2) q.1 A s s.heap ∧ va_T .byte q.2 5 (fun j => .int ((bytS.getD 5 []).getD j 0)) A s s.heap := by
  refine sS1 (bs := bytS.getD 5 []) (by decide) (hN 197 _ (by decide +kernel)) (hN 198 _ (by decide +kernel)) (hN 199 _ (by decide +kernel)) (hN 200 _ (by decide +kernel)) (fun j hj => ?_) hA
  match j, hj with
  | 0, _ => exact (hN 201 _ (by decide +kernel))
  | 1, _ => exact (hN 202 _ (by decide +kernel))
  | 2, _ => exact (hN 203 _ (by decide +kernel))
  | 3, _ => exact (hN 204 _ (by decide +kernel))
  | 4, _ => exact (hN 205 _ (by decide +kernel))
  | k + 5, hj => exact absurd hj (by omega)
set_option maxRecDepth 100000 in
set_option maxHeartbeats 4000000 in
theorem x_6 {s : State} {args : Array Value} (hg : ∀ w ∈ lw_g, w.before args s = true) (hT : ∀ w ∈ lw_tbl, w.before args s = true) (hN : ∀ (i : Nat) (c : Cond), (flatC (Cond.and given_1 narrow_1))[i]? = some c → c.before args s = true) {A : Nat → Prop} (hA : ∀ a : Nat, a < s.heap.size → ¬ A a) : ∃ q : Nat × Nat, (Term.string RX3 97).eval args s none [] s = some (.ref q.1) ∧ va_O "java/lang/String" q.1 A s s.heap ∧ va_OF "java/lang/String" "coder" "B" (.int 0) q.1 A s s.heap ∧ va_OF "java/lang/String" "value" "[B" (.ref q.2) q.1 A s s.heap ∧ va_T .byte q.2 4 (fun j => .int ((bytS.getD 6 []).getD j 0)) A s s.heap := by
  refine sS1 (bs := bytS.getD 6 []) (by decide) (hN 206 _ (by decide +kernel)) (hN 207 _ (by decide +kernel)) (hN 208 _ (by decide +kernel)) (hN 209 _ (by decide +kernel)) (fun j hj => ?_) hA
  match j, hj with
  | 0, _ => exact (hN 210 _ (by decide +kernel))
  | 1, _ => exact (hN 211 _ (by decide +kernel))
  | 2, _ => exact (hN 212 _ (by decide +kernel))
  | 3, _ => exact (hN 213 _ (by decide +kernel))
  | k + 4, hj => exact absurd hj (by omega)
set_option maxRecDepth 100000 in
set_option maxHeartbeats 4000000 in
theorem x_7 {s : State} {args : Array Value} (hg : ∀ w ∈ lw_g, w.before args s = true) (hT : ∀ w ∈ lw_tbl, w.before args s = true) (hN : ∀ (i : Nat) (c : Cond), (flatC (Cond.and given_1 narrow_1))[i]? = some c → c.before args s = true) {A : Nat → Prop} (hA : ∀ a : Nat, a < s.heap.size → ¬ A a) : ∃ q : Nat × Nat, (Term.string RX3 127).eval args s none [] s = some (.ref q.1) ∧ va_O "java/lang/String" q.1 A s s.heap ∧ va_OF "java/lang/String" "coder" "B" (.int 0) q.1 A s s.heap ∧ va_OF "java/lang/String" "value" "[B" (.ref q.2) q.1 A s s.heap ∧ va_T .byte q.2 4 (fun j => .int ((bytS.getD 7 []).getD j 0)) A s s.heap := by
  refine sS1 (bs := bytS.getD 7 []) (by decide) (hN 214 _ (by decide +kernel)) (hN 215 _ (by decide +kernel)) (hN 216 _ (by decide +kernel)) (hN 217 _ (by decide +kernel)) (fun j hj => ?_) hA
  match j, hj with
  | 0, _ => exact (hN 218 _ (by decide +kernel))
  | 1, _ => exact (hN 219 _ (by decide +kernel))
  | 2, _ => exact (hN 220 _ (by decide +kernel))
  | 3, _ => exact (hN 221 _ (by decide +kernel))
  | k + 4, hj => exact absurd hj (by omega)
set_option maxRecDepth 100000 in
set_option maxHeartbeats 4000000 in
theorem x_8 {s : State} {args : Array Value} (hg : ∀ w ∈ lw_g, w.before args s = true) (hT : ∀ w ∈ lw_tbl, w.before args s = true) (hN : ∀ (i : Nat) (c : Cond), (flatC (Cond.and given_1 narrow_1))[i]? = some c → c.before args s = true) {A : Nat → Prop} (hA : ∀ a : Nat, a < s.heap.size → ¬ A a) : ∃ q : Nat × Nat, (Term.string RX3 128).eval args s none [] s = some (.ref q.1) ∧ va_O "java/lang/String" q.1 A s s.heap ∧ va_OF "java/lang/String" "coder" "B" (.int 0) q.1 A s s.heap ∧ va_OF "java/lang/String" "value" "[B" (.ref q.2) q.1 A s s.heap ∧ va_T .byte q.2 4 (fun j => .int ((bytS.getD 8 []).getD j 0)) A s s.heap := by
  refine sS1 (bs := bytS.getD 8 []) (by decide) (hN 222 _ (by decide +kernel)) (hN 223 _ (by decide +kernel)) (hN 224 _ (by decide +kernel)) (hN 225 _ (by decide +kernel)) (fun j hj => ?_) hA
  match j, hj with
  | 0, _ => exact (hN 226 _ (by decide +kernel))
  | 1, _ => exact (hN 227 _ (by decide +kernel))
  | 2, _ => exact (hN 228 _ (by decide +kernel))
  | 3, _ => exact (hN 229 _ (by decide +kernel))
  | k + 4, hj => exact absurd hj (by omega)
theorem sM {args : Array Value} {s : State} {own tx : String} {k : Nat} (h1 : (Cond.stringRef own k tx).before args s = true) (h2 : (Cond.exactly (.string own k) "java/lang/String").before args s = true) : ∃ a : Nat, vk_R own k tx a s := by
  obtain ⟨a, c, cA, kA, q1, q2, q3, q4, q5, q6, -⟩ := Cond.exactly_spec (args := args) (first := s) (o := none) (s := s) (idx := []) (t := .string own k) (cls := "java/lang/String") h2
  exact ⟨a, vk_R.of h1 q1⟩
theorem sEq {args : Array Value} {s : State} {t u : Term} {a : Nat} (h : (Cond.eq t u).before args s = true) (ht : t.eval args s none [] s = some (.ref a)) : u.eval args s none [] s = some (.ref a) := by
  cases hu : u.eval args s none [] s with
  | none => simp [Cond.before, Cond.holds, Cond.value, ht, hu] at h
  | some w =>
    simp only [Cond.before, Cond.holds, Cond.value, ht, hu] at h
    cases w <;> simp_all
set_option maxRecDepth 100000 in
set_option maxHeartbeats 4000000 in
theorem eR_1 {s : State} {args : Array Value} (hg : ∀ w ∈ lw_g, w.before args s = true) (hT : ∀ w ∈ lw_tbl, w.before args s = true) (hN : ∀ (i : Nat) (c : Cond), (flatC (Cond.and given_1 narrow_1))[i]? = some c → c.before args s = true) {adK : Nat → Nat} (hev : ∀ i, i < 9 → (Term.string RX3 ([81, 87, 89, 91, 93, 95, 97, 127, 128].getD i 0)).eval args s none [] s = some (.ref (adK i))) : ∀ q ∈ strW, vk_R q.1 q.2.1 q.2.2.1 (adK q.2.2.2) s := by
  intro q hq
  simp only [strW, List.mem_cons, List.not_mem_nil, or_false] at hq
  rcases hq with rfl | rfl | rfl | rfl | rfl | rfl | rfl | rfl | rfl | rfl | rfl | rfl | rfl | rfl | rfl | rfl | rfl | rfl
  · exact vk_R.of (hT _ (kt_2 234 (by decide +kernel))) (hev 0 (by decide))
  · exact vk_R.of (hT _ (kt_3 47 (by decide +kernel))) (hev 1 (by decide))
  · exact vk_R.of (hT _ (kt_3 48 (by decide +kernel))) (hev 2 (by decide))
  · exact vk_R.of (hT _ (kt_3 49 (by decide +kernel))) (hev 3 (by decide))
  · exact vk_R.of (hT _ (kt_3 50 (by decide +kernel))) (hev 4 (by decide))
  · exact vk_R.of (hT _ (kt_3 51 (by decide +kernel))) (hev 5 (by decide))
  · exact vk_R.of (hT _ (kt_3 52 (by decide +kernel))) (hev 6 (by decide))
  · exact vk_R.of (hT _ (kt_3 87 (by decide +kernel))) (hev 7 (by decide))
  · exact vk_R.of (hT _ (kt_3 88 (by decide +kernel))) (hev 8 (by decide))
  · exact vk_R.of (hT _ (kt_5 184 (by decide +kernel))) (sEq (hN 912 _ (by decide +kernel)) (hev 0 (by decide)))
  · exact vk_R.of (hT _ (kt_5 191 (by decide +kernel))) (sEq (hN 923 _ (by decide +kernel)) (hev 1 (by decide)))
  · exact vk_R.of (hT _ (kt_5 192 (by decide +kernel))) (sEq (hN 934 _ (by decide +kernel)) (hev 2 (by decide)))
  · exact vk_R.of (hT _ (kt_5 193 (by decide +kernel))) (sEq (hN 943 _ (by decide +kernel)) (hev 3 (by decide)))
  · exact vk_R.of (hT _ (kt_5 194 (by decide +kernel))) (sEq (hN 953 _ (by decide +kernel)) (hev 4 (by decide)))
  · exact vk_R.of (hT _ (kt_5 221 (by decide +kernel))) (sEq (hN 963 _ (by decide +kernel)) (hev 5 (by decide)))
  · exact vk_R.of (hT _ (kt_6 65 (by decide +kernel))) (sEq (hN 972 _ (by decide +kernel)) (hev 6 (by decide)))
  · exact vk_R.of (hT _ (kt_6 79 (by decide +kernel))) (sEq (hN 981 _ (by decide +kernel)) (hev 7 (by decide)))
  · exact vk_R.of (hT _ (kt_6 80 (by decide +kernel))) (sEq (hN 990 _ (by decide +kernel)) (hev 8 (by decide)))
set_option maxRecDepth 100000 in
set_option maxHeartbeats 4000000 in
theorem eR_2 {s : State} {args : Array Value} (hg : ∀ w ∈ lw_g, w.before args s = true) (hT : ∀ w ∈ lw_tbl, w.before args s = true) (hN : ∀ (i : Nat) (c : Cond), (flatC (Cond.and given_1 narrow_1))[i]? = some c → c.before args s = true) : ∀ q ∈ strM, ∃ a : Nat, vk_R q.1 q.2.1 q.2.2 a s := by
  intro q hq
  simp only [strM, List.mem_cons, List.not_mem_nil, or_false] at hq
  rcases hq with rfl | rfl | rfl | rfl | rfl | rfl | rfl | rfl | rfl | rfl | rfl | rfl | rfl | rfl | rfl | rfl | rfl | rfl | rfl | rfl | rfl | rfl | rfl | rfl | rfl | rfl | rfl | rfl | rfl | rfl
  · exact sM (hT _ (kt_2 153 (by decide +kernel))) (hN 87 _ (by decide +kernel))
  · exact sM (hT _ (kt_2 200 (by decide +kernel))) (hN 114 _ (by decide +kernel))
  · exact sM (hT _ (kt_3 196 (by decide +kernel))) (hN 230 _ (by decide +kernel))
  · exact sM (hT _ (kt_3 208 (by decide +kernel))) (hN 264 _ (by decide +kernel))
  · exact sM (hT _ (kt_3 213 (by decide +kernel))) (hN 282 _ (by decide +kernel))
  · exact sM (hT _ (kt_3 221 (by decide +kernel))) (hN 298 _ (by decide +kernel))
  · exact sM (hT _ (kt_3 223 (by decide +kernel))) (hN 314 _ (by decide +kernel))
  · exact sM (hT _ (kt_3 224 (by decide +kernel))) (hN 329 _ (by decide +kernel))
  · exact sM (hT _ (kt_4 2 (by decide +kernel))) (hN 356 _ (by decide +kernel))
  · exact sM (hT _ (kt_4 3 (by decide +kernel))) (hN 384 _ (by decide +kernel))
  · exact sM (hT _ (kt_4 12 (by decide +kernel))) (hN 413 _ (by decide +kernel))
  · exact sM (hT _ (kt_4 30 (by decide +kernel))) (hN 446 _ (by decide +kernel))
  · exact sM (hT _ (kt_4 51 (by decide +kernel))) (hN 486 _ (by decide +kernel))
  · exact sM (hT _ (kt_4 56 (by decide +kernel))) (hN 503 _ (by decide +kernel))
  · exact sM (hT _ (kt_4 64 (by decide +kernel))) (hN 532 _ (by decide +kernel))
  · exact sM (hT _ (kt_4 83 (by decide +kernel))) (hN 561 _ (by decide +kernel))
  · exact sM (hT _ (kt_4 97 (by decide +kernel))) (hN 583 _ (by decide +kernel))
  · exact sM (hT _ (kt_4 106 (by decide +kernel))) (hN 600 _ (by decide +kernel))
  · exact sM (hT _ (kt_4 114 (by decide +kernel))) (hN 628 _ (by decide +kernel))
  · exact sM (hT _ (kt_4 115 (by decide +kernel))) (hN 643 _ (by decide +kernel))
  · exact sM (hT _ (kt_4 123 (by decide +kernel))) (hN 668 _ (by decide +kernel))
  · exact sM (hT _ (kt_4 124 (by decide +kernel))) (hN 684 _ (by decide +kernel))
  · exact sM (hT _ (kt_4 134 (by decide +kernel))) (hN 707 _ (by decide +kernel))
  · exact sM (hT _ (kt_4 168 (by decide +kernel))) (hN 731 _ (by decide +kernel))
  · exact sM (hT _ (kt_4 171 (by decide +kernel))) (hN 750 _ (by decide +kernel))
  · exact sM (hT _ (kt_4 179 (by decide +kernel))) (hN 782 _ (by decide +kernel))
  · exact sM (hT _ (kt_4 202 (by decide +kernel))) (hN 810 _ (by decide +kernel))
  · exact sM (hT _ (kt_4 210 (by decide +kernel))) (hN 826 _ (by decide +kernel))
  · exact sM (hT _ (kt_4 218 (by decide +kernel))) (hN 856 _ (by decide +kernel))
  · exact sM (hT _ (kt_4 226 (by decide +kernel))) (hN 872 _ (by decide +kernel))
set_option maxRecDepth 100000 in
set_option maxHeartbeats 4000000 in
theorem eR_3 {s : State} {args : Array Value} (hg : ∀ w ∈ lw_g, w.before args s = true) (hT : ∀ w ∈ lw_tbl, w.before args s = true) (hN : ∀ (i : Nat) (c : Cond), (flatC (Cond.and given_1 narrow_1))[i]? = some c → c.before args s = true) : (∀ E ∈ exL, va_Nw (.castable E E) s) ∧ (∀ E ∈ exL, ∀ F ∈ exL, E ≠ F → va_Nc E F s) := by
  constructor
  · intro E hE
    simp only [exL, List.mem_cons, List.not_mem_nil, or_false] at hE
    rcases hE with rfl | rfl | rfl | rfl
    · exact va_Nw.of rfl (hT _ (kt_2 113 (by decide +kernel)))
    · exact va_Nw.of rfl (hT _ (kt_2 193 (by decide +kernel)))
    · exact va_Nw.of rfl (hT _ (kt_4 23 (by decide +kernel)))
    · exact va_Nw.of rfl (hT _ (kt_4 76 (by decide +kernel)))
  · intro E hE F hF hne
    simp only [exL, List.mem_cons, List.not_mem_nil, or_false] at hE hF
    rcases hE with rfl | rfl | rfl | rfl <;> rcases hF with rfl | rfl | rfl | rfl
    · exact absurd rfl hne
    · exact va_Nc.of (hN 68 _ (by decide +kernel))
    · exact va_Nc.of (hN 76 _ (by decide +kernel))
    · exact va_Nc.of (hN 84 _ (by decide +kernel))
    · exact va_Nc.of (hN 60 _ (by decide +kernel))
    · exact absurd rfl hne
    · exact va_Nc.of (hN 77 _ (by decide +kernel))
    · exact va_Nc.of (hN 85 _ (by decide +kernel))
    · exact va_Nc.of (hN 61 _ (by decide +kernel))
    · exact va_Nc.of (hN 69 _ (by decide +kernel))
    · exact absurd rfl hne
    · exact va_Nc.of (hN 86 _ (by decide +kernel))
    · exact va_Nc.of (hN 62 _ (by decide +kernel))
    · exact va_Nc.of (hN 70 _ (by decide +kernel))
    · exact va_Nc.of (hN 78 _ (by decide +kernel))
    · exact absurd rfl hne
set_option maxRecDepth 100000 in
set_option maxHeartbeats 4000000 in
theorem eR_4 {s : State} {args : Array Value} (hg : ∀ w ∈ lw_g, w.before args s = true) (hT : ∀ w ∈ lw_tbl, w.before args s = true) (hN : ∀ (i : Nat) (c : Cond), (flatC (Cond.and given_1 narrow_1))[i]? = some c → c.before args s = true) : (∀ q ∈ nstM, va_Nw (.methodLinkNest q.1 q.2.1 q.2.2 "RadioClock") s) ∧ (∀ q ∈ nstF, va_Nw (.fieldLinkNest q.1 q.2.1 "RadioClock" q.2.2 "[I" "RadioClock") s) ∧ va_AO RX4 s ∧ (∀ n ∈ dcL, va_Nw (.declares ⟨n, "<init>", "(Ljava/lang/String;)V"⟩) s) := by
  refine ⟨fun q hq => ?_, fun q hq => ?_, va_AO.of (hT _ (kt_1 125 (by decide +kernel))), fun n hn => ?_⟩
  · simp only [nstM, List.mem_cons, List.not_mem_nil, or_false] at hq
    rcases hq with rfl | rfl | rfl
    · exact va_Nw.of rfl (hT _ (kt_1 32 (by decide +kernel)))
    · exact va_Nw.of rfl (hT _ (kt_1 38 (by decide +kernel)))
    · exact va_Nw.of rfl (hT _ (kt_1 128 (by decide +kernel)))
  · simp only [nstF, List.mem_cons, List.not_mem_nil, or_false] at hq
    rcases hq with rfl | rfl | rfl
    · exact va_Nw.of rfl (hT _ (kt_3 93 (by decide +kernel)))
    · exact va_Nw.of rfl (hT _ (kt_3 95 (by decide +kernel)))
    · exact va_Nw.of rfl (hT _ (kt_3 137 (by decide +kernel)))
  · simp only [dcL, List.mem_cons, List.not_mem_nil, or_false] at hn
    rcases hn with rfl | rfl | rfl
    · exact va_Nw.of rfl (hT _ (kt_2 115 (by decide +kernel)))
    · exact va_Nw.of rfl (hT _ (kt_2 117 (by decide +kernel)))
    · exact va_Nw.of rfl (hT _ (kt_2 119 (by decide +kernel)))
set_option maxRecDepth 100000 in
set_option maxHeartbeats 8000000 in
theorem ev_start {s : State} {args : Array Value} (hg : ∀ w ∈ lw_g, w.before args s = true) (hT : ∀ w ∈ lw_tbl, w.before args s = true) (hN : ∀ (i : Nat) (c : Cond), (flatC (Cond.and given_1 narrow_1))[i]? = some c → c.before args s = true) {A : Nat → Prop} (hA : ∀ a : Nat, a < s.heap.size → ¬ A a) : ∃ ev : Nat → Nat, Ev ev A s := by
  obtain ⟨z0, hz0, ht0⟩ := z_0 hg hT hN hA
  obtain ⟨z1, hz1, ht1⟩ := z_1 hg hT hN hA
  obtain ⟨z2, hz2, ht2⟩ := z_2 hg hT hN hA
  obtain ⟨z3, hz3, ht3⟩ := z_3 hg hT hN hA
  obtain ⟨z4, hz4, ht4⟩ := z_4 hg hT hN hA
  obtain ⟨⟨a0, b0⟩, e0, p0, q0, r0, w0⟩ := x_0 hg hT hN hA
  obtain ⟨⟨a1, b1⟩, e1, p1, q1, r1, w1⟩ := x_1 hg hT hN hA
  obtain ⟨⟨a2, b2⟩, e2, p2, q2, r2, w2⟩ := x_2 hg hT hN hA
  obtain ⟨⟨a3, b3⟩, e3, p3, q3, r3, w3⟩ := x_3 hg hT hN hA
  obtain ⟨⟨a4, b4⟩, e4, p4, q4, r4, w4⟩ := x_4 hg hT hN hA
  obtain ⟨⟨a5, b5⟩, e5, p5, q5, r5, w5⟩ := x_5 hg hT hN hA
  obtain ⟨⟨a6, b6⟩, e6, p6, q6, r6, w6⟩ := x_6 hg hT hN hA
  obtain ⟨⟨a7, b7⟩, e7, p7, q7, r7, w7⟩ := x_7 hg hT hN hA
  obtain ⟨⟨a8, b8⟩, e8, p8, q8, r8, w8⟩ := x_8 hg hT hN hA
  refine ⟨(fun k : Nat => match k with | 0 => z0 | 1 => z1 | 2 => z2 | 3 => z3 | 4 => z4 | 10 => a0 | 11 => b0 | 12 => a1 | 13 => b1 | 14 => a2 | 15 => b2 | 16 => a3 | 17 => b3 | 18 => a4 | 19 => b4 | 20 => a5 | 21 => b5 | 22 => a6 | 23 => b6 | 24 => a7 | 25 => b7 | 26 => a8 | 27 => b8 | _ => 0), ⟨hz0, ht0, hz1, ht1, hz2, ht2, hz3, ht3, hz4, ht4, va_Zof (hT _ (kt_3 8 (by decide +kernel))) (hg _ kq1_13) (va_eqi (hN 34 _ (by decide +kernel))) hA, ⟨?_, ?_⟩, vx_Zqof (hT _ (kt_2 138 (by decide +kernel))) (hg _ kq1_6) (hN 32 _ (by decide +kernel)) hA, vx_Zqof (hT _ (kt_2 140 (by decide +kernel))) (hg _ kq1_6) (hN 33 _ (by decide +kernel)) hA, va_Zqof (hT _ (kt_3 24 (by decide +kernel))) (hg _ kq1_15) (hN 35 _ (by decide +kernel)) hA⟩, ?_⟩
  · intro i hi
    match i, hi with
    | 0, _ => exact ⟨p0, q0, r0, w0⟩
    | 1, _ => exact ⟨p1, q1, r1, w1⟩
    | 2, _ => exact ⟨p2, q2, r2, w2⟩
    | 3, _ => exact ⟨p3, q3, r3, w3⟩
    | 4, _ => exact ⟨p4, q4, r4, w4⟩
    | 5, _ => exact ⟨p5, q5, r5, w5⟩
    | 6, _ => exact ⟨p6, q6, r6, w6⟩
    | 7, _ => exact ⟨p7, q7, r7, w7⟩
    | 8, _ => exact ⟨p8, q8, r8, w8⟩
    | k + 9, hi => exact absurd hi (by omega)
  · intro i j hi hj hij
    have hall : ∀ i, i < 9 → va_OF "java/lang/String" "value" "[B" (.ref ((fun k : Nat => match k with | 0 => z0 | 1 => z1 | 2 => z2 | 3 => z3 | 4 => z4 | 10 => a0 | 11 => b0 | 12 => a1 | 13 => b1 | 14 => a2 | 15 => b2 | 16 => a3 | 17 => b3 | 18 => a4 | 19 => b4 | 20 => a5 | 21 => b5 | 22 => a6 | 23 => b6 | 24 => a7 | 25 => b7 | 26 => a8 | 27 => b8 | _ => 0) (11 + 2 * i))) ((fun k : Nat => match k with | 0 => z0 | 1 => z1 | 2 => z2 | 3 => z3 | 4 => z4 | 10 => a0 | 11 => b0 | 12 => a1 | 13 => b1 | 14 => a2 | 15 => b2 | 16 => a3 | 17 => b3 | 18 => a4 | 19 => b4 | 20 => a5 | 21 => b5 | 22 => a6 | 23 => b6 | 24 => a7 | 25 => b7 | 26 => a8 | 27 => b8 | _ => 0) (10 + 2 * i)) A s s.heap ∧ va_T .byte ((fun k : Nat => match k with | 0 => z0 | 1 => z1 | 2 => z2 | 3 => z3 | 4 => z4 | 10 => a0 | 11 => b0 | 12 => a1 | 13 => b1 | 14 => a2 | 15 => b2 | 16 => a3 | 17 => b3 | 18 => a4 | 19 => b4 | 20 => a5 | 21 => b5 | 22 => a6 | 23 => b6 | 24 => a7 | 25 => b7 | 26 => a8 | 27 => b8 | _ => 0) (11 + 2 * i)) (lenS.getD i 0) (fun j => .int ((bytS.getD i []).getD j 0)) A s s.heap := by
      intro i hi
      match i, hi with
      | 0, _ => exact ⟨r0, w0⟩
      | 1, _ => exact ⟨r1, w1⟩
      | 2, _ => exact ⟨r2, w2⟩
      | 3, _ => exact ⟨r3, w3⟩
      | 4, _ => exact ⟨r4, w4⟩
      | 5, _ => exact ⟨r5, w5⟩
      | 6, _ => exact ⟨r6, w6⟩
      | 7, _ => exact ⟨r7, w7⟩
      | 8, _ => exact ⟨r8, w8⟩
      | k + 9, hi => exact absurd hi (by omega)
    obtain ⟨f1, t1⟩ := hall i hi
    obtain ⟨f2, t2⟩ := hall j hj
    have hij2 : (fun k : Nat => match k with | 0 => z0 | 1 => z1 | 2 => z2 | 3 => z3 | 4 => z4 | 10 => a0 | 11 => b0 | 12 => a1 | 13 => b1 | 14 => a2 | 15 => b2 | 16 => a3 | 17 => b3 | 18 => a4 | 19 => b4 | 20 => a5 | 21 => b5 | 22 => a6 | 23 => b6 | 24 => a7 | 25 => b7 | 26 => a8 | 27 => b8 | _ => 0) (10 + 2 * i) = (fun k : Nat => match k with | 0 => z0 | 1 => z1 | 2 => z2 | 3 => z3 | 4 => z4 | 10 => a0 | 11 => b0 | 12 => a1 | 13 => b1 | 14 => a2 | 15 => b2 | 16 => a3 | 17 => b3 | 18 => a4 | 19 => b4 | 20 => a5 | 21 => b5 | 22 => a6 | 23 => b6 | 24 => a7 | 25 => b7 | 26 => a8 | 27 => b8 | _ => 0) (10 + 2 * j) := hij
    rw [hij2] at f1
    have e1 := Value.ref.inj (sOF f1 f2)
    rw [e1] at t1
    have hl9 : ∀ i, i < 9 → lenS.getD i 0 < 2 ^ 31 := by decide +kernel
    obtain ⟨e2, e3⟩ := sTT (hl9 i hi) (hl9 j hj) t1 t2
    exact bytS_ne i hi j hj e2 fun k hk => Value.int.inj (e3 k hk)
  · refine ⟨eR_1 hg hT hN (adK := fun i => (fun k : Nat => match k with | 0 => z0 | 1 => z1 | 2 => z2 | 3 => z3 | 4 => z4 | 10 => a0 | 11 => b0 | 12 => a1 | 13 => b1 | 14 => a2 | 15 => b2 | 16 => a3 | 17 => b3 | 18 => a4 | 19 => b4 | 20 => a5 | 21 => b5 | 22 => a6 | 23 => b6 | 24 => a7 | 25 => b7 | 26 => a8 | 27 => b8 | _ => 0) (10 + 2 * i)) (fun i hi => ?_), eR_2 hg hT hN, (eR_4 hg hT hN).1, (eR_4 hg hT hN).2.1, (eR_3 hg hT hN).1, (eR_3 hg hT hN).2, (eR_4 hg hT hN).2.2.1, (eR_4 hg hT hN).2.2.2⟩
    match i, hi with
    | 0, _ => exact e0
    | 1, _ => exact e1
    | 2, _ => exact e2
    | 3, _ => exact e3
    | 4, _ => exact e4
    | 5, _ => exact e5
    | 6, _ => exact e6
    | 7, _ => exact e7
    | 8, _ => exact e8
    | k + 9, hi => exact absurd hi (by omega)
