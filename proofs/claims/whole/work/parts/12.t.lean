theorem dX6_has_0 : decode cX6_has 0 = .ok (.lload_n 0, 1) := by decide +kernel
theorem dX6_has_1 : decode cX6_has 1 = .ok (.iload_n 2, 1) := by decide +kernel
theorem dX6_has_2 : decode cX6_has 2 = .ok (.lushr, 1) := by decide +kernel
theorem dX6_has_3 : decode cX6_has 3 = .ok (.lconst 1, 1) := by decide +kernel
theorem dX6_has_4 : decode cX6_has 4 = .ok (.land, 1) := by decide +kernel
theorem dX6_has_5 : decode cX6_has 5 = .ok (.lconst 1, 1) := by decide +kernel
theorem dX6_has_6 : decode cX6_has 6 = .ok (.lcmp, 1) := by decide +kernel
theorem dX6_has_7 : decode cX6_has 7 = .ok (.ifCond .ne 7, 3) := by decide +kernel
theorem dX6_has_10 : decode cX6_has 10 = .ok (.iconst 1, 1) := by decide +kernel
theorem dX6_has_11 : decode cX6_has 11 = .ok (.goto 4, 3) := by decide +kernel
theorem dX6_has_14 : decode cX6_has 14 = .ok (.iconst 0, 1) := by decide +kernel
theorem dX6_has_15 : decode cX6_has 15 = .ok (.ireturn, 1) := by decide +kernel
theorem dX6_bits_0 : decode cX6_bits 0 = .ok (.iconst 0, 1) := by decide +kernel
theorem dX6_bits_1 : decode cX6_bits 1 = .ok (.istore 4, 2) := by decide +kernel
theorem dX6_bits_3 : decode cX6_bits 3 = .ok (.iload_n 2, 1) := by decide +kernel
theorem dX6_bits_4 : decode cX6_bits 4 = .ok (.istore 5, 2) := by decide +kernel
theorem dX6_bits_6 : decode cX6_bits 6 = .ok (.iload 5, 2) := by decide +kernel
theorem dX6_bits_8 : decode cX6_bits 8 = .ok (.iload_n 3, 1) := by decide +kernel
theorem dX6_bits_9 : decode cX6_bits 9 = .ok (.if_icmp .gt 28, 3) := by decide +kernel
theorem dX6_bits_12 : decode cX6_bits 12 = .ok (.iload 4, 2) := by decide +kernel
theorem dX6_bits_14 : decode cX6_bits 14 = .ok (.lload_n 0, 1) := by decide +kernel
theorem dX6_bits_15 : decode cX6_bits 15 = .ok (.iload 5, 2) := by decide +kernel
theorem dX6_bits_17 : decode cX6_bits 17 = .ok (.invokestatic 58, 3) := by decide +kernel
theorem dX6_bits_20 : decode cX6_bits 20 = .ok (.ifCond .eq 7, 3) := by decide +kernel
theorem dX6_bits_23 : decode cX6_bits 23 = .ok (.iconst 1, 1) := by decide +kernel
theorem dX6_bits_24 : decode cX6_bits 24 = .ok (.goto 4, 3) := by decide +kernel
theorem dX6_bits_27 : decode cX6_bits 27 = .ok (.iconst 0, 1) := by decide +kernel
theorem dX6_bits_28 : decode cX6_bits 28 = .ok (.iadd, 1) := by decide +kernel
theorem dX6_bits_29 : decode cX6_bits 29 = .ok (.istore 4, 2) := by decide +kernel
theorem dX6_bits_31 : decode cX6_bits 31 = .ok (.iinc 5 1, 3) := by decide +kernel
theorem dX6_bits_34 : decode cX6_bits 34 = .ok (.goto (-28), 3) := by decide +kernel
theorem dX6_bits_37 : decode cX6_bits 37 = .ok (.iload 4, 2) := by decide +kernel
theorem dX6_bits_39 : decode cX6_bits 39 = .ok (.ireturn, 1) := by decide +kernel
theorem dX6_ones_0 : decode cX6_ones 0 = .ok (.lload_n 0, 1) := by decide +kernel
theorem dX6_ones_1 : decode cX6_ones 1 = .ok (.iload_n 2, 1) := by decide +kernel
theorem dX6_ones_2 : decode cX6_ones 2 = .ok (.lushr, 1) := by decide +kernel
theorem dX6_ones_3 : decode cX6_ones 3 = .ok (.l2i, 1) := by decide +kernel
theorem dX6_ones_4 : decode cX6_ones 4 = .ok (.iconst 1, 1) := by decide +kernel
theorem dX6_ones_5 : decode cX6_ones 5 = .ok (.iload_n 3, 1) := by decide +kernel
theorem dX6_ones_6 : decode cX6_ones 6 = .ok (.ishl, 1) := by decide +kernel
theorem dX6_ones_7 : decode cX6_ones 7 = .ok (.iconst 1, 1) := by decide +kernel
theorem dX6_ones_8 : decode cX6_ones 8 = .ok (.isub, 1) := by decide +kernel
theorem dX6_ones_9 : decode cX6_ones 9 = .ok (.iand, 1) := by decide +kernel
theorem dX6_ones_10 : decode cX6_ones 10 = .ok (.ireturn, 1) := by decide +kernel
theorem dX6_valueOf_0 : decode cX6_valueOf 0 = .ok (.lload_n 0, 1) := by decide +kernel
theorem dX6_valueOf_1 : decode cX6_valueOf 1 = .ok (.iload_n 2, 1) := by decide +kernel
theorem dX6_valueOf_2 : decode cX6_valueOf 2 = .ok (.iconst 4, 1) := by decide +kernel
theorem dX6_valueOf_3 : decode cX6_valueOf 3 = .ok (.invokestatic 127, 3) := by decide +kernel
theorem dX6_valueOf_6 : decode cX6_valueOf 6 = .ok (.istore 4, 2) := by decide +kernel
theorem dX6_valueOf_8 : decode cX6_valueOf 8 = .ok (.lload_n 0, 1) := by decide +kernel
theorem dX6_valueOf_9 : decode cX6_valueOf 9 = .ok (.iload_n 2, 1) := by decide +kernel
theorem dX6_valueOf_10 : decode cX6_valueOf 10 = .ok (.iconst 4, 1) := by decide +kernel
theorem dX6_valueOf_11 : decode cX6_valueOf 11 = .ok (.iadd, 1) := by decide +kernel
theorem dX6_valueOf_12 : decode cX6_valueOf 12 = .ok (.iload_n 3, 1) := by decide +kernel
theorem dX6_valueOf_13 : decode cX6_valueOf 13 = .ok (.invokestatic 127, 3) := by decide +kernel
theorem dX6_valueOf_16 : decode cX6_valueOf 16 = .ok (.istore 5, 2) := by decide +kernel
theorem dX6_valueOf_18 : decode cX6_valueOf 18 = .ok (.iload 4, 2) := by decide +kernel
theorem dX6_valueOf_20 : decode cX6_valueOf 20 = .ok (.bipush 9, 2) := by decide +kernel
theorem dX6_valueOf_22 : decode cX6_valueOf 22 = .ok (.if_icmp .gt 10, 3) := by decide +kernel
theorem dX6_valueOf_25 : decode cX6_valueOf 25 = .ok (.iload 5, 2) := by decide +kernel
theorem dX6_valueOf_27 : decode cX6_valueOf 27 = .ok (.bipush 9, 2) := by decide +kernel
theorem dX6_valueOf_29 : decode cX6_valueOf 29 = .ok (.if_icmp .le 9, 3) := by decide +kernel
theorem dX6_valueOf_32 : decode cX6_valueOf 32 = .ok (.sipush 999, 3) := by decide +kernel
theorem dX6_valueOf_35 : decode cX6_valueOf 35 = .ok (.goto 11, 3) := by decide +kernel
theorem dX6_valueOf_38 : decode cX6_valueOf 38 = .ok (.bipush 10, 2) := by decide +kernel
theorem dX6_valueOf_40 : decode cX6_valueOf 40 = .ok (.iload 5, 2) := by decide +kernel
theorem dX6_valueOf_42 : decode cX6_valueOf 42 = .ok (.imul, 1) := by decide +kernel
theorem dX6_valueOf_43 : decode cX6_valueOf 43 = .ok (.iload 4, 2) := by decide +kernel
theorem dX6_valueOf_45 : decode cX6_valueOf 45 = .ok (.iadd, 1) := by decide +kernel
theorem dX6_valueOf_46 : decode cX6_valueOf 46 = .ok (.ireturn, 1) := by decide +kernel
theorem dX6_isIn_0 : decode cX6_isIn 0 = .ok (.lload_n 0, 1) := by decide +kernel
theorem dX6_isIn_1 : decode cX6_isIn 1 = .ok (.lload_n 2, 1) := by decide +kernel
theorem dX6_isIn_2 : decode cX6_isIn 2 = .ok (.lcmp, 1) := by decide +kernel
theorem dX6_isIn_3 : decode cX6_isIn 3 = .ok (.ifCond .lt 14, 3) := by decide +kernel
theorem dX6_isIn_6 : decode cX6_isIn 6 = .ok (.lload_n 0, 1) := by decide +kernel
theorem dX6_isIn_7 : decode cX6_isIn 7 = .ok (.lload 4, 2) := by decide +kernel
theorem dX6_isIn_9 : decode cX6_isIn 9 = .ok (.lcmp, 1) := by decide +kernel
theorem dX6_isIn_10 : decode cX6_isIn 10 = .ok (.ifCond .gt 7, 3) := by decide +kernel
theorem dX6_isIn_13 : decode cX6_isIn 13 = .ok (.iconst 1, 1) := by decide +kernel
theorem dX6_isIn_14 : decode cX6_isIn 14 = .ok (.goto 4, 3) := by decide +kernel
theorem dX6_isIn_17 : decode cX6_isIn 17 = .ok (.iconst 0, 1) := by decide +kernel
theorem dX6_isIn_18 : decode cX6_isIn 18 = .ok (.ireturn, 1) := by decide +kernel
theorem dX6_digits_0 : decode cX6_digits 0 = .ok (.iload_n 0, 1) := by decide +kernel
theorem dX6_digits_1 : decode cX6_digits 1 = .ok (.bipush 10, 2) := by decide +kernel
theorem dX6_digits_3 : decode cX6_digits 3 = .ok (.irem, 1) := by decide +kernel
theorem dX6_digits_4 : decode cX6_digits 4 = .ok (.iload_n 0, 1) := by decide +kernel
theorem dX6_digits_5 : decode cX6_digits 5 = .ok (.bipush 10, 2) := by decide +kernel
theorem dX6_digits_7 : decode cX6_digits 7 = .ok (.idiv, 1) := by decide +kernel
theorem dX6_digits_8 : decode cX6_digits 8 = .ok (.iconst 4, 1) := by decide +kernel
theorem dX6_digits_9 : decode cX6_digits 9 = .ok (.ishl, 1) := by decide +kernel
theorem dX6_digits_10 : decode cX6_digits 10 = .ok (.ior, 1) := by decide +kernel
theorem dX6_digits_11 : decode cX6_digits 11 = .ok (.i2l, 1) := by decide +kernel
theorem dX6_digits_12 : decode cX6_digits 12 = .ok (.iload_n 1, 1) := by decide +kernel
theorem dX6_digits_13 : decode cX6_digits 13 = .ok (.lshl, 1) := by decide +kernel
theorem dX6_digits_14 : decode cX6_digits 14 = .ok (.lreturn, 1) := by decide +kernel
theorem dX6_parity_0 : decode cX6_parity 0 = .ok (.lload_n 0, 1) := by decide +kernel
theorem dX6_parity_1 : decode cX6_parity 1 = .ok (.iload_n 2, 1) := by decide +kernel
theorem dX6_parity_2 : decode cX6_parity 2 = .ok (.iload_n 3, 1) := by decide +kernel
theorem dX6_parity_3 : decode cX6_parity 3 = .ok (.iconst 1, 1) := by decide +kernel
theorem dX6_parity_4 : decode cX6_parity 4 = .ok (.isub, 1) := by decide +kernel
theorem dX6_parity_5 : decode cX6_parity 5 = .ok (.invokestatic 107, 3) := by decide +kernel
theorem dX6_parity_8 : decode cX6_parity 8 = .ok (.iconst 2, 1) := by decide +kernel
theorem dX6_parity_9 : decode cX6_parity 9 = .ok (.irem, 1) := by decide +kernel
theorem dX6_parity_10 : decode cX6_parity 10 = .ok (.iconst 1, 1) := by decide +kernel
theorem dX6_parity_11 : decode cX6_parity 11 = .ok (.if_icmp .ne 9, 3) := by decide +kernel
theorem dX6_parity_14 : decode cX6_parity 14 = .ok (.lconst 1, 1) := by decide +kernel
theorem dX6_parity_15 : decode cX6_parity 15 = .ok (.iload_n 3, 1) := by decide +kernel
theorem dX6_parity_16 : decode cX6_parity 16 = .ok (.lshl, 1) := by decide +kernel
theorem dX6_parity_17 : decode cX6_parity 17 = .ok (.goto 4, 3) := by decide +kernel
theorem dX6_parity_20 : decode cX6_parity 20 = .ok (.lconst 0, 1) := by decide +kernel
theorem dX6_parity_21 : decode cX6_parity 21 = .ok (.lreturn, 1) := by decide +kernel
def f_X6_has (N : Nat) (x0 : Int64) (x2 : Int32) : Option Bool := (if ((jushr x0 x2) &&& (1 : Int64)) = (1 : Int64) then some true else some false)
def l_X6_bits_6 (N : Nat) (x0 : Int64) (x2 : Int32) (x3 : Int32) : Nat → Int32 → Int32 → Option Int32
  | 0, _, _ => none
  | n + 1, x4, x5 => (if x3 < x5 then some x4 else ((f_X6_has N x0 x5).bind fun q2 => (if q2 = true then l_X6_bits_6 N x0 x2 x3 n (x4 + (1 : Int32)) (x5 + (1 : Int32)) else l_X6_bits_6 N x0 x2 x3 n (x4 + (0 : Int32)) (x5 + (1 : Int32)))))
def f_X6_bits (N : Nat) (x0 : Int64) (x2 : Int32) (x3 : Int32) : Option Int32 := l_X6_bits_6 N x0 x2 x3 N (0 : Int32) x2
def f_X6_ones (N : Nat) (x0 : Int64) (x2 : Int32) (x3 : Int32) : Option Int32 := some ((jushr x0 x2).toInt32 &&& (((1 : Int32) <<< (x3 &&& 31)) - (1 : Int32)))
def f_X6_valueOf (N : Nat) (x0 : Int64) (x2 : Int32) (x3 : Int32) : Option Int32 := ((f_X6_ones N x0 x2 (4 : Int32)).bind fun q1 => ((f_X6_ones N x0 (x2 + (4 : Int32)) x3).bind fun q3 => (if (9 : Int32) < q1 then some (999 : Int32) else (if q3 ≤ (9 : Int32) then some (((10 : Int32) * q3) + q1) else some (999 : Int32)))))
def f_X6_isIn (N : Nat) (x0 : Int64) (x2 : Int64) (x4 : Int64) : Option Bool := (if x0 < x2 then some false else (if x4 < x0 then some false else some true))
def f_X6_digits (N : Nat) (x0 : Int32) (x1 : Int32) : Option Int64 := some (jshl ((x0 - x0 / (10 : Int32) * (10 : Int32)) ||| ((x0 / (10 : Int32)) <<< ((4 : Int32) &&& 31))).toInt64 x1)
def f_X6_parity (N : Nat) (x0 : Int64) (x2 : Int32) (x3 : Int32) : Option Int64 := ((f_X6_bits N x0 x2 (x3 - (1 : Int32))).bind fun q1 => (if (q1 - q1 / (2 : Int32) * (2 : Int32)) = (1 : Int32) then some (jshl (1 : Int64) x3) else some (0 : Int64)))
theorem kc_X6_has : Cond.static yX6_has ∈ lw_g ∧ Cond.initialized yX6_has.cls ∈ lw_g ∧ Cond.code yX6_has cX6_has 3 (some .boolean) ∈ lw_g ∧ yX6_has.cls ≠ "java/lang/invoke/MethodHandle" ∧ yX6_has.cls ≠ "java/lang/invoke/VarHandle" ∧ (parseMethodDescriptor yX6_has.desc).map (fun d => d.parameters.length) = some 2 := ⟨kq5_146, kq1_5, kq5_147, by decide +kernel, by decide +kernel, by decide +kernel⟩
theorem kc_X6_bits : Cond.static yX6_bits ∈ lw_g ∧ Cond.initialized yX6_bits.cls ∈ lw_g ∧ Cond.code yX6_bits cX6_bits 6 (some .int) ∈ lw_g ∧ yX6_bits.cls ≠ "java/lang/invoke/MethodHandle" ∧ yX6_bits.cls ≠ "java/lang/invoke/VarHandle" ∧ (parseMethodDescriptor yX6_bits.desc).map (fun d => d.parameters.length) = some 3 := ⟨kq5_143, kq1_5, kq5_144, by decide +kernel, by decide +kernel, by decide +kernel⟩
theorem kc_X6_ones : Cond.static yX6_ones ∈ lw_g ∧ Cond.initialized yX6_ones.cls ∈ lw_g ∧ Cond.code yX6_ones cX6_ones 4 (some .int) ∈ lw_g ∧ yX6_ones.cls ≠ "java/lang/invoke/MethodHandle" ∧ yX6_ones.cls ≠ "java/lang/invoke/VarHandle" ∧ (parseMethodDescriptor yX6_ones.desc).map (fun d => d.parameters.length) = some 3 := ⟨kq6_50, kq1_5, kq6_51, by decide +kernel, by decide +kernel, by decide +kernel⟩
theorem kc_X6_valueOf : Cond.static yX6_valueOf ∈ lw_g ∧ Cond.initialized yX6_valueOf.cls ∈ lw_g ∧ Cond.code yX6_valueOf cX6_valueOf 6 (some .int) ∈ lw_g ∧ yX6_valueOf.cls ≠ "java/lang/invoke/MethodHandle" ∧ yX6_valueOf.cls ≠ "java/lang/invoke/VarHandle" ∧ (parseMethodDescriptor yX6_valueOf.desc).map (fun d => d.parameters.length) = some 3 := ⟨kq6_47, kq1_5, kq6_48, by decide +kernel, by decide +kernel, by decide +kernel⟩
theorem kc_X6_isIn : Cond.static yX6_isIn ∈ lw_g ∧ Cond.initialized yX6_isIn.cls ∈ lw_g ∧ Cond.code yX6_isIn cX6_isIn 6 (some .boolean) ∈ lw_g ∧ yX6_isIn.cls ≠ "java/lang/invoke/MethodHandle" ∧ yX6_isIn.cls ≠ "java/lang/invoke/VarHandle" ∧ (parseMethodDescriptor yX6_isIn.desc).map (fun d => d.parameters.length) = some 3 := ⟨kq5_85, kq1_5, kq5_86, by decide +kernel, by decide +kernel, by decide +kernel⟩
theorem kc_X6_digits : Cond.static yX6_digits ∈ lw_g ∧ Cond.initialized yX6_digits.cls ∈ lw_g ∧ Cond.code yX6_digits cX6_digits 2 (some .long) ∈ lw_g ∧ yX6_digits.cls ≠ "java/lang/invoke/MethodHandle" ∧ yX6_digits.cls ≠ "java/lang/invoke/VarHandle" ∧ (parseMethodDescriptor yX6_digits.desc).map (fun d => d.parameters.length) = some 2 := ⟨kq5_137, kq1_5, kq5_138, by decide +kernel, by decide +kernel, by decide +kernel⟩
theorem kc_X6_parity : Cond.static yX6_parity ∈ lw_g ∧ Cond.initialized yX6_parity.cls ∈ lw_g ∧ Cond.code yX6_parity cX6_parity 4 (some .long) ∈ lw_g ∧ yX6_parity.cls ≠ "java/lang/invoke/MethodHandle" ∧ yX6_parity.cls ≠ "java/lang/invoke/VarHandle" ∧ (parseMethodDescriptor yX6_parity.desc).map (fun d => d.parameters.length) = some 3 := ⟨kq5_140, kq1_5, kq5_141, by decide +kernel, by decide +kernel, by decide +kernel⟩
set_option maxRecDepth 100000 in
set_option maxHeartbeats 4000000 in
theorem c_X6_has {l : Launch} {G : Gp} {sz N : Nat} {x0 : Int64} {x2 : Int32} {q : Bool} (hf : f_X6_has N x0 x2 = some q) : Met l yX6_has (Cond.code yX6_has cX6_has 3 (some .boolean) :: lw_g) ({ frames := 0, cells := 0, slots := 0, locals := 0 } : Room) (va_Pc [.long x0, .int x2] (pw G [] sz)) (va_Qi (fun (r : Int32) (v : Unit) => bI q = r ∧ () = v) (bw G (fun _ : Unit => ([] : va_W)) (va_A [] sz)) (va_A [] sz)) 0 0 (va_A [] sz) := by
  refine mt (Qc := (fun A => va_Qi (fun (r : Int32) (v : Unit) => bI q = r ∧ () = v) (bw G (fun _ : Unit => ([] : va_W)) A) A)) (by decide) (Nat.le_of_ble_eq_true rfl) ?_
  intro p e s m below meth c A ls hx hb hr hlk hml hts hown hA hP hK hD hE hS hl
  have hown : s.vm.findClass RX6 = some m.cls := hown
  have hg : ∀ w ∈ lw_g, w.before ([.long x0, .int x2] : List Value).toArray s = true := fun w h => hts w (List.mem_cons_of_mem _ h)
  have hC : CallFix p m c cX6_has 3 s ([.long x0, .int x2] : List Value).toArray (Cond.code yX6_has cX6_has 3 (some .boolean) :: lw_g) RX6 := ⟨hx, hb, hml, hown, hts⟩
  have hl : lv_has ls 3 [(0, .long x0), (2, .int x2)] := hl
  rw [f_X6_has] at hf
  refine lv_lload_n hx hb dX6_has_0 rfl (lv_at hl 0 rfl) ?_
  refine lv_iload_n hx hb dX6_has_1 rfl (lv_at hl 1 rfl) ?_
  refine lv_lushr (v := (jushr x0 x2)) hx hb dX6_has_2 rfl ?_
  refine lv_lconst (v := (1 : Int64)) hx hb dX6_has_3 (by decide) ?_
  refine lv_land hx hb dX6_has_4 ?_
  refine lv_lconst (v := (1 : Int64)) hx hb dX6_has_5 (by decide) ?_
  refine lc_ne (tgt := 14) hx hb dX6_has_6 dX6_has_7 (by decide) (fun c1 => ?_) (fun c1 => ?_)
  · have hf := tn hf c1
    refine lv_iconst (v := (0 : Int32)) hx hb dX6_has_14 (by decide) ?_
    cases hf
    exact e_z (wf := (fun _ : Unit => ([] : va_W))) hx hb hr hlk () rfl ⟨rfl, rfl⟩ hP hK hD hS dX6_has_15
  · have hf := tp hf c1
    refine lv_iconst (v := (1 : Int32)) hx hb dX6_has_10 (by decide) ?_
    refine lv_goto (tgt := 15) hx hb dX6_has_11 (by decide) ?_
    cases hf
    exact e_z (wf := (fun _ : Unit => ([] : va_W))) hx hb hr hlk () rfl ⟨rfl, rfl⟩ hP hK hD hS dX6_has_15
set_option maxRecDepth 100000 in
set_option maxHeartbeats 4000000 in
theorem c_X6_bits {l : Launch} {G : Gp} {sz N : Nat} {x0 : Int64} {x2 : Int32} {x3 : Int32} {q : Int32} (hf : f_X6_bits N x0 x2 x3 = some q) : Met l yX6_bits (Cond.code yX6_bits cX6_bits 6 (some .int) :: lw_g) ({ frames := 1, cells := 0, slots := 0, locals := 22 } : Room) (va_Pc [.long x0, .int x2, .int x3] (pw G [] sz)) (va_Qi (fun (r : Int32) (v : Unit) => q = r ∧ () = v) (bw G (fun _ : Unit => ([] : va_W)) (va_A [] sz)) (va_A [] sz)) 0 0 (va_A [] sz) := by
  refine mt (Qc := (fun A => va_Qi (fun (r : Int32) (v : Unit) => q = r ∧ () = v) (bw G (fun _ : Unit => ([] : va_W)) A) A)) (by decide) (Nat.le_of_ble_eq_true rfl) ?_
  intro p e s m below meth c A ls hx hb hr hlk hml hts hown hA hP hK hD hE hS hl
  have hown : s.vm.findClass RX6 = some m.cls := hown
  have hg : ∀ w ∈ lw_g, w.before ([.long x0, .int x2, .int x3] : List Value).toArray s = true := fun w h => hts w (List.mem_cons_of_mem _ h)
  have hC : CallFix p m c cX6_bits 6 s ([.long x0, .int x2, .int x3] : List Value).toArray (Cond.code yX6_bits cX6_bits 6 (some .int) :: lw_g) RX6 := ⟨hx, hb, hml, hown, hts⟩
  have hl : lv_has ls 6 [(0, .long x0), (2, .int x2), (3, .int x3)] := hl
  have lp_6 : ∀ (n : Nat) (x4 : Int32) (x5 : Int32), l_X6_bits_6 N x0 x2 x3 n x4 x5 = some q → ∀ (H : Heap) (locs : List Loc) (ls : Array Slot), va_P (gD G) vwCl [] H → va_D A [] → va_S A s.heap H locs → lv_has ls 6 [(0, .long x0), (2, .int x2), (3, .int x3), (4, .int x4), (5, .int x5)] → W p l e ({ frames := 1, cells := 0, slots := 0, locals := 22 } : Room) s m ([.long x0, .int x2, .int x3] : List Value).toArray below meth c H locs 0 0 (MQ below (va_Qi (fun (r : Int32) (v : Unit) => q = r ∧ () = v) (bw G (fun _ : Unit => ([] : va_W)) A) A) ([.long x0, .int x2, .int x3] : List Value).toArray s 0 0 A) (F0 m 6 ls []) := by
    intro n
    induction n with
    | zero => intro x4 x5 hf; rw [l_X6_bits_6] at hf; cases hf
    | succ n ih =>
      intro x4 x5 hf H locs ls hP hD hS hl
      rw [l_X6_bits_6] at hf
      refine lv_iload hx hb dX6_bits_6 (lv_at hl 4 rfl) ?_
      refine lv_iload_n hx hb dX6_bits_8 rfl (lv_at hl 2 rfl) ?_
      refine lv_icmp_gt (tgt := 37) hx hb dX6_bits_9 (by decide) (fun c1 => ?_) (fun c1 => ?_)
      · have hf := tp hf c1
        refine lv_iload hx hb dX6_bits_37 (lv_at hl 3 rfl) ?_
        cases hf
        exact e_i (wf := (fun _ : Unit => ([] : va_W))) hx hb hr hlk () ⟨rfl, rfl⟩ hP hK hD hS dX6_bits_39
      · have hf := tn hf c1
        refine lv_iload hx hb dX6_bits_12 (lv_at hl 3 rfl) ?_
        refine lv_lload_n hx hb dX6_bits_14 rfl (lv_at hl 0 rfl) ?_
        refine lv_iload hx hb dX6_bits_15 (lv_at hl 4 rfl) ?_
        obtain ⟨q2, e3, hf⟩ := tbd hf
        refine kSi0 (As := [.long x0, .int x5]) (rest := [.int x4]) hC (c_X6_has (G := G) e3) kq5_145 kc_X6_has (by decide) hP hK hD hE hS hA hl.1 (Nat.le_of_ble_eq_true rfl) ⟨Nat.zero_le _, Nat.zero_le _⟩ dX6_bits_17 (fun r9 u9 H locs hw hP hD hS => ?_)
        obtain ⟨rfl, rfl⟩ := hw
        refine bz_eq (tgt := 27) hx hb dX6_bits_20 (by decide) (fun c4 => ?_) (fun c4 => ?_)
        · have hf := tn hf c4
          refine lv_iconst (v := (0 : Int32)) hx hb dX6_bits_27 (by decide) ?_
          refine lv_iadd hx hb dX6_bits_28 ?_
          refine lv_istore (lv' := [(4, .int (x4 + (0 : Int32))), (0, .long x0), (2, .int x2), (3, .int x3), (5, .int x5)]) hx hb dX6_bits_29 hl (by decide) rfl (fun ls hl => ?_)
          refine lv_iinc (v := (x5 + (1 : Int32))) (lv' := [(5, .int (x5 + (1 : Int32))), (4, .int (x4 + (0 : Int32))), (0, .long x0), (2, .int x2), (3, .int x3)]) hx hb dX6_bits_31 hl (k := 4) rfl rfl (by decide) rfl (fun ls hl => ?_)
          refine lv_goto (tgt := 6) hx hb dX6_bits_34 (by decide) ?_
          exact ih _ _ hf _ _ _ hP hD hS (lv_sub hl [2, 3, 4, 1, 0] rfl)
        · have hf := tp hf c4
          refine lv_iconst (v := (1 : Int32)) hx hb dX6_bits_23 (by decide) ?_
          refine lv_goto (tgt := 28) hx hb dX6_bits_24 (by decide) ?_
          refine lv_iadd hx hb dX6_bits_28 ?_
          refine lv_istore (lv' := [(4, .int (x4 + (1 : Int32))), (0, .long x0), (2, .int x2), (3, .int x3), (5, .int x5)]) hx hb dX6_bits_29 hl (by decide) rfl (fun ls hl => ?_)
          refine lv_iinc (v := (x5 + (1 : Int32))) (lv' := [(5, .int (x5 + (1 : Int32))), (4, .int (x4 + (1 : Int32))), (0, .long x0), (2, .int x2), (3, .int x3)]) hx hb dX6_bits_31 hl (k := 4) rfl rfl (by decide) rfl (fun ls hl => ?_)
          refine lv_goto (tgt := 6) hx hb dX6_bits_34 (by decide) ?_
          exact ih _ _ hf _ _ _ hP hD hS (lv_sub hl [2, 3, 4, 1, 0] rfl)
  rw [f_X6_bits] at hf
  refine lv_iconst (v := (0 : Int32)) hx hb dX6_bits_0 (by decide) ?_
  refine lv_istore (lv' := [(4, .int (0 : Int32)), (0, .long x0), (2, .int x2), (3, .int x3)]) hx hb dX6_bits_1 hl (by decide) rfl (fun ls hl => ?_)
  refine lv_iload_n hx hb dX6_bits_3 rfl (lv_at hl 2 rfl) ?_
  refine lv_istore (lv' := [(5, .int x2), (4, .int (0 : Int32)), (0, .long x0), (2, .int x2), (3, .int x3)]) hx hb dX6_bits_4 hl (by decide) rfl (fun ls hl => ?_)
  exact lp_6 N _ _ hf _ _ _ hP hD hS (lv_sub hl [2, 3, 4, 1, 0] rfl)
set_option maxRecDepth 100000 in
set_option maxHeartbeats 4000000 in
theorem c_X6_ones {l : Launch} {G : Gp} {sz N : Nat} {x0 : Int64} {x2 : Int32} {x3 : Int32} {q : Int32} (hf : f_X6_ones N x0 x2 x3 = some q) : Met l yX6_ones (Cond.code yX6_ones cX6_ones 4 (some .int) :: lw_g) ({ frames := 0, cells := 0, slots := 0, locals := 0 } : Room) (va_Pc [.long x0, .int x2, .int x3] (pw G [] sz)) (va_Qi (fun (r : Int32) (v : Unit) => q = r ∧ () = v) (bw G (fun _ : Unit => ([] : va_W)) (va_A [] sz)) (va_A [] sz)) 0 0 (va_A [] sz) := by
  refine mt (Qc := (fun A => va_Qi (fun (r : Int32) (v : Unit) => q = r ∧ () = v) (bw G (fun _ : Unit => ([] : va_W)) A) A)) (by decide) (Nat.le_of_ble_eq_true rfl) ?_
  intro p e s m below meth c A ls hx hb hr hlk hml hts hown hA hP hK hD hE hS hl
  have hown : s.vm.findClass RX6 = some m.cls := hown
  have hg : ∀ w ∈ lw_g, w.before ([.long x0, .int x2, .int x3] : List Value).toArray s = true := fun w h => hts w (List.mem_cons_of_mem _ h)
  have hC : CallFix p m c cX6_ones 4 s ([.long x0, .int x2, .int x3] : List Value).toArray (Cond.code yX6_ones cX6_ones 4 (some .int) :: lw_g) RX6 := ⟨hx, hb, hml, hown, hts⟩
  have hl : lv_has ls 4 [(0, .long x0), (2, .int x2), (3, .int x3)] := hl
  rw [f_X6_ones] at hf
  refine lv_lload_n hx hb dX6_ones_0 rfl (lv_at hl 0 rfl) ?_
  refine lv_iload_n hx hb dX6_ones_1 rfl (lv_at hl 1 rfl) ?_
  refine lv_lushr (v := (jushr x0 x2)) hx hb dX6_ones_2 rfl ?_
  refine lv_l2i (v := (jushr x0 x2).toInt32) hx hb dX6_ones_3 rfl ?_
  refine lv_iconst (v := (1 : Int32)) hx hb dX6_ones_4 (by decide) ?_
  refine lv_iload_n hx hb dX6_ones_5 rfl (lv_at hl 2 rfl) ?_
  refine lv_ishl hx hb dX6_ones_6 ?_
  refine lv_iconst (v := (1 : Int32)) hx hb dX6_ones_7 (by decide) ?_
  refine lv_isub hx hb dX6_ones_8 ?_
  refine lv_iand hx hb dX6_ones_9 ?_
  cases hf
  exact e_i (wf := (fun _ : Unit => ([] : va_W))) hx hb hr hlk () ⟨rfl, rfl⟩ hP hK hD hS dX6_ones_10
set_option maxRecDepth 100000 in
set_option maxHeartbeats 4000000 in
theorem c_X6_valueOf {l : Launch} {G : Gp} {sz N : Nat} {x0 : Int64} {x2 : Int32} {x3 : Int32} {q : Int32} (hf : f_X6_valueOf N x0 x2 x3 = some q) : Met l yX6_valueOf (Cond.code yX6_valueOf cX6_valueOf 6 (some .int) :: lw_g) ({ frames := 1, cells := 0, slots := 0, locals := 23 } : Room) (va_Pc [.long x0, .int x2, .int x3] (pw G [] sz)) (va_Qi (fun (r : Int32) (v : Unit) => q = r ∧ () = v) (bw G (fun _ : Unit => ([] : va_W)) (va_A [] sz)) (va_A [] sz)) 0 0 (va_A [] sz) := by
  refine mt (Qc := (fun A => va_Qi (fun (r : Int32) (v : Unit) => q = r ∧ () = v) (bw G (fun _ : Unit => ([] : va_W)) A) A)) (by decide) (Nat.le_of_ble_eq_true rfl) ?_
  intro p e s m below meth c A ls hx hb hr hlk hml hts hown hA hP hK hD hE hS hl
  have hown : s.vm.findClass RX6 = some m.cls := hown
  have hg : ∀ w ∈ lw_g, w.before ([.long x0, .int x2, .int x3] : List Value).toArray s = true := fun w h => hts w (List.mem_cons_of_mem _ h)
  have hC : CallFix p m c cX6_valueOf 6 s ([.long x0, .int x2, .int x3] : List Value).toArray (Cond.code yX6_valueOf cX6_valueOf 6 (some .int) :: lw_g) RX6 := ⟨hx, hb, hml, hown, hts⟩
  have hl : lv_has ls 6 [(0, .long x0), (2, .int x2), (3, .int x3)] := hl
  rw [f_X6_valueOf] at hf
  refine lv_lload_n hx hb dX6_valueOf_0 rfl (lv_at hl 0 rfl) ?_
  refine lv_iload_n hx hb dX6_valueOf_1 rfl (lv_at hl 1 rfl) ?_
  refine lv_iconst (v := (4 : Int32)) hx hb dX6_valueOf_2 (by decide) ?_
  obtain ⟨q1, e2, hf⟩ := tbd hf
  refine kSi0 (As := [.long x0, .int x2, .int (4 : Int32)]) (rest := []) hC (c_X6_ones (G := G) e2) kq6_49 kc_X6_ones (by decide) hP hK hD hE hS hA hl.1 (Nat.le_of_ble_eq_true rfl) ⟨Nat.zero_le _, Nat.zero_le _⟩ dX6_valueOf_3 (fun r9 u9 H locs hw hP hD hS => ?_)
  obtain ⟨rfl, rfl⟩ := hw
  refine lv_istore (lv' := [(4, .int q1), (0, .long x0), (2, .int x2), (3, .int x3)]) hx hb dX6_valueOf_6 hl (by decide) rfl (fun ls hl => ?_)
  refine lv_lload_n hx hb dX6_valueOf_8 rfl (lv_at hl 1 rfl) ?_
  refine lv_iload_n hx hb dX6_valueOf_9 rfl (lv_at hl 2 rfl) ?_
  refine lv_iconst (v := (4 : Int32)) hx hb dX6_valueOf_10 (by decide) ?_
  refine lv_iadd hx hb dX6_valueOf_11 ?_
  refine lv_iload_n hx hb dX6_valueOf_12 rfl (lv_at hl 3 rfl) ?_
  obtain ⟨q3, e4, hf⟩ := tbd hf
  refine kSi0 (As := [.long x0, .int (x2 + (4 : Int32)), .int x3]) (rest := []) hC (c_X6_ones (G := G) e4) kq6_49 kc_X6_ones (by decide) hP hK hD hE hS hA hl.1 (Nat.le_of_ble_eq_true rfl) ⟨Nat.zero_le _, Nat.zero_le _⟩ dX6_valueOf_13 (fun r9 u9 H locs hw hP hD hS => ?_)
  obtain ⟨rfl, rfl⟩ := hw
  refine lv_istore (lv' := [(5, .int q3), (4, .int q1), (0, .long x0), (2, .int x2), (3, .int x3)]) hx hb dX6_valueOf_16 hl (by decide) rfl (fun ls hl => ?_)
  refine lv_iload hx hb dX6_valueOf_18 (lv_at hl 1 rfl) ?_
  refine lv_bipush (v := (9 : Int32)) hx hb dX6_valueOf_20 (by decide) ?_
  refine lv_icmp_gt (tgt := 32) hx hb dX6_valueOf_22 (by decide) (fun c5 => ?_) (fun c5 => ?_)
  · have hf := tp hf c5
    refine lv_sipush (v := (999 : Int32)) hx hb dX6_valueOf_32 (by decide) ?_
    refine lv_goto (tgt := 46) hx hb dX6_valueOf_35 (by decide) ?_
    cases hf
    exact e_i (wf := (fun _ : Unit => ([] : va_W))) hx hb hr hlk () ⟨rfl, rfl⟩ hP hK hD hS dX6_valueOf_46
  · have hf := tn hf c5
    refine lv_iload hx hb dX6_valueOf_25 (lv_at hl 0 rfl) ?_
    refine lv_bipush (v := (9 : Int32)) hx hb dX6_valueOf_27 (by decide) ?_
    refine lv_icmp_le (tgt := 38) hx hb dX6_valueOf_29 (by decide) (fun c6 => ?_) (fun c6 => ?_)
    · have hf := tp hf c6
      refine lv_bipush (v := (10 : Int32)) hx hb dX6_valueOf_38 (by decide) ?_
      refine lv_iload hx hb dX6_valueOf_40 (lv_at hl 0 rfl) ?_
      refine lv_imul hx hb dX6_valueOf_42 ?_
      refine lv_iload hx hb dX6_valueOf_43 (lv_at hl 1 rfl) ?_
      refine lv_iadd hx hb dX6_valueOf_45 ?_
      cases hf
      exact e_i (wf := (fun _ : Unit => ([] : va_W))) hx hb hr hlk () ⟨rfl, rfl⟩ hP hK hD hS dX6_valueOf_46
    · have hf := tn hf c6
      refine lv_sipush (v := (999 : Int32)) hx hb dX6_valueOf_32 (by decide) ?_
      refine lv_goto (tgt := 46) hx hb dX6_valueOf_35 (by decide) ?_
      cases hf
      exact e_i (wf := (fun _ : Unit => ([] : va_W))) hx hb hr hlk () ⟨rfl, rfl⟩ hP hK hD hS dX6_valueOf_46
set_option maxRecDepth 100000 in
set_option maxHeartbeats 4000000 in
theorem c_X6_isIn {l : Launch} {G : Gp} {sz N : Nat} {x0 : Int64} {x2 : Int64} {x4 : Int64} {q : Bool} (hf : f_X6_isIn N x0 x2 x4 = some q) : Met l yX6_isIn (Cond.code yX6_isIn cX6_isIn 6 (some .boolean) :: lw_g) ({ frames := 0, cells := 0, slots := 0, locals := 0 } : Room) (va_Pc [.long x0, .long x2, .long x4] (pw G [] sz)) (va_Qi (fun (r : Int32) (v : Unit) => bI q = r ∧ () = v) (bw G (fun _ : Unit => ([] : va_W)) (va_A [] sz)) (va_A [] sz)) 0 0 (va_A [] sz) := by
  refine mt (Qc := (fun A => va_Qi (fun (r : Int32) (v : Unit) => bI q = r ∧ () = v) (bw G (fun _ : Unit => ([] : va_W)) A) A)) (by decide) (Nat.le_of_ble_eq_true rfl) ?_
  intro p e s m below meth c A ls hx hb hr hlk hml hts hown hA hP hK hD hE hS hl
  have hown : s.vm.findClass RX6 = some m.cls := hown
  have hg : ∀ w ∈ lw_g, w.before ([.long x0, .long x2, .long x4] : List Value).toArray s = true := fun w h => hts w (List.mem_cons_of_mem _ h)
  have hC : CallFix p m c cX6_isIn 6 s ([.long x0, .long x2, .long x4] : List Value).toArray (Cond.code yX6_isIn cX6_isIn 6 (some .boolean) :: lw_g) RX6 := ⟨hx, hb, hml, hown, hts⟩
  have hl : lv_has ls 6 [(0, .long x0), (2, .long x2), (4, .long x4)] := hl
  rw [f_X6_isIn] at hf
  refine lv_lload_n hx hb dX6_isIn_0 rfl (lv_at hl 0 rfl) ?_
  refine lv_lload_n hx hb dX6_isIn_1 rfl (lv_at hl 1 rfl) ?_
  refine lc_lt (tgt := 17) hx hb dX6_isIn_2 dX6_isIn_3 (by decide) (fun c1 => ?_) (fun c1 => ?_)
  · have hf := tp hf c1
    refine lv_iconst (v := (0 : Int32)) hx hb dX6_isIn_17 (by decide) ?_
    cases hf
    exact e_z (wf := (fun _ : Unit => ([] : va_W))) hx hb hr hlk () rfl ⟨rfl, rfl⟩ hP hK hD hS dX6_isIn_18
  · have hf := tn hf c1
    refine lv_lload_n hx hb dX6_isIn_6 rfl (lv_at hl 0 rfl) ?_
    refine lv_lload hx hb dX6_isIn_7 (lv_at hl 2 rfl) ?_
    refine lc_gt (tgt := 17) hx hb dX6_isIn_9 dX6_isIn_10 (by decide) (fun c2 => ?_) (fun c2 => ?_)
    · have hf := tp hf c2
      refine lv_iconst (v := (0 : Int32)) hx hb dX6_isIn_17 (by decide) ?_
      cases hf
      exact e_z (wf := (fun _ : Unit => ([] : va_W))) hx hb hr hlk () rfl ⟨rfl, rfl⟩ hP hK hD hS dX6_isIn_18
    · have hf := tn hf c2
      refine lv_iconst (v := (1 : Int32)) hx hb dX6_isIn_13 (by decide) ?_
      refine lv_goto (tgt := 18) hx hb dX6_isIn_14 (by decide) ?_
      cases hf
      exact e_z (wf := (fun _ : Unit => ([] : va_W))) hx hb hr hlk () rfl ⟨rfl, rfl⟩ hP hK hD hS dX6_isIn_18
set_option maxRecDepth 100000 in
set_option maxHeartbeats 4000000 in
theorem c_X6_digits {l : Launch} {G : Gp} {sz N : Nat} {x0 : Int32} {x1 : Int32} {q : Int64} (hf : f_X6_digits N x0 x1 = some q) : Met l yX6_digits (Cond.code yX6_digits cX6_digits 2 (some .long) :: lw_g) ({ frames := 0, cells := 0, slots := 0, locals := 0 } : Room) (va_Pc [.int x0, .int x1] (pw G [] sz)) (va_Ql (fun (r : Int64) (v : Unit) => q = r ∧ () = v) (bw G (fun _ : Unit => ([] : va_W)) (va_A [] sz)) (va_A [] sz)) 0 0 (va_A [] sz) := by
  refine mt (Qc := (fun A => va_Ql (fun (r : Int64) (v : Unit) => q = r ∧ () = v) (bw G (fun _ : Unit => ([] : va_W)) A) A)) (by decide) (Nat.le_of_ble_eq_true rfl) ?_
  intro p e s m below meth c A ls hx hb hr hlk hml hts hown hA hP hK hD hE hS hl
  have hown : s.vm.findClass RX6 = some m.cls := hown
  have hg : ∀ w ∈ lw_g, w.before ([.int x0, .int x1] : List Value).toArray s = true := fun w h => hts w (List.mem_cons_of_mem _ h)
  have hC : CallFix p m c cX6_digits 2 s ([.int x0, .int x1] : List Value).toArray (Cond.code yX6_digits cX6_digits 2 (some .long) :: lw_g) RX6 := ⟨hx, hb, hml, hown, hts⟩
  have hl : lv_has ls 2 [(0, .int x0), (1, .int x1)] := hl
  rw [f_X6_digits] at hf
  refine lv_iload_n hx hb dX6_digits_0 rfl (lv_at hl 0 rfl) ?_
  refine lv_bipush (v := (10 : Int32)) hx hb dX6_digits_1 (by decide) ?_
  refine lv_irem hx hb dX6_digits_3 (by decide) ?_
  refine lv_iload_n hx hb dX6_digits_4 rfl (lv_at hl 0 rfl) ?_
  refine lv_bipush (v := (10 : Int32)) hx hb dX6_digits_5 (by decide) ?_
  refine lv_idiv hx hb dX6_digits_7 (by decide) ?_
  refine lv_iconst (v := (4 : Int32)) hx hb dX6_digits_8 (by decide) ?_
  refine lv_ishl hx hb dX6_digits_9 ?_
  refine lv_ior hx hb dX6_digits_10 ?_
  refine lv_i2l (v := ((x0 - x0 / (10 : Int32) * (10 : Int32)) ||| ((x0 / (10 : Int32)) <<< ((4 : Int32) &&& 31))).toInt64) hx hb dX6_digits_11 rfl ?_
  refine lv_iload_n hx hb dX6_digits_12 rfl (lv_at hl 1 rfl) ?_
  refine lv_lshl (v := (jshl ((x0 - x0 / (10 : Int32) * (10 : Int32)) ||| ((x0 / (10 : Int32)) <<< ((4 : Int32) &&& 31))).toInt64 x1)) hx hb dX6_digits_13 rfl ?_
  cases hf
  exact e_l (wf := (fun _ : Unit => ([] : va_W))) hx hb hr hlk () ⟨rfl, rfl⟩ hP hK hD hS dX6_digits_14
set_option maxRecDepth 100000 in
set_option maxHeartbeats 4000000 in
theorem c_X6_parity {l : Launch} {G : Gp} {sz N : Nat} {x0 : Int64} {x2 : Int32} {x3 : Int32} {q : Int64} (hf : f_X6_parity N x0 x2 x3 = some q) : Met l yX6_parity (Cond.code yX6_parity cX6_parity 4 (some .long) :: lw_g) ({ frames := 2, cells := 0, slots := 0, locals := 47 } : Room) (va_Pc [.long x0, .int x2, .int x3] (pw G [] sz)) (va_Ql (fun (r : Int64) (v : Unit) => q = r ∧ () = v) (bw G (fun _ : Unit => ([] : va_W)) (va_A [] sz)) (va_A [] sz)) 0 0 (va_A [] sz) := by
  refine mt (Qc := (fun A => va_Ql (fun (r : Int64) (v : Unit) => q = r ∧ () = v) (bw G (fun _ : Unit => ([] : va_W)) A) A)) (by decide) (Nat.le_of_ble_eq_true rfl) ?_
  intro p e s m below meth c A ls hx hb hr hlk hml hts hown hA hP hK hD hE hS hl
  have hown : s.vm.findClass RX6 = some m.cls := hown
  have hg : ∀ w ∈ lw_g, w.before ([.long x0, .int x2, .int x3] : List Value).toArray s = true := fun w h => hts w (List.mem_cons_of_mem _ h)
  have hC : CallFix p m c cX6_parity 4 s ([.long x0, .int x2, .int x3] : List Value).toArray (Cond.code yX6_parity cX6_parity 4 (some .long) :: lw_g) RX6 := ⟨hx, hb, hml, hown, hts⟩
  have hl : lv_has ls 4 [(0, .long x0), (2, .int x2), (3, .int x3)] := hl
  rw [f_X6_parity] at hf
  refine lv_lload_n hx hb dX6_parity_0 rfl (lv_at hl 0 rfl) ?_
  refine lv_iload_n hx hb dX6_parity_1 rfl (lv_at hl 1 rfl) ?_
  refine lv_iload_n hx hb dX6_parity_2 rfl (lv_at hl 2 rfl) ?_
  refine lv_iconst (v := (1 : Int32)) hx hb dX6_parity_3 (by decide) ?_
  refine lv_isub hx hb dX6_parity_4 ?_
  obtain ⟨q1, e2, hf⟩ := tbd hf
  refine kSi0 (As := [.long x0, .int x2, .int (x3 - (1 : Int32))]) (rest := []) hC (c_X6_bits (G := G) e2) kq5_142 kc_X6_bits (by decide) hP hK hD hE hS hA hl.1 (Nat.le_of_ble_eq_true rfl) ⟨Nat.zero_le _, Nat.zero_le _⟩ dX6_parity_5 (fun r9 u9 H locs hw hP hD hS => ?_)
  obtain ⟨rfl, rfl⟩ := hw
  refine lv_iconst (v := (2 : Int32)) hx hb dX6_parity_8 (by decide) ?_
  refine lv_irem hx hb dX6_parity_9 (by decide) ?_
  refine lv_iconst (v := (1 : Int32)) hx hb dX6_parity_10 (by decide) ?_
  refine lv_icmp_ne (tgt := 20) hx hb dX6_parity_11 (by decide) (fun c3 => ?_) (fun c3 => ?_)
  · have hf := tn hf c3
    refine lv_lconst (v := (0 : Int64)) hx hb dX6_parity_20 (by decide) ?_
    cases hf
    exact e_l (wf := (fun _ : Unit => ([] : va_W))) hx hb hr hlk () ⟨rfl, rfl⟩ hP hK hD hS dX6_parity_21
  · have hf := tp hf c3
    refine lv_lconst (v := (1 : Int64)) hx hb dX6_parity_14 (by decide) ?_
    refine lv_iload_n hx hb dX6_parity_15 rfl (lv_at hl 2 rfl) ?_
    refine lv_lshl (v := (jshl (1 : Int64) x3)) hx hb dX6_parity_16 rfl ?_
    refine lv_goto (tgt := 21) hx hb dX6_parity_17 (by decide) ?_
    cases hf
    exact e_l (wf := (fun _ : Unit => ([] : va_W))) hx hb hr hlk () ⟨rfl, rfl⟩ hP hK hD hS dX6_parity_21
