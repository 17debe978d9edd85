theorem dX6_deviation_0 : decode cX6_deviation 0 = .ok (.aload_n 0, 1) := by decide +kernel
theorem dX6_deviation_1 : decode cX6_deviation 1 = .ok (.aload_n 0, 1) := by decide +kernel
theorem dX6_deviation_2 : decode cX6_deviation 2 = .ok (.getfield 7, 3) := by decide +kernel
theorem dX6_deviation_5 : decode cX6_deviation 5 = .ok (.bipush 13, 2) := by decide +kernel
theorem dX6_deviation_7 : decode cX6_deviation 7 = .ok (.laload, 1) := by decide +kernel
theorem dX6_deviation_8 : decode cX6_deviation 8 = .ok (.ldc2_w 317, 3) := by decide +kernel
theorem dX6_deviation_11 : decode cX6_deviation 11 = .ok (.lcmp, 1) := by decide +kernel
theorem dX6_deviation_12 : decode cX6_deviation 12 = .ok (.ifCond .ge 7, 3) := by decide +kernel
theorem dX6_deviation_15 : decode cX6_deviation 15 = .ok (.iconst 1, 1) := by decide +kernel
theorem dX6_deviation_16 : decode cX6_deviation 16 = .ok (.goto 4, 3) := by decide +kernel
theorem dX6_deviation_19 : decode cX6_deviation 19 = .ok (.iconst 0, 1) := by decide +kernel
theorem dX6_deviation_20 : decode cX6_deviation 20 = .ok (.putfield 55, 3) := by decide +kernel
theorem dX6_deviation_23 : decode cX6_deviation 23 = .ok (.aload_n 0, 1) := by decide +kernel
theorem dX6_deviation_24 : decode cX6_deviation 24 = .ok (.getfield 55, 3) := by decide +kernel
theorem dX6_deviation_27 : decode cX6_deviation 27 = .ok (.ifCond .le 5, 3) := by decide +kernel
theorem dX6_deviation_30 : decode cX6_deviation 30 = .ok (.fconst 0, 1) := by decide +kernel
theorem dX6_deviation_31 : decode cX6_deviation 31 = .ok (.freturn, 1) := by decide +kernel
theorem dX6_deviation_32 : decode cX6_deviation 32 = .ok (.lconst 0, 1) := by decide +kernel
theorem dX6_deviation_33 : decode cX6_deviation 33 = .ok (.lstore_n 1, 1) := by decide +kernel
theorem dX6_deviation_34 : decode cX6_deviation 34 = .ok (.iconst 1, 1) := by decide +kernel
theorem dX6_deviation_35 : decode cX6_deviation 35 = .ok (.istore_n 3, 1) := by decide +kernel
theorem dX6_deviation_36 : decode cX6_deviation 36 = .ok (.iload_n 3, 1) := by decide +kernel
theorem dX6_deviation_37 : decode cX6_deviation 37 = .ok (.i2l, 1) := by decide +kernel
theorem dX6_deviation_38 : decode cX6_deviation 38 = .ok (.aload_n 0, 1) := by decide +kernel
theorem dX6_deviation_39 : decode cX6_deviation 39 = .ok (.getfield 7, 3) := by decide +kernel
theorem dX6_deviation_42 : decode cX6_deviation 42 = .ok (.bipush 13, 2) := by decide +kernel
theorem dX6_deviation_44 : decode cX6_deviation 44 = .ok (.laload, 1) := by decide +kernel
theorem dX6_deviation_45 : decode cX6_deviation 45 = .ok (.lcmp, 1) := by decide +kernel
theorem dX6_deviation_46 : decode cX6_deviation 46 = .ok (.ifCond .ge 60, 3) := by decide +kernel
theorem dX6_deviation_49 : decode cX6_deviation 49 = .ok (.lload_n 1, 1) := by decide +kernel
theorem dX6_deviation_50 : decode cX6_deviation 50 = .ok (.ldc2_w 391, 3) := by decide +kernel
theorem dX6_deviation_53 : decode cX6_deviation 53 = .ok (.aload_n 0, 1) := by decide +kernel
theorem dX6_deviation_54 : decode cX6_deviation 54 = .ok (.getfield 7, 3) := by decide +kernel
theorem dX6_deviation_57 : decode cX6_deviation 57 = .ok (.bipush 32, 2) := by decide +kernel
theorem dX6_deviation_59 : decode cX6_deviation 59 = .ok (.iconst 2, 1) := by decide +kernel
theorem dX6_deviation_60 : decode cX6_deviation 60 = .ok (.iload_n 3, 1) := by decide +kernel
theorem dX6_deviation_61 : decode cX6_deviation 61 = .ok (.imul, 1) := by decide +kernel
theorem dX6_deviation_62 : decode cX6_deviation 62 = .ok (.iadd, 1) := by decide +kernel
theorem dX6_deviation_63 : decode cX6_deviation 63 = .ok (.laload, 1) := by decide +kernel
theorem dX6_deviation_64 : decode cX6_deviation 64 = .ok (.aload_n 0, 1) := by decide +kernel
theorem dX6_deviation_65 : decode cX6_deviation 65 = .ok (.getfield 7, 3) := by decide +kernel
theorem dX6_deviation_68 : decode cX6_deviation 68 = .ok (.bipush 32, 2) := by decide +kernel
theorem dX6_deviation_70 : decode cX6_deviation 70 = .ok (.laload, 1) := by decide +kernel
theorem dX6_deviation_71 : decode cX6_deviation 71 = .ok (.lsub, 1) := by decide +kernel
theorem dX6_deviation_72 : decode cX6_deviation 72 = .ok (.lmul, 1) := by decide +kernel
theorem dX6_deviation_73 : decode cX6_deviation 73 = .ok (.aload_n 0, 1) := by decide +kernel
theorem dX6_deviation_74 : decode cX6_deviation 74 = .ok (.getfield 7, 3) := by decide +kernel
theorem dX6_deviation_77 : decode cX6_deviation 77 = .ok (.bipush 32, 2) := by decide +kernel
theorem dX6_deviation_79 : decode cX6_deviation 79 = .ok (.iconst 2, 1) := by decide +kernel
theorem dX6_deviation_80 : decode cX6_deviation 80 = .ok (.iload_n 3, 1) := by decide +kernel
theorem dX6_deviation_81 : decode cX6_deviation 81 = .ok (.imul, 1) := by decide +kernel
theorem dX6_deviation_82 : decode cX6_deviation 82 = .ok (.iadd, 1) := by decide +kernel
theorem dX6_deviation_83 : decode cX6_deviation 83 = .ok (.iconst 1, 1) := by decide +kernel
theorem dX6_deviation_84 : decode cX6_deviation 84 = .ok (.iadd, 1) := by decide +kernel
theorem dX6_deviation_85 : decode cX6_deviation 85 = .ok (.laload, 1) := by decide +kernel
theorem dX6_deviation_86 : decode cX6_deviation 86 = .ok (.aload_n 0, 1) := by decide +kernel
theorem dX6_deviation_87 : decode cX6_deviation 87 = .ok (.getfield 7, 3) := by decide +kernel
theorem dX6_deviation_90 : decode cX6_deviation 90 = .ok (.bipush 33, 2) := by decide +kernel
theorem dX6_deviation_92 : decode cX6_deviation 92 = .ok (.laload, 1) := by decide +kernel
theorem dX6_deviation_93 : decode cX6_deviation 93 = .ok (.lsub, 1) := by decide +kernel
theorem dX6_deviation_94 : decode cX6_deviation 94 = .ok (.lsub, 1) := by decide +kernel
theorem dX6_deviation_95 : decode cX6_deviation 95 = .ok (.invokestatic 310, 3) := by decide +kernel
theorem dX6_deviation_98 : decode cX6_deviation 98 = .ok (.ladd, 1) := by decide +kernel
theorem dX6_deviation_99 : decode cX6_deviation 99 = .ok (.lstore_n 1, 1) := by decide +kernel
theorem dX6_deviation_100 : decode cX6_deviation 100 = .ok (.iinc 3 1, 3) := by decide +kernel
theorem dX6_deviation_103 : decode cX6_deviation 103 = .ok (.goto (-67), 3) := by decide +kernel
theorem dX6_deviation_106 : decode cX6_deviation 106 = .ok (.lload_n 1, 1) := by decide +kernel
theorem dX6_deviation_107 : decode cX6_deviation 107 = .ok (.l2f, 1) := by decide +kernel
theorem dX6_deviation_108 : decode cX6_deviation 108 = .ok (.aload_n 0, 1) := by decide +kernel
theorem dX6_deviation_109 : decode cX6_deviation 109 = .ok (.getfield 7, 3) := by decide +kernel
theorem dX6_deviation_112 : decode cX6_deviation 112 = .ok (.bipush 13, 2) := by decide +kernel
theorem dX6_deviation_114 : decode cX6_deviation 114 = .ok (.laload, 1) := by decide +kernel
theorem dX6_deviation_115 : decode cX6_deviation 115 = .ok (.lconst 1, 1) := by decide +kernel
theorem dX6_deviation_116 : decode cX6_deviation 116 = .ok (.lsub, 1) := by decide +kernel
theorem dX6_deviation_117 : decode cX6_deviation 117 = .ok (.l2f, 1) := by decide +kernel
theorem dX6_deviation_118 : decode cX6_deviation 118 = .ok (.fdiv, 1) := by decide +kernel
theorem dX6_deviation_119 : decode cX6_deviation 119 = .ok (.freturn, 1) := by decide +kernel
theorem dX5_deviation_0 : decode cX5_deviation 0 = .ok (.aload_n 0, 1) := by decide +kernel
theorem dX5_deviation_1 : decode cX5_deviation 1 = .ok (.getfield 10, 3) := by decide +kernel
theorem dX5_deviation_4 : decode cX5_deviation 4 = .ok (.getfield 131, 3) := by decide +kernel
theorem dX5_deviation_7 : decode cX5_deviation 7 = .ok (.iconst 1, 1) := by decide +kernel
theorem dX5_deviation_8 : decode cX5_deviation 8 = .ok (.isub, 1) := by decide +kernel
theorem dX5_deviation_9 : decode cX5_deviation 9 = .ok (.istore_n 1, 1) := by decide +kernel
theorem dX5_deviation_10 : decode cX5_deviation 10 = .ok (.iload_n 1, 1) := by decide +kernel
theorem dX5_deviation_11 : decode cX5_deviation 11 = .ok (.iconst 1, 1) := by decide +kernel
theorem dX5_deviation_12 : decode cX5_deviation 12 = .ok (.if_icmp .ge 14, 3) := by decide +kernel
theorem dX5_deviation_15 : decode cX5_deviation 15 = .ok (.new 266, 3) := by decide +kernel
theorem dX5_deviation_18 : decode cX5_deviation 18 = .ok (.dup, 1) := by decide +kernel
theorem dX5_deviation_19 : decode cX5_deviation 19 = .ok (.ldc_w 305, 3) := by decide +kernel
theorem dX5_deviation_22 : decode cX5_deviation 22 = .ok (.invokespecial 270, 3) := by decide +kernel
theorem dX5_deviation_25 : decode cX5_deviation 25 = .ok (.athrow, 1) := by decide +kernel
theorem dX5_deviation_26 : decode cX5_deviation 26 = .ok (.lconst 0, 1) := by decide +kernel
theorem dX5_deviation_27 : decode cX5_deviation 27 = .ok (.lstore_n 2, 1) := by decide +kernel
theorem dX5_deviation_28 : decode cX5_deviation 28 = .ok (.iconst 1, 1) := by decide +kernel
theorem dX5_deviation_29 : decode cX5_deviation 29 = .ok (.istore 4, 2) := by decide +kernel
theorem dX5_deviation_31 : decode cX5_deviation 31 = .ok (.iload 4, 2) := by decide +kernel
theorem dX5_deviation_33 : decode cX5_deviation 33 = .ok (.iload_n 1, 1) := by decide +kernel
theorem dX5_deviation_34 : decode cX5_deviation 34 = .ok (.if_icmp .gt 41, 3) := by decide +kernel
theorem dX5_deviation_37 : decode cX5_deviation 37 = .ok (.iload 4, 2) := by decide +kernel
theorem dX5_deviation_39 : decode cX5_deviation 39 = .ok (.bipush 8, 2) := by decide +kernel
theorem dX5_deviation_41 : decode cX5_deviation 41 = .ok (.if_icmp .ge 34, 3) := by decide +kernel
theorem dX5_deviation_44 : decode cX5_deviation 44 = .ok (.lload_n 2, 1) := by decide +kernel
theorem dX5_deviation_45 : decode cX5_deviation 45 = .ok (.aload_n 0, 1) := by decide +kernel
theorem dX5_deviation_46 : decode cX5_deviation 46 = .ok (.getfield 10, 3) := by decide +kernel
theorem dX5_deviation_49 : decode cX5_deviation 49 = .ok (.iload 4, 2) := by decide +kernel
theorem dX5_deviation_51 : decode cX5_deviation 51 = .ok (.invokevirtual 307, 3) := by decide +kernel
theorem dX5_deviation_54 : decode cX5_deviation 54 = .ok (.aload_n 0, 1) := by decide +kernel
theorem dX5_deviation_55 : decode cX5_deviation 55 = .ok (.getfield 10, 3) := by decide +kernel
theorem dX5_deviation_58 : decode cX5_deviation 58 = .ok (.iload 4, 2) := by decide +kernel
theorem dX5_deviation_60 : decode cX5_deviation 60 = .ok (.invokevirtual 311, 3) := by decide +kernel
theorem dX5_deviation_63 : decode cX5_deviation 63 = .ok (.lsub, 1) := by decide +kernel
theorem dX5_deviation_64 : decode cX5_deviation 64 = .ok (.invokestatic 314, 3) := by decide +kernel
theorem dX5_deviation_67 : decode cX5_deviation 67 = .ok (.ladd, 1) := by decide +kernel
theorem dX5_deviation_68 : decode cX5_deviation 68 = .ok (.lstore_n 2, 1) := by decide +kernel
theorem dX5_deviation_69 : decode cX5_deviation 69 = .ok (.iinc 4 1, 3) := by decide +kernel
theorem dX5_deviation_72 : decode cX5_deviation 72 = .ok (.goto (-41), 3) := by decide +kernel
theorem dX5_deviation_75 : decode cX5_deviation 75 = .ok (.lload_n 2, 1) := by decide +kernel
theorem dX5_deviation_76 : decode cX5_deviation 76 = .ok (.l2f, 1) := by decide +kernel
theorem dX5_deviation_77 : decode cX5_deviation 77 = .ok (.iload_n 1, 1) := by decide +kernel
theorem dX5_deviation_78 : decode cX5_deviation 78 = .ok (.i2f, 1) := by decide +kernel
theorem dX5_deviation_79 : decode cX5_deviation 79 = .ok (.fdiv, 1) := by decide +kernel
theorem dX5_deviation_80 : decode cX5_deviation 80 = .ok (.freturn, 1) := by decide +kernel
def l_X6_deviation_36 (N : Nat) : Nat → Int64 → Int32 → Ob → Option (UInt32 × Ob)
  | 0, _, _, _ => none
  | n + 1, x1, x3, u0 => (if ((u0.2.2.2 0) (13 : Int32).toNatClampNeg) ≤ x3.toInt64 then (if ¬ ((FP.fdiv (FP.l2f x1) (FP.l2f (((u0.2.2.2 0) (13 : Int32).toNatClampNeg) - (1 : Int64)))) &&& 0x7fffffff ≤ 0x7f800000) then none else some ((FP.fdiv (FP.l2f x1) (FP.l2f (((u0.2.2.2 0) (13 : Int32).toNatClampNeg) - (1 : Int64)))), u0)) else (if ((32 : Int32) + ((2 : Int32) * x3)) < 0 ∨ 48 ≤ ((32 : Int32) + ((2 : Int32) * x3)).toNatClampNeg then none else (if (((32 : Int32) + ((2 : Int32) * x3)) + (1 : Int32)) < 0 ∨ 48 ≤ (((32 : Int32) + ((2 : Int32) * x3)) + (1 : Int32)).toNatClampNeg then none else ((f_X6_sizeOf N (((60000 : Int64) * (((u0.2.2.2 0) ((32 : Int32) + ((2 : Int32) * x3)).toNatClampNeg) - ((u0.2.2.2 0) (32 : Int32).toNatClampNeg))) - (((u0.2.2.2 0) (((32 : Int32) + ((2 : Int32) * x3)) + (1 : Int32)).toNatClampNeg) - ((u0.2.2.2 0) (33 : Int32).toNatClampNeg)))).bind fun q7 => l_X6_deviation_36 N n (x1 + q7) (x3 + (1 : Int32)) u0))))
def f_X6_deviation (N : Nat) (u0 : Ob) : Option (UInt32 × Ob) := (if (2 : Int64) ≤ ((u0.2.2.2 0) (13 : Int32).toNatClampNeg) then l_X6_deviation_36 N N (0 : Int64) (1 : Int32) (oi u0 7 (0 : Int32)) else some (FP.fconst0, (oi u0 7 (1 : Int32))))
def l_X5_deviation_31 (N : Nat) : Nat → Int32 → Int64 → Int32 → Ob → Ob → (Nat → Ob) → (Nat → Ob) → Option ((Nat ⊕ UInt32) × Ob × Ob × (Nat → Ob) × (Nat → Ob))
  | 0, _, _, _, _, _, _, _ => none
  | n + 1, x1, x2, x4, u0, u1, u2, u3 => (if x1 < x4 then (if ¬ ((FP.fdiv (FP.l2f x2) (FP.i2f x1)) &&& 0x7fffffff ≤ 0x7f800000) then none else some (.inr (FP.fdiv (FP.l2f x2) (FP.i2f x1)), (u0, (u1, (u2, u3))))) else (if (8 : Int32) ≤ x4 then (if ¬ ((FP.fdiv (FP.l2f x2) (FP.i2f x1)) &&& 0x7fffffff ≤ 0x7f800000) then none else some (.inr (FP.fdiv (FP.l2f x2) (FP.i2f x1)), (u0, (u1, (u2, u3))))) else ((f_X4_minutesSinceFix N x4 (u2 0)).bind fun q6 => ((f_X4_timeSinceFix N x4 (u2 0)).bind fun q8 => l_X5_deviation_31 N n x1 (x2 + (if (0 : Int64) < (q6 - q8) then (q6 - q8) else -(q6 - q8))) (x4 + (1 : Int32)) u0 u1 u2 u3))))
def f_X5_deviation (N : Nat) (u0 : Ob) (u1 : Ob) (u2 : (Nat → Ob)) (u3 : (Nat → Ob)) : Option ((Nat ⊕ UInt32) × Ob × Ob × (Nat → Ob) × (Nat → Ob)) := (if (1 : Int32) ≤ (((u2 0).1 16) - (1 : Int32)) then l_X5_deviation_31 N N (((u2 0).1 16) - (1 : Int32)) (0 : Int64) (1 : Int32) u0 u1 u2 u3 else some (.inl 3, u0, u1, u2, u3))
theorem kc_X6_deviation : Cond.instanceMethod yX6_deviation ∈ lw_g ∧ Cond.selects yX6_deviation.cls yX6_deviation yX6_deviation ∈ lw_g ∧ Cond.initialized yX6_deviation.cls ∈ lw_g ∧ Cond.code yX6_deviation cX6_deviation 4 (some .float) ∈ lw_g ∧ yX6_deviation.cls ≠ "java/lang/invoke/MethodHandle" ∧ yX6_deviation.cls ≠ "java/lang/invoke/VarHandle" ∧ (parseMethodDescriptor yX6_deviation.desc).map (fun d => d.parameters.length) = some 0 := ⟨kq6_189, kq6_190, kq1_5, kq6_191, by decide +kernel, by decide +kernel, by decide +kernel⟩
theorem kc_X5_deviation : Cond.instanceMethod yX5_deviation ∈ lw_g ∧ Cond.selects yX5_deviation.cls yX5_deviation yX5_deviation ∈ lw_g ∧ Cond.initialized yX5_deviation.cls ∈ lw_g ∧ Cond.code yX5_deviation cX5_deviation 5 (some .float) ∈ lw_g ∧ yX5_deviation.cls ≠ "java/lang/invoke/MethodHandle" ∧ yX5_deviation.cls ≠ "java/lang/invoke/VarHandle" ∧ (parseMethodDescriptor yX5_deviation.desc).map (fun d => d.parameters.length) = some 0 := ⟨kq4_131, kq4_132, kq1_1, kq4_133, by decide +kernel, by decide +kernel, by decide +kernel⟩
set_option maxRecDepth 100000 in
set_option maxHeartbeats 4000000 in
theorem c_X6_deviation {l : Launch} {G : Gp} {sz N : Nat} {h0 : Nat} {a0 : Nat → Nat} {u0 : Ob} {q : UInt32 × Ob} (hf : f_X6_deviation N u0 = some q) : Met l yX6_deviation (Cond.code yX6_deviation cX6_deviation 4 (some .float) :: lw_g) ({ frames := 1, cells := 0, slots := 0, locals := 21 } : Room) (va_Pc [.ref h0] (pw G (wX6 G h0 a0 u0) sz)) (va_Qf (fun (r : UInt32) (v : Ob) => q.1 = r ∧ q.2 = v) (bw G (fun v : Ob => (wX6 G h0 a0 v)) (va_A (wX6 G h0 a0 u0) sz)) (va_A (wX6 G h0 a0 u0) sz)) 0 0 (va_A (wX6 G h0 a0 u0) sz) := by
  refine mt (Qc := (fun A => va_Qf (fun (r : UInt32) (v : Ob) => q.1 = r ∧ q.2 = v) (bw G (fun v : Ob => (wX6 G h0 a0 v)) A) A)) (by decide) (Nat.le_of_ble_eq_true rfl) ?_
  intro p e s m below meth c A ls hx hb hr hlk hml hts hown hA hP hK hD hE hS hl
  have hown : s.vm.findClass RX6 = some m.cls := hown
  have hg : ∀ w ∈ lw_g, w.before ([.ref h0] : List Value).toArray s = true := fun w h => hts w (List.mem_cons_of_mem _ h)
  have hC : CallFix p m c cX6_deviation 4 s ([.ref h0] : List Value).toArray (Cond.code yX6_deviation cX6_deviation 4 (some .float) :: lw_g) RX6 := ⟨hx, hb, hml, hown, hts⟩
  have hl : lv_has ls 4 [(0, .ref h0)] := hl
  have lp_36 : ∀ (n : Nat) (x1 : Int64) (x3 : Int32) (u0 : Ob), l_X6_deviation_36 N n x1 x3 u0 = some q → ∀ (H : Heap) (locs : List Loc) (ls : Array Slot), va_P (gD G) vwCl (wX6 G h0 a0 u0) H → va_D A (wX6 G h0 a0 u0) → va_S A s.heap H locs → lv_has ls 4 [(0, .ref h0), (1, .long x1), (3, .int x3)] → W p l e ({ frames := 1, cells := 0, slots := 0, locals := 21 } : Room) s m ([.ref h0] : List Value).toArray below meth c H locs 0 0 (MQ below (va_Qf (fun (r : UInt32) (v : Ob) => q.1 = r ∧ q.2 = v) (bw G (fun v : Ob => (wX6 G h0 a0 v)) A) A) ([.ref h0] : List Value).toArray s 0 0 A) (F0 m 36 ls []) := by
    intro n
    induction n with
    | zero => intro x1 x3 u0 hf; rw [l_X6_deviation_36] at hf; cases hf
    | succ n ih =>
      intro x1 x3 u0 hf H locs ls hP hD hS hl
      rw [l_X6_deviation_36] at hf
      refine lv_iload_n hx hb dX6_deviation_36 rfl (lv_at hl 2 rfl) ?_
      refine lv_i2l (v := x3.toInt64) hx hb dX6_deviation_37 rfl ?_
      refine lv_aload_n hx hb dX6_deviation_38 rfl (lv_at hl 0 rfl) ?_
      refine va_get (D := gD G) (ci := 4) (v := .ref (a0 0)) (C := RX6) (T := TX6) (N := 22) hx hb hg kl_X6 hown hK hP 0 rfl rfl 0 (by decide) (hg _ kq5_5) (fun _ h9 => h9) rfl dX6_deviation_39 ?_
      refine lv_bipush (v := (13 : Int32)) hx hb dX6_deviation_42 (by decide) ?_
      refine va_lald (f := (u0.2.2.2 0)) hx hb hK hP 1 2 rfl rfl (vin (by decide)) dX6_deviation_44 ?_
      refine lc_ge (tgt := 106) hx hb dX6_deviation_45 dX6_deviation_46 (by decide) (fun c3 => ?_) (fun c3 => ?_)
      · have hf := tp hf c3
        refine lv_lload_n hx hb dX6_deviation_106 rfl (lv_at hl 1 rfl) ?_
        refine lv_l2f hx hb dX6_deviation_107 ?_
        refine lv_aload_n hx hb dX6_deviation_108 rfl (lv_at hl 0 rfl) ?_
        refine va_get (D := gD G) (ci := 4) (v := .ref (a0 0)) (C := RX6) (T := TX6) (N := 22) hx hb hg kl_X6 hown hK hP 0 rfl rfl 0 (by decide) (hg _ kq5_5) (fun _ h9 => h9) rfl dX6_deviation_109 ?_
        refine lv_bipush (v := (13 : Int32)) hx hb dX6_deviation_112 (by decide) ?_
        refine va_lald (f := (u0.2.2.2 0)) hx hb hK hP 1 2 rfl rfl (vin (by decide)) dX6_deviation_114 ?_
        refine lv_lconst (v := (1 : Int64)) hx hb dX6_deviation_115 (by decide) ?_
        refine lv_lsub hx hb dX6_deviation_116 ?_
        refine lv_l2f hx hb dX6_deviation_117 ?_
        obtain ⟨b4, hf⟩ := tno hf
        refine lv_fdiv hx hb dX6_deviation_118 (Classical.not_not.mp b4) ?_
        have hf := Option.some.inj hf
        subst hf
        exact e_f (wf := (fun v : Ob => (wX6 G h0 a0 v))) hx hb hr hlk u0 ⟨rfl, rfl⟩ hP hK hD hS dX6_deviation_119
      · have hf := tn hf c3
        refine lv_lload_n hx hb dX6_deviation_49 rfl (lv_at hl 1 rfl) ?_
        refine lv_ldc2 hx hb hown (hg _ kq6_186) dX6_deviation_50 ?_
        refine lv_aload_n hx hb dX6_deviation_53 rfl (lv_at hl 0 rfl) ?_
        refine va_get (D := gD G) (ci := 4) (v := .ref (a0 0)) (C := RX6) (T := TX6) (N := 22) hx hb hg kl_X6 hown hK hP 0 rfl rfl 0 (by decide) (hg _ kq5_5) (fun _ h9 => h9) rfl dX6_deviation_54 ?_
        refine lv_bipush (v := (32 : Int32)) hx hb dX6_deviation_57 (by decide) ?_
        refine lv_iconst (v := (2 : Int32)) hx hb dX6_deviation_59 (by decide) ?_
        refine lv_iload_n hx hb dX6_deviation_60 rfl (lv_at hl 2 rfl) ?_
        refine lv_imul hx hb dX6_deviation_61 ?_
        refine lv_iadd hx hb dX6_deviation_62 ?_
        obtain ⟨b5, hf⟩ := tno hf
        refine va_lald (f := (u0.2.2.2 0)) hx hb hK hP 1 2 rfl rfl b5 dX6_deviation_63 ?_
        refine lv_aload_n hx hb dX6_deviation_64 rfl (lv_at hl 0 rfl) ?_
        refine va_get (D := gD G) (ci := 4) (v := .ref (a0 0)) (C := RX6) (T := TX6) (N := 22) hx hb hg kl_X6 hown hK hP 0 rfl rfl 0 (by decide) (hg _ kq5_5) (fun _ h9 => h9) rfl dX6_deviation_65 ?_
        refine lv_bipush (v := (32 : Int32)) hx hb dX6_deviation_68 (by decide) ?_
        refine va_lald (f := (u0.2.2.2 0)) hx hb hK hP 1 2 rfl rfl (vin (by decide)) dX6_deviation_70 ?_
        refine lv_lsub hx hb dX6_deviation_71 ?_
        refine lv_lmul hx hb dX6_deviation_72 ?_
        refine lv_aload_n hx hb dX6_deviation_73 rfl (lv_at hl 0 rfl) ?_
        refine va_get (D := gD G) (ci := 4) (v := .ref (a0 0)) (C := RX6) (T := TX6) (N := 22) hx hb hg kl_X6 hown hK hP 0 rfl rfl 0 (by decide) (hg _ kq5_5) (fun _ h9 => h9) rfl dX6_deviation_74 ?_
        refine lv_bipush (v := (32 : Int32)) hx hb dX6_deviation_77 (by decide) ?_
        refine lv_iconst (v := (2 : Int32)) hx hb dX6_deviation_79 (by decide) ?_
        refine lv_iload_n hx hb dX6_deviation_80 rfl (lv_at hl 2 rfl) ?_
        refine lv_imul hx hb dX6_deviation_81 ?_
        refine lv_iadd hx hb dX6_deviation_82 ?_
        refine lv_iconst (v := (1 : Int32)) hx hb dX6_deviation_83 (by decide) ?_
        refine lv_iadd hx hb dX6_deviation_84 ?_
        obtain ⟨b6, hf⟩ := tno hf
        refine va_lald (f := (u0.2.2.2 0)) hx hb hK hP 1 2 rfl rfl b6 dX6_deviation_85 ?_
        refine lv_aload_n hx hb dX6_deviation_86 rfl (lv_at hl 0 rfl) ?_
        refine va_get (D := gD G) (ci := 4) (v := .ref (a0 0)) (C := RX6) (T := TX6) (N := 22) hx hb hg kl_X6 hown hK hP 0 rfl rfl 0 (by decide) (hg _ kq5_5) (fun _ h9 => h9) rfl dX6_deviation_87 ?_
        refine lv_bipush (v := (33 : Int32)) hx hb dX6_deviation_90 (by decide) ?_
        refine va_lald (f := (u0.2.2.2 0)) hx hb hK hP 1 2 rfl rfl (vin (by decide)) dX6_deviation_92 ?_
        refine lv_lsub hx hb dX6_deviation_93 ?_
        refine lv_lsub hx hb dX6_deviation_94 ?_
        obtain ⟨q7, e8, hf⟩ := tbd hf
        refine kSl0 (As := [.long (((60000 : Int64) * (((u0.2.2.2 0) ((32 : Int32) + ((2 : Int32) * x3)).toNatClampNeg) - ((u0.2.2.2 0) (32 : Int32).toNatClampNeg))) - (((u0.2.2.2 0) (((32 : Int32) + ((2 : Int32) * x3)) + (1 : Int32)).toNatClampNeg) - ((u0.2.2.2 0) (33 : Int32).toNatClampNeg)))]) (rest := [.long x1]) hC (c_X6_sizeOf (G := G) e8) kq6_2 kc_X6_sizeOf (by decide) hP hK hD hE hS hA hl.1 (Nat.le_of_ble_eq_true rfl) ⟨Nat.zero_le _, Nat.zero_le _⟩ dX6_deviation_95 (fun r9 u9 H locs hw hP hD hS => ?_)
        obtain ⟨rfl, rfl⟩ := hw
        refine lv_ladd hx hb dX6_deviation_98 ?_
        refine lv_lstore_n (lv' := [(1, .long (x1 + q7)), (0, .ref h0), (3, .int x3)]) hx hb dX6_deviation_99 rfl hl (by decide) rfl (fun ls hl => ?_)
        refine lv_iinc (v := (x3 + (1 : Int32))) (lv' := [(3, .int (x3 + (1 : Int32))), (1, .long (x1 + q7)), (0, .ref h0)]) hx hb dX6_deviation_100 hl (k := 2) rfl rfl (by decide) rfl (fun ls hl => ?_)
        refine lv_goto (tgt := 36) hx hb dX6_deviation_103 (by decide) ?_
        exact ih _ _ _ hf _ _ _ hP hD hS (lv_sub hl [2, 1, 0] rfl)
  rw [f_X6_deviation] at hf
  refine lv_aload_n hx hb dX6_deviation_0 rfl (lv_at hl 0 rfl) ?_
  refine lv_aload_n hx hb dX6_deviation_1 rfl (lv_at hl 0 rfl) ?_
  refine va_get (D := gD G) (ci := 4) (v := .ref (a0 0)) (C := RX6) (T := TX6) (N := 22) hx hb hg kl_X6 hown hK hP 0 rfl rfl 0 (by decide) (hg _ kq5_5) (fun _ h9 => h9) rfl dX6_deviation_2 ?_
  refine lv_bipush (v := (13 : Int32)) hx hb dX6_deviation_5 (by decide) ?_
  refine va_lald (f := (u0.2.2.2 0)) hx hb hK hP 1 2 rfl rfl (vin (by decide)) dX6_deviation_7 ?_
  refine lv_ldc2 hx hb hown (hg _ kq6_9) dX6_deviation_8 ?_
  refine lc_ge (tgt := 19) hx hb dX6_deviation_11 dX6_deviation_12 (by decide) (fun c1 => ?_) (fun c1 => ?_)
  · have hf := tp hf c1
    refine lv_iconst (v := (0 : Int32)) hx hb dX6_deviation_19 (by decide) ?_
    refine va_put (D := gD G) (ci := 4) (v := .int (0 : Int32)) (ty := .int) (C := RX6) (T := TX6) (N := 22) hx hb hg kl_X6 tyX6 tyX6_ok nmX6 hown hK hP hD hS 0 rfl rfl 7 (by decide) (hg _ kq5_12) (fun _ h9 => h9) rfl (by decide +kernel) rfl rfl (Nat.le_of_ble_eq_true rfl) dX6_deviation_20 (fun H locs hP hD hS => ?_)
    have hP : va_P (gD G) vwCl (wX6 G h0 a0 (oi u0 7 (0 : Int32))) H := hP
    have hD : va_D A (wX6 G h0 a0 (oi u0 7 (0 : Int32))) := hD
    refine lv_aload_n hx hb dX6_deviation_23 rfl (lv_at hl 0 rfl) ?_
    refine va_get (D := gD G) (ci := 4) (v := .int (0 : Int32)) (C := RX6) (T := TX6) (N := 22) hx hb hg kl_X6 hown hK hP 0 rfl rfl 7 (by decide) (hg _ kq5_12) (fun _ h9 => h9) rfl dX6_deviation_24 ?_
    refine lv_if_le (tgt := 32) hx hb dX6_deviation_27 (by decide) (fun c2 => ?_) (fun c2 => ?_)
    rotate_left
    · exact absurd c2 (by decide)
    refine lv_lconst (v := (0 : Int64)) hx hb dX6_deviation_32 (by decide) ?_
    refine lv_lstore_n (lv' := [(1, .long (0 : Int64)), (0, .ref h0)]) hx hb dX6_deviation_33 rfl hl (by decide) rfl (fun ls hl => ?_)
    refine lv_iconst (v := (1 : Int32)) hx hb dX6_deviation_34 (by decide) ?_
    refine lv_istore_n (lv' := [(3, .int (1 : Int32)), (1, .long (0 : Int64)), (0, .ref h0)]) hx hb dX6_deviation_35 rfl hl (by decide) rfl (fun ls hl => ?_)
    exact lp_36 N _ _ _ hf _ _ _ hP hD hS (lv_sub hl [2, 1, 0] rfl)
  · have hf := tn hf c1
    refine lv_iconst (v := (1 : Int32)) hx hb dX6_deviation_15 (by decide) ?_
    refine lv_goto (tgt := 20) hx hb dX6_deviation_16 (by decide) ?_
    refine va_put (D := gD G) (ci := 4) (v := .int (1 : Int32)) (ty := .int) (C := RX6) (T := TX6) (N := 22) hx hb hg kl_X6 tyX6 tyX6_ok nmX6 hown hK hP hD hS 0 rfl rfl 7 (by decide) (hg _ kq5_12) (fun _ h9 => h9) rfl (by decide +kernel) rfl rfl (Nat.le_of_ble_eq_true rfl) dX6_deviation_20 (fun H locs hP hD hS => ?_)
    have hP : va_P (gD G) vwCl (wX6 G h0 a0 (oi u0 7 (1 : Int32))) H := hP
    have hD : va_D A (wX6 G h0 a0 (oi u0 7 (1 : Int32))) := hD
    refine lv_aload_n hx hb dX6_deviation_23 rfl (lv_at hl 0 rfl) ?_
    refine va_get (D := gD G) (ci := 4) (v := .int (1 : Int32)) (C := RX6) (T := TX6) (N := 22) hx hb hg kl_X6 hown hK hP 0 rfl rfl 7 (by decide) (hg _ kq5_12) (fun _ h9 => h9) rfl dX6_deviation_24 ?_
    refine lv_if_le (tgt := 32) hx hb dX6_deviation_27 (by decide) (fun c9 => ?_) (fun c9 => ?_)
    · exact absurd c9 (by decide)
    refine lv_fconst0 hx hb dX6_deviation_30 ?_
    have hf := Option.some.inj hf
    subst hf
    exact e_f (wf := (fun v : Ob => (wX6 G h0 a0 v))) hx hb hr hlk (oi u0 7 (1 : Int32)) ⟨rfl, rfl⟩ hP hK hD hS dX6_deviation_31
set_option maxRecDepth 100000 in
set_option maxHeartbeats 4000000 in
theorem c_X5_deviation {l : Launch} (hlf : l.stackTraces = false) {G : Gp} {sz N : Nat} {h0 : Nat} {a0 a1 : Nat → Nat} {ra rb : Nat → Nat → Nat} {u0 u1 : Ob} {u2 u3 : Nat → Ob} {q : (Nat ⊕ UInt32) × Ob × Ob × (Nat → Ob) × (Nat → Ob)} (hf : f_X5_deviation N u0 u1 u2 u3 = some q) : vx_Met l yX5_deviation (Cond.code yX5_deviation cX5_deviation 5 (some .float) :: lw_g) ({ frames := 6, cells := 1, slots := 6, locals := 90 } : Room) (va_Pc [.ref h0] (pw G (wAll G h0 a0 u0 a1 u1 ra rb u2 u3) sz)) (va_Qf (fun (r : UInt32) (v : Ob × Ob × (Nat → Ob) × (Nat → Ob)) => q = (.inr r, v)) (bw G (fun v : Ob × Ob × (Nat → Ob) × (Nat → Ob) => (wAll G h0 a0 v.1 a1 v.2.1 ra rb v.2.2.1 v.2.2.2)) (va_A (wAll G h0 a0 u0 a1 u1 ra rb u2 u3) sz)) (va_A (wAll G h0 a0 u0 a1 u1 ra rb u2 u3) sz)) (XQ (fun z : Nat × (Ob × Ob × (Nat → Ob) × (Nat → Ob)) => q = (.inl z.1, z.2)) G (fun v : Ob × Ob × (Nat → Ob) × (Nat → Ob) => (wAll G h0 a0 v.1 a1 v.2.1 ra rb v.2.2.1 v.2.2.2)) (va_A (wAll G h0 a0 u0 a1 u1 ra rb u2 u3) sz)) 1 6 (va_A (wAll G h0 a0 u0 a1 u1 ra rb u2 u3) sz) := by
  refine mtx (Qc := (fun A => va_Qf (fun (r : UInt32) (v : Ob × Ob × (Nat → Ob) × (Nat → Ob)) => q = (.inr r, v)) (bw G (fun v : Ob × Ob × (Nat → Ob) × (Nat → Ob) => (wAll G h0 a0 v.1 a1 v.2.1 ra rb v.2.2.1 v.2.2.2)) A) A)) (XC := fun A => XQ (fun z : Nat × (Ob × Ob × (Nat → Ob) × (Nat → Ob)) => q = (.inl z.1, z.2)) G (fun v : Ob × Ob × (Nat → Ob) × (Nat → Ob) => (wAll G h0 a0 v.1 a1 v.2.1 ra rb v.2.2.1 v.2.2.2)) A) (by decide) (Nat.le_of_ble_eq_true rfl) ?_
  intro p e s m below meth c A ls hx hb hr hlk hml htb hts hown hA hP hK hD hE hS hl
  have hown : s.vm.findClass RX5 = some m.cls := hown
  have hg : ∀ w ∈ lw_g, w.before ([.ref h0] : List Value).toArray s = true := fun w h => hts w (List.mem_cons_of_mem _ h)
  have hC : CallFix p m c cX5_deviation 5 s ([.ref h0] : List Value).toArray (Cond.code yX5_deviation cX5_deviation 5 (some .float) :: lw_g) RX5 := ⟨hx, hb, hml, hown, hts⟩
  have hl : lv_has ls 5 [(0, .ref h0)] := hl
  have lp_31 : ∀ (n : Nat) (x1 : Int32) (x2 : Int64) (x4 : Int32) (u0 : Ob) (u1 : Ob) (u2 : (Nat → Ob)) (u3 : (Nat → Ob)), l_X5_deviation_31 N n x1 x2 x4 u0 u1 u2 u3 = some q → ∀ (H : Heap) (locs : List Loc) (ls : Array Slot), va_P (gD G) vwCl (wAll G h0 a0 u0 a1 u1 ra rb u2 u3) H → va_D A (wAll G h0 a0 u0 a1 u1 ra rb u2 u3) → va_S A s.heap H locs → lv_has ls 5 [(0, .ref h0), (1, .int x1), (2, .long x2), (4, .int x4)] → W p l e ({ frames := 6, cells := 1, slots := 6, locals := 90 } : Room) s m ([.ref h0] : List Value).toArray below meth c H locs 0 0 (vx_MQ below (va_Qf (fun (r : UInt32) (v : Ob × Ob × (Nat → Ob) × (Nat → Ob)) => q = (.inr r, v)) (bw G (fun v : Ob × Ob × (Nat → Ob) × (Nat → Ob) => (wAll G h0 a0 v.1 a1 v.2.1 ra rb v.2.2.1 v.2.2.2)) A) A) (XQ (fun z : Nat × (Ob × Ob × (Nat → Ob) × (Nat → Ob)) => q = (.inl z.1, z.2)) G (fun v : Ob × Ob × (Nat → Ob) × (Nat → Ob) => (wAll G h0 a0 v.1 a1 v.2.1 ra rb v.2.2.1 v.2.2.2)) A) ([.ref h0] : List Value).toArray s 1 6 A) (F0 m 31 ls []) := by
    intro n
    induction n with
    | zero => intro x1 x2 x4 u0 u1 u2 u3 hf; rw [l_X5_deviation_31] at hf; cases hf
    | succ n ih =>
      intro x1 x2 x4 u0 u1 u2 u3 hf H locs ls hP hD hS hl
      rw [l_X5_deviation_31] at hf
      refine lv_iload hx hb dX5_deviation_31 (lv_at hl 3 rfl) ?_
      refine lv_iload_n hx hb dX5_deviation_33 rfl (lv_at hl 1 rfl) ?_
      refine lv_icmp_gt (tgt := 75) hx hb dX5_deviation_34 (by decide) (fun c2 => ?_) (fun c2 => ?_)
      · have hf := tp hf c2
        refine lv_lload_n hx hb dX5_deviation_75 rfl (lv_at hl 2 rfl) ?_
        refine lv_l2f hx hb dX5_deviation_76 ?_
        refine lv_iload_n hx hb dX5_deviation_77 rfl (lv_at hl 1 rfl) ?_
        refine lv_i2f hx hb dX5_deviation_78 ?_
        obtain ⟨b3, hf⟩ := tno hf
        refine lv_fdiv hx hb dX5_deviation_79 (Classical.not_not.mp b3) ?_
        have hf := Option.some.inj hf
        subst hf
        refine W.widen (k := 1) (n := 6) (Nat.zero_le _) (Nat.zero_le _) ?_
        refine vx_ret ?_
        exact e_f (wf := (fun v : Ob × Ob × (Nat → Ob) × (Nat → Ob) => (wAll G h0 a0 v.1 a1 v.2.1 ra rb v.2.2.1 v.2.2.2))) hx hb hr hlk (u0, (u1, (u2, u3))) rfl hP hK hD hS dX5_deviation_80
      · have hf := tn hf c2
        refine lv_iload hx hb dX5_deviation_37 (lv_at hl 3 rfl) ?_
        refine lv_bipush (v := (8 : Int32)) hx hb dX5_deviation_39 (by decide) ?_
        refine lv_icmp_ge (tgt := 75) hx hb dX5_deviation_41 (by decide) (fun c4 => ?_) (fun c4 => ?_)
        · have hf := tp hf c4
          refine lv_lload_n hx hb dX5_deviation_75 rfl (lv_at hl 2 rfl) ?_
          refine lv_l2f hx hb dX5_deviation_76 ?_
          refine lv_iload_n hx hb dX5_deviation_77 rfl (lv_at hl 1 rfl) ?_
          refine lv_i2f hx hb dX5_deviation_78 ?_
          obtain ⟨b5, hf⟩ := tno hf
          refine lv_fdiv hx hb dX5_deviation_79 (Classical.not_not.mp b5) ?_
          have hf := Option.some.inj hf
          subst hf
          refine W.widen (k := 1) (n := 6) (Nat.zero_le _) (Nat.zero_le _) ?_
          refine vx_ret ?_
          exact e_f (wf := (fun v : Ob × Ob × (Nat → Ob) × (Nat → Ob) => (wAll G h0 a0 v.1 a1 v.2.1 ra rb v.2.2.1 v.2.2.2))) hx hb hr hlk (u0, (u1, (u2, u3))) rfl hP hK hD hS dX5_deviation_80
        · have hf := tn hf c4
          refine lv_lload_n hx hb dX5_deviation_44 rfl (lv_at hl 2 rfl) ?_
          refine lv_aload_n hx hb dX5_deviation_45 rfl (lv_at hl 0 rfl) ?_
          refine va_get (D := gD G) (ci := 3) (v := .ref (a0 (20 + 0))) (C := RX5) (T := TX5) (N := 11) hx hb hg kl_X5 hown hK hP 0 rfl rfl 0 (by decide) (hg _ kq1_179) (fun _ h9 => h9) rfl dX5_deviation_46 ?_
          refine lv_iload hx hb dX5_deviation_49 (lv_at hl 3 rfl) ?_
          obtain ⟨q6, e7, hf⟩ := tbd hf
          refine kVpl (As := [.int x4]) (rest := [.long x2]) hC (c_X4_minutesSinceFix (G := G) e7) kq4_135 kc_X4_minutesSinceFix (by decide) 0 (ci := 2) rfl rfl hP hK hD hE hS hA (pR4 (i := 0) (by omega)) (qR4 (i := 0) (by omega)) hl.1 (Nat.le_of_ble_eq_true rfl) ⟨Nat.zero_le _, Nat.zero_le _⟩ dX5_deviation_51 (fun r9 u9 H locs hw hP hD hS => ?_)
          obtain ⟨rfl, rfl⟩ := hw
          have hP : va_P (gD G) vwCl (wAll G h0 a0 u0 a1 u1 ra rb u2 u3) H := by simpa only [va_up_id, va_up_up] using hP
          have hD : va_D A (wAll G h0 a0 u0 a1 u1 ra rb u2 u3) := by simpa only [va_up_id, va_up_up] using hD
          refine lv_aload_n hx hb dX5_deviation_54 rfl (lv_at hl 0 rfl) ?_
          refine va_get (D := gD G) (ci := 3) (v := .ref (a0 (20 + 0))) (C := RX5) (T := TX5) (N := 11) hx hb hg kl_X5 hown hK hP 0 rfl rfl 0 (by decide) (hg _ kq1_179) (fun _ h9 => h9) rfl dX5_deviation_55 ?_
          refine lv_iload hx hb dX5_deviation_58 (lv_at hl 3 rfl) ?_
          obtain ⟨q8, e9, hf⟩ := tbd hf
          refine kVpl (As := [.int x4]) (rest := [.long q6, .long x2]) hC (c_X4_timeSinceFix (G := G) e9) kq4_140 kc_X4_timeSinceFix (by decide) 0 (ci := 2) rfl rfl hP hK hD hE hS hA (pR4 (i := 0) (by omega)) (qR4 (i := 0) (by omega)) hl.1 (Nat.le_of_ble_eq_true rfl) ⟨Nat.zero_le _, Nat.zero_le _⟩ dX5_deviation_60 (fun r9 u9 H locs hw hP hD hS => ?_)
          obtain ⟨rfl, rfl⟩ := hw
          have hP : va_P (gD G) vwCl (wAll G h0 a0 u0 a1 u1 ra rb u2 u3) H := by simpa only [va_up_id, va_up_up] using hP
          have hD : va_D A (wAll G h0 a0 u0 a1 u1 ra rb u2 u3) := by simpa only [va_up_id, va_up_up] using hD
          refine lv_lsub hx hb dX5_deviation_63 ?_
          refine va_mabs_long hx hb (hml.trans hl.1.symm) hown (hg _ kq4_144) (hg _ kq4_145) (hg _ kq1_12) (hg _ kq4_146) (Nat.le_of_ble_eq_true rfl) (Nat.le_of_ble_eq_true rfl) (Nat.zero_le _) (Nat.zero_le _) (x := (q6 - q8)) dX5_deviation_64 ?_
          refine lv_ladd hx hb dX5_deviation_67 ?_
          refine lv_lstore_n (lv' := [(2, .long (x2 + (if (0 : Int64) < (q6 - q8) then (q6 - q8) else -(q6 - q8)))), (0, .ref h0), (1, .int x1), (4, .int x4)]) hx hb dX5_deviation_68 rfl hl (by decide) rfl (fun ls hl => ?_)
          refine lv_iinc (v := (x4 + (1 : Int32))) (lv' := [(4, .int (x4 + (1 : Int32))), (2, .long (x2 + (if (0 : Int64) < (q6 - q8) then (q6 - q8) else -(q6 - q8)))), (0, .ref h0), (1, .int x1)]) hx hb dX5_deviation_69 hl (k := 3) rfl rfl (by decide) rfl (fun ls hl => ?_)
          refine lv_goto (tgt := 31) hx hb dX5_deviation_72 (by decide) ?_
          exact ih _ _ _ _ _ _ _ hf _ _ _ hP hD hS (lv_sub hl [2, 3, 1, 0] rfl)
  rw [f_X5_deviation] at hf
  refine lv_aload_n hx hb dX5_deviation_0 rfl (lv_at hl 0 rfl) ?_
  refine va_get (D := gD G) (ci := 3) (v := .ref (a0 (20 + 0))) (C := RX5) (T := TX5) (N := 11) hx hb hg kl_X5 hown hK hP 0 rfl rfl 0 (by decide) (hg _ kq1_179) (fun _ h9 => h9) rfl dX5_deviation_1 ?_
  refine va_get (D := gD G) (ci := 2) (v := .int ((u2 0).1 16)) (C := RX4) (T := TX4) (N := 18) hx hb hg kl_X4 hown hK hP 7 rfl rfl 16 (by decide) (hg _ kq1_85) (fun _ h9 => h9) rfl dX5_deviation_4 ?_
  refine lv_iconst (v := (1 : Int32)) hx hb dX5_deviation_7 (by decide) ?_
  refine lv_isub hx hb dX5_deviation_8 ?_
  refine lv_istore_n (lv' := [(1, .int (((u2 0).1 16) - (1 : Int32))), (0, .ref h0)]) hx hb dX5_deviation_9 rfl hl (by decide) rfl (fun ls hl => ?_)
  refine lv_iload_n hx hb dX5_deviation_10 rfl (lv_at hl 0 rfl) ?_
  refine lv_iconst (v := (1 : Int32)) hx hb dX5_deviation_11 (by decide) ?_
  refine lv_icmp_ge (tgt := 26) hx hb dX5_deviation_12 (by decide) (fun c1 => ?_) (fun c1 => ?_)
  · have hf := tp hf c1
    refine lv_lconst (v := (0 : Int64)) hx hb dX5_deviation_26 (by decide) ?_
    refine lv_lstore_n (lv' := [(2, .long (0 : Int64)), (1, .int (((u2 0).1 16) - (1 : Int32))), (0, .ref h0)]) hx hb dX5_deviation_27 rfl hl (by decide) rfl (fun ls hl => ?_)
    refine lv_iconst (v := (1 : Int32)) hx hb dX5_deviation_28 (by decide) ?_
    refine lv_istore (lv' := [(4, .int (1 : Int32)), (2, .long (0 : Int64)), (1, .int (((u2 0).1 16) - (1 : Int32))), (0, .ref h0)]) hx hb dX5_deviation_29 hl (by decide) rfl (fun ls hl => ?_)
    exact lp_31 N _ _ _ _ _ _ _ hf _ _ _ hP hD hS (lv_sub hl [3, 2, 1, 0] rfl)
  · have hf := tn hf c1
    have hf := Option.some.inj hf
    subst hf
    exact thN (wf := (fun v : Ob × Ob × (Nat → Ob) × (Nat → Ob) => (wAll G h0 a0 v.1 a1 v.2.1 ra rb v.2.2.1 v.2.2.2))) (tx := "fewer than two fixes") (u0, (u1, (u2, u3))) hx hb hlf hml hlk htb hown hg kq4_74 kq1_21 (by decide +kernel) hP hK hD hE hS hl.1 rfl (by decide) dX5_deviation_15 dX5_deviation_18 dX5_deviation_19 dX5_deviation_22 dX5_deviation_25
