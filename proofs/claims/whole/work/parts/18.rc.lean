theorem nd_perm {l l' : List Nat} (h : l.Perm l') : l.Nodup → l'.Nodup := by
  induction h with
  | nil => exact id
  | cons x h ih =>
    intro hn
    rw [List.nodup_cons] at hn ⊢
    exact ⟨fun hm => hn.1 (h.mem_iff.mpr hm), ih hn.2⟩
  | swap x y l =>
    intro hn
    simp only [List.nodup_cons, List.mem_cons, not_or] at hn ⊢
    exact ⟨⟨fun e => hn.1.1 e.symm, hn.2.1⟩, hn.1.2, hn.2.2⟩
  | trans _ _ ih1 ih2 => exact fun h => ih2 (ih1 h)
theorem va_P_mem {D : va_G} {cl : List vw_C} {ws ws' : va_W} {H : Heap} (h : va_P D cl ws H) (hs : ∀ q ∈ ws', q ∈ ws) : va_P D cl ws' H := fun k q hk => by
  obtain ⟨i, hi⟩ := List.getElem?_of_mem (hs q (List.mem_of_getElem? hk))
  exact h i q hi
theorem va_P_perm {D : va_G} {cl : List vw_C} {ws ws' : va_W} {H : Heap} (h : va_P D cl ws H) (hp : ws.Perm ws') : va_P D cl ws' H := va_P_mem h fun _ hq => hp.mem_iff.mpr hq
theorem va_D_nd {A : Nat → Prop} {ws : va_W} (h : va_D A ws) : (ws.map Prod.fst).Nodup := by
  rw [List.Nodup, List.pairwise_iff_getElem]
  intro i j hi hj hij e
  have hi' : i < ws.length := by simpa using hi
  have hj' : j < ws.length := by simpa using hj
  rw [List.getElem_map, List.getElem_map] at e
  have := h.1 i j ws[i] ws[j] (List.getElem?_eq_getElem hi') (List.getElem?_eq_getElem hj') e
  omega
theorem nd_va_D {A : Nat → Prop} {ws : va_W} (h : (ws.map Prod.fst).Nodup) (hA : ∀ q ∈ ws, A q.1) : va_D A ws := by
  rw [List.Nodup, List.pairwise_iff_getElem] at h
  refine ⟨fun i j p q hi hj e => ?_, fun k q hk => hA q (List.mem_of_getElem? hk)⟩
  obtain ⟨hi1, hi2⟩ := List.getElem?_eq_some_iff.mp hi
  obtain ⟨hj1, hj2⟩ := List.getElem?_eq_some_iff.mp hj
  rcases Nat.lt_trichotomy i j with hl | hl | hl
  · refine absurd ?_ (h i j (by simpa using hi1) (by simpa using hj1) hl)
    rw [List.getElem_map, List.getElem_map, hi2, hj2, e]
  · exact hl
  · refine absurd ?_ (h j i (by simpa using hj1) (by simpa using hi1) hl)
    rw [List.getElem_map, List.getElem_map, hi2, hj2, e]
theorem va_D_perm {A : Nat → Prop} {ws ws' : va_W} (h : va_D A ws) (hp : ws.Perm ws') : va_D A ws' := nd_va_D (nd_perm (hp.map _) (va_D_nd h)) fun q hq => by
  obtain ⟨i, hi⟩ := List.getElem?_of_mem (hp.mem_iff.mpr hq)
  exact h.2 i q hi
theorem va_D_l {A : Nat → Prop} {x y : va_W} (h : va_D A (x ++ y)) : va_D A x := nd_va_D (by have := va_D_nd h; rw [List.map_append, List.nodup_append] at this; exact this.1) fun q hq => by
  obtain ⟨i, hi⟩ := List.getElem?_of_mem (List.mem_append_left y hq)
  exact h.2 i q hi
theorem va_D_r {A : Nat → Prop} {x y : va_W} (h : va_D A (x ++ y)) : va_D A y := nd_va_D (by have := va_D_nd h; rw [List.map_append, List.nodup_append] at this; exact this.2.1) fun q hq => by
  obtain ⟨i, hi⟩ := List.getElem?_of_mem (List.mem_append_right x hq)
  exact h.2 i q hi
theorem joinA {A0 : Nat → Prop} {D : va_G} {cl : List vw_C} {wc wr w1 : va_W} {H H1 : Heap} (hP : va_P D cl (wc ++ wr) H) (hD : va_D A0 (wc ++ wr)) (hk : ∀ q : Nat, q < H.size → ¬ va_A wc H.size q → H1[q]? = H[q]?) (hF : ∀ q, va_A wc H.size q → A0 q) (hP1 : va_P D cl w1 H1) (hD1 : va_D (va_A wc H.size) w1) : va_P D cl (w1 ++ wr) H1 ∧ va_D A0 (w1 ++ wr) := by
  have apart : ∀ (k : Nat) (q : Nat × va_E), wr[k]? = some q → q.1 < H.size ∧ ¬ va_A wc H.size q.1 := by
    intro k q hq
    have h2 : (wc ++ wr)[wc.length + k]? = some q := by rw [List.getElem?_append_right (Nat.le_add_right _ _)]; simpa using hq
    have hl := (hP _ q h2).lt
    refine ⟨hl, fun h => ?_⟩
    rcases h with ⟨j, e, h⟩ | h
    · have hj : j < wc.length := (List.getElem?_eq_some_iff.mp h).1
      have h3 : (wc ++ wr)[j]? = some (q.1, e) := by rw [List.getElem?_append_left hj]; exact h
      have := hD.1 j _ (q.1, e) q h3 h2 rfl
      omega
    · omega
  refine ⟨hP1.app ((va_P_mem hP fun q hq => List.mem_append_right _ hq).kept fun k q hq => hk q.1 (apart k q hq).1 (apart k q hq).2), (hD1.weaken fun k q hq h => hF _ h).app (va_D_r hD) fun i j p q hi hj e => ?_⟩
  exact (apart j q hj).2 (e ▸ hD1.2 i p hi)
theorem pm2 {α : Type} (A B C D : List α) : (A ++ (B ++ (C ++ D))).Perm (C ++ (A ++ (B ++ D))) := ((List.perm_append_comm_assoc B C D).append_left A).trans (List.perm_append_comm_assoc A C (B ++ D))
def dl (i : Nat) : List Nat → List Nat
  | [] => []
  | a :: l => if a = i then l else a :: dl i l
theorem fm_split (f : Nat → va_W) (i : Nat) : ∀ l : List Nat, i ∈ l → (l.flatMap f).Perm (f i ++ (dl i l).flatMap f)
  | [], h => absurd h List.not_mem_nil
  | a :: l, h => by
    by_cases e : a = i
    · subst e
      rw [dl, if_pos rfl, List.flatMap_cons]
    · rw [dl, if_neg e, List.flatMap_cons, List.flatMap_cons]
      have h2 : i ∈ l := (List.mem_cons.mp h).resolve_left fun z => e z.symm
      exact ((fm_split f i l h2).append_left (f a)).trans (List.perm_append_comm_assoc _ _ _)
theorem fm_congr {f g : Nat → va_W} : ∀ l : List Nat, (∀ j ∈ l, f j = g j) → l.flatMap f = l.flatMap g
  | [], _ => rfl
  | a :: l, h => by rw [List.flatMap_cons, List.flatMap_cons, h a List.mem_cons_self, fm_congr l fun j hj => h j (List.mem_cons_of_mem _ hj)]
theorem dl_ne : ∀ i, i < 13 → ∀ j ∈ dl i (List.range 13), j ≠ i := by decide
theorem dl_mem : ∀ i, i < 13 → ∀ k, k < 13 → k ≠ i → k ∈ dl i (List.range 13) := by decide
theorem dl_ne2 : ∀ i, i < 13 → ∀ k, k < 13 → ∀ j ∈ dl k (dl i (List.range 13)), j ≠ i ∧ (k ≠ i → j ≠ k) := by decide
def wX5 (G : Gp) (h : Nat) (ad : Nat → Nat) (u : Ob) : va_W := [(h, .inr (3, [.ref (ad 20), .ref (ad 21), .ref (ad 22), .ref (ad 3), .int (u.1 4), .int (u.1 5), .ref (ad 6), .ref (ad 7), .ref (ad 8), .ref (ad 9), .int (u.1 10)])), (ad 3, .inl (G.2.2.1 4, 8, .inr (.inr (.inr (.inr fun j => some (ad (20 + (3 + j)))))))), (ad 6, .inl (G.2.2.1 4, 2, .inr (.inr (.inr (.inr fun j => some (ad (20 + (11 + j)))))))), (ad 7, .inl (G.2.2.1 3, 2, .inl (u.2.2.1 7))), (ad 9, .inl (G.2.2.1 0, 18, .inl (u.2.2.1 9)))]
def wRc (G : Gp) (a0 : Nat → Nat) (ra rb : Nat → Nat → Nat) (ru rv : Nat → Ob) (i : Nat) : va_W := wX4 G (a0 (20 + i)) (ra i) (ru i) ++ wX0 G (ra i 17) (rb i) (rv i)
def wRs (G : Gp) (a0 : Nat → Nat) (ra rb : Nat → Nat → Nat) (ru rv : Nat → Ob) : va_W := (List.range 13).flatMap (wRc G a0 ra rb ru rv)
def wRo (G : Gp) (a0 : Nat → Nat) (ra rb : Nat → Nat → Nat) (ru rv : Nat → Ob) (i : Nat) : va_W := (dl i (List.range 13)).flatMap (wRc G a0 ra rb ru rv)
def wRp (G : Gp) (a0 : Nat → Nat) (ra rb : Nat → Nat → Nat) (ru rv : Nat → Ob) (i k : Nat) : va_W := (dl k (dl i (List.range 13))).flatMap (wRc G a0 ra rb ru rv)
def wAll (G : Gp) (h0 : Nat) (a0 : Nat → Nat) (u0 : Ob) (a1 : Nat → Nat) (u1 : Ob) (ra rb : Nat → Nat → Nat) (ru rv : Nat → Ob) : va_W := wX5 G h0 a0 u0 ++ (wX3 G (a0 8) a1 u1 ++ wRs G a0 ra rb ru rv)
section RC
variable {G : Gp} {h0 : Nat} {a0 : Nat → Nat} {u0 : Ob} {a1 : Nat → Nat} {u1 : Ob} {ra rb : Nat → Nat → Nat} {ru rv : Nat → Ob}
theorem wRc_up {i j : Nat} (x y : Ob) (h : j ≠ i) : wRc G a0 ra rb (va_up ru i x) (va_up rv i y) j = wRc G a0 ra rb ru rv j := by unfold wRc; rw [va_up_ne _ _ h, va_up_ne _ _ h]
theorem wRo_up {i : Nat} (hi : i < 13) (x y : Ob) : wRo G a0 ra rb (va_up ru i x) (va_up rv i y) i = wRo G a0 ra rb ru rv i := fm_congr _ fun j hj => wRc_up x y (dl_ne i hi j hj)
theorem va_up_id {α : Type} (f : Nat → α) (i : Nat) : va_up f i (f i) = f := by funext j; by_cases h : j = i <;> simp [va_up, h]
theorem va_up_up {α : Type} (f : Nat → α) (i : Nat) (x y : α) : va_up (va_up f i x) i y = va_up f i y := by funext j; by_cases h : j = i <;> simp [va_up, h]
theorem wRs_1 {i : Nat} (hi : i < 13) : (wRs G a0 ra rb ru rv).Perm (wRc G a0 ra rb ru rv i ++ wRo G a0 ra rb ru rv i) := fm_split _ i _ (List.mem_range.mpr hi)
theorem wRs_2 {i k : Nat} (hi : i < 13) (hk : k < 13) (n : k ≠ i) : (wRs G a0 ra rb ru rv).Perm (wRc G a0 ra rb ru rv i ++ (wRc G a0 ra rb ru rv k ++ wRp G a0 ra rb ru rv i k)) := (wRs_1 hi).trans ((fm_split _ k _ (dl_mem i hi k hk n)).append_left _)
/-- receiver i with its ballot -/
theorem pR40 {i : Nat} (hi : i < 13) : (wAll G h0 a0 u0 a1 u1 ra rb ru rv).Perm ((wX4 G (a0 (20 + i)) (ra i) (ru i) ++ wX0 G (ra i 17) (rb i) (rv i)) ++ (wX5 G h0 a0 u0 ++ (wX3 G (a0 8) a1 u1 ++ wRo G a0 ra rb ru rv i))) :=
  (((wRs_1 hi).append_left _).append_left _).trans (pm2 _ _ _ _)
theorem qR40 {i : Nat} (hi : i < 13) (x y : Ob) : ((wX4 G (a0 (20 + i)) (ra i) x ++ wX0 G (ra i 17) (rb i) y) ++ (wX5 G h0 a0 u0 ++ (wX3 G (a0 8) a1 u1 ++ wRo G a0 ra rb ru rv i))).Perm (wAll G h0 a0 u0 a1 u1 ra rb (va_up ru i x) (va_up rv i y)) := by
  have h := pR40 (G := G) (h0 := h0) (a0 := a0) (u0 := u0) (a1 := a1) (u1 := u1) (ra := ra) (rb := rb) (ru := va_up ru i x) (rv := va_up rv i y) hi
  rw [va_up_self, va_up_self, wRo_up hi] at h
  exact h.symm
/-- receiver i without its ballot -/
theorem pR4 {i : Nat} (hi : i < 13) : (wAll G h0 a0 u0 a1 u1 ra rb ru rv).Perm (wX4 G (a0 (20 + i)) (ra i) (ru i) ++ (wX0 G (ra i 17) (rb i) (rv i) ++ (wX5 G h0 a0 u0 ++ (wX3 G (a0 8) a1 u1 ++ wRo G a0 ra rb ru rv i)))) := by
  have h := pR40 (G := G) (h0 := h0) (a0 := a0) (u0 := u0) (a1 := a1) (u1 := u1) (ra := ra) (rb := rb) (ru := ru) (rv := rv) hi
  rwa [List.append_assoc] at h
theorem qR4 {i : Nat} (hi : i < 13) (x : Ob) : (wX4 G (a0 (20 + i)) (ra i) x ++ (wX0 G (ra i 17) (rb i) (rv i) ++ (wX5 G h0 a0 u0 ++ (wX3 G (a0 8) a1 u1 ++ wRo G a0 ra rb ru rv i)))).Perm (wAll G h0 a0 u0 a1 u1 ra rb (va_up ru i x) rv) := by
  have h := qR40 (G := G) (h0 := h0) (a0 := a0) (u0 := u0) (a1 := a1) (u1 := u1) (ra := ra) (rb := rb) (ru := ru) (rv := rv) hi x (rv i)
  rw [va_up_id rv i] at h
  rwa [List.append_assoc] at h
/-- the ballot of receiver i -/
theorem pR0 {i : Nat} (hi : i < 13) : (wAll G h0 a0 u0 a1 u1 ra rb ru rv).Perm (wX0 G (ra i 17) (rb i) (rv i) ++ (wX4 G (a0 (20 + i)) (ra i) (ru i) ++ (wX5 G h0 a0 u0 ++ (wX3 G (a0 8) a1 u1 ++ wRo G a0 ra rb ru rv i)))) := (pR4 hi).trans (List.perm_append_comm_assoc _ _ _)
theorem qR0 {i : Nat} (hi : i < 13) (y : Ob) : (wX0 G (ra i 17) (rb i) y ++ (wX4 G (a0 (20 + i)) (ra i) (ru i) ++ (wX5 G h0 a0 u0 ++ (wX3 G (a0 8) a1 u1 ++ wRo G a0 ra rb ru rv i)))).Perm (wAll G h0 a0 u0 a1 u1 ra rb ru (va_up rv i y)) := by
  have h := qR40 (G := G) (h0 := h0) (a0 := a0) (u0 := u0) (a1 := a1) (u1 := u1) (ra := ra) (rb := rb) (ru := ru) (rv := rv) hi (ru i) y
  rw [va_up_id ru i, List.append_assoc] at h
  exact (List.perm_append_comm_assoc _ _ _).trans h
/-- the reader -/
theorem pR3 : (wAll G h0 a0 u0 a1 u1 ra rb ru rv).Perm (wX3 G (a0 8) a1 u1 ++ (wX5 G h0 a0 u0 ++ wRs G a0 ra rb ru rv)) := List.perm_append_comm_assoc _ _ _
theorem qR3 (x : Ob) : (wX3 G (a0 8) a1 x ++ (wX5 G h0 a0 u0 ++ wRs G a0 ra rb ru rv)).Perm (wAll G h0 a0 u0 a1 x ra rb ru rv) := List.perm_append_comm_assoc _ _ _
/-- the reader, and receiver i -/
theorem pR34 {i : Nat} (hi : i < 13) : (wAll G h0 a0 u0 a1 u1 ra rb ru rv).Perm ((wX3 G (a0 8) a1 u1 ++ wX4 G (a0 (20 + i)) (ra i) (ru i)) ++ (wX5 G h0 a0 u0 ++ (wX0 G (ra i 17) (rb i) (rv i) ++ wRo G a0 ra rb ru rv i))) := by
  rw [List.append_assoc]
  refine pR3.trans (List.Perm.append_left _ ?_)
  refine ((wRs_1 hi).append_left _).trans ?_
  rw [wRc, List.append_assoc]
  exact List.perm_append_comm_assoc _ _ _
theorem qR34 {i : Nat} (hi : i < 13) (x y : Ob) : ((wX3 G (a0 8) a1 x ++ wX4 G (a0 (20 + i)) (ra i) y) ++ (wX5 G h0 a0 u0 ++ (wX0 G (ra i 17) (rb i) (rv i) ++ wRo G a0 ra rb ru rv i))).Perm (wAll G h0 a0 u0 a1 x ra rb (va_up ru i y) rv) := by
  have h := pR34 (G := G) (h0 := h0) (a0 := a0) (u0 := u0) (a1 := a1) (u1 := x) (ra := ra) (rb := rb) (ru := va_up ru i y) (rv := va_up rv i (rv i)) hi
  rw [va_up_self, va_up_self, wRo_up hi, va_up_id rv i] at h
  exact h.symm
/-- receivers i and k, for a copy into i -/
theorem pR44 {i k : Nat} (hi : i < 13) (hk : k < 13) (n : k ≠ i) : (wAll G h0 a0 u0 a1 u1 ra rb ru rv).Perm ((wX4 G (a0 (20 + i)) (ra i) (ru i) ++ wX4 G (a0 (20 + k)) (ra k) (ru k)) ++ (wX5 G h0 a0 u0 ++ (wX3 G (a0 8) a1 u1 ++ (wX0 G (ra i 17) (rb i) (rv i) ++ (wX0 G (ra k 17) (rb k) (rv k) ++ wRp G a0 ra rb ru rv i k))))) := by
  have h : (wRc G a0 ra rb ru rv i ++ (wRc G a0 ra rb ru rv k ++ wRp G a0 ra rb ru rv i k)).Perm ((wX4 G (a0 (20 + i)) (ra i) (ru i) ++ wX4 G (a0 (20 + k)) (ra k) (ru k)) ++ (wX0 G (ra i 17) (rb i) (rv i) ++ (wX0 G (ra k 17) (rb k) (rv k) ++ wRp G a0 ra rb ru rv i k))) := by
    rw [wRc, wRc, List.append_assoc, List.append_assoc, List.append_assoc]
    exact (List.perm_append_comm_assoc _ _ _).append_left _
  exact ((((wRs_2 hi hk n).trans h).append_left _).append_left _).trans (pm2 _ _ _ _)
theorem qR44 {i k : Nat} (hi : i < 13) (hk : k < 13) (n : k ≠ i) (x y : Ob) : ((wX4 G (a0 (20 + i)) (ra i) x ++ wX4 G (a0 (20 + k)) (ra k) y) ++ (wX5 G h0 a0 u0 ++ (wX3 G (a0 8) a1 u1 ++ (wX0 G (ra i 17) (rb i) (rv i) ++ (wX0 G (ra k 17) (rb k) (rv k) ++ wRp G a0 ra rb ru rv i k))))).Perm (wAll G h0 a0 u0 a1 u1 ra rb (va_up (va_up ru i x) k y) rv) := by
  have h := pR44 (G := G) (h0 := h0) (a0 := a0) (u0 := u0) (a1 := a1) (u1 := u1) (ra := ra) (rb := rb) (ru := va_up (va_up ru i x) k y) (rv := va_up (va_up rv i (rv i)) k (va_up rv i (rv i) k)) hi hk n
  have hp : wRp G a0 ra rb (va_up (va_up ru i x) k y) (va_up (va_up rv i (rv i)) k (va_up rv i (rv i) k)) i k = wRp G a0 ra rb ru rv i k := fm_congr _ fun j hj => (wRc_up y _ ((dl_ne2 i hi k hk j hj).2 n)).trans (wRc_up x _ (dl_ne2 i hi k hk j hj).1)
  rw [hp, va_up_self, va_up_ne _ _ (Ne.symm n), va_up_self, va_up_id (va_up rv i (rv i)) k, va_up_id rv i] at h
  exact h.symm
end RC
section EP
variable {p : Program} {l : Launch} {e : Env} {R : Room} {s : State} {m : MethodId} {args : Array Value} {below : List Frame} {meth : Method} {c : Code} {H : Heap} {locs : List Loc} {cells slots : Nat} {Q : State → Prop}
variable {cc : ByteArray} {pc : Nat} {ls : Array Slot} {rest : List Value} {A : Nat → Prop} {G : Gp}

theorem kVpi {S : Type} {post : Int32 → S → Prop} {wc : va_W} {b : Nat} {wf : S → va_W} {y y2 : MethodName} {c2 : ByteArray} {n2 nL idx : Nat} {ret : Option FieldType} {own : String} {ret2 : Option FieldType} {rm : Room} {ws : va_W} {As : List Value} (hS0 : CallFix p m c cc nL s args (Cond.code y cc nL ret :: lw_g) own)
    (hM : Met l y2 (Cond.code y2 c2 n2 ret2 :: lw_g) rm (va_Pc (.ref b :: As) (pw G wc H.size)) (va_Qi post (bw G wf (va_A wc H.size)) (va_A wc H.size)) 0 0 (va_A wc H.size))
    (kl : Cond.methodLink own idx y2 ∈ lw_g) (kc : Cond.instanceMethod y2 ∈ lw_g ∧ Cond.selects y2.cls y2 y2 ∈ lw_g ∧ Cond.initialized y2.cls ∈ lw_g ∧ Cond.code y2 c2 n2 ret2 ∈ lw_g ∧ y2.cls ≠ "java/lang/invoke/MethodHandle" ∧ y2.cls ≠ "java/lang/invoke/VarHandle" ∧ (parseMethodDescriptor y2.desc).map (fun d => d.parameters.length) = some As.length) (hrm : rm.cells = 0 ∧ rm.slots = 0 ∧ rm.frames + 1 ≤ R.frames ∧ 8 + (n2 + 11) + rm.locals ≤ R.locals)
    {T : u_T} {N ci : Nat} {fs : List Value} (q0 : Nat) (hci : vwCl[ci]? = some (y2.cls, T, N)) (hq0 : wc[q0]? = some (b, .inr (ci, fs)))
    (hP : va_P (gD G) vwCl ws H) (hK : va_K (gD G) vwCl (gT G) s) (hD : va_D A ws) (hE : Ev (gE G) A s) (hS : va_S A s.heap H locs) (hA : ∀ q : Nat, s.heap.size ≤ q → A q) {wr : va_W} {out : S → va_W} (hp : ws.Perm (wc ++ wr)) (ho : ∀ u, (wf u ++ wr).Perm (out u)) (hls : ls.size = nL) (hW : (rest.map fun v => v.category).sum ≤ 8) (hcs : cells ≤ R.cells ∧ slots ≤ R.slots) (hdg : decode cc pc = .ok (.invokevirtual idx, 3))
    (kk : ∀ (r : Int32) (u : S) (H1 : Heap) (locs1 : List Loc), post r u → va_P (gD G) vwCl (out u) H1 → va_D A (out u) → va_S A s.heap H1 locs1 → W p l e R s m args below meth c H1 locs1 cells slots Q (F0 m (pc + 3) ls (.int r :: rest))) :
    W p l e R s m args below meth c H locs cells slots Q (F0 m pc ls (As.reverse ++ .ref b :: rest)) := by
  have hPp := va_P_perm hP hp
  have hDp := va_D_perm hD hp
  have hPc : va_P (gD G) vwCl wc H := va_P_mem hPp fun q hq => List.mem_append_left _ hq
  have hDc := va_D_l hDp
  have hF : ∀ q, va_A wc H.size q → A q := fun q h => h.elim (fun ⟨k, e, h⟩ => hDc.2 k (q, e) h) (fun h => hA q (Nat.le_trans hS.1 h))
  refine va_calli (va_runV (C := y2.cls) (As := As) (rest := rest) hS0 hM ⟨callB_of As.length hS0.2.2.2.2 (kgg kc.2.2.2.1) rfl hrm.1 hrm.2.1 (hS0.2.2.2.2 _ (List.mem_cons_of_mem _ kc.2.2.1)) (hS0.2.2.2.2 _ (List.mem_cons_of_mem _ kl)) kc.2.2.2.2 hrm.2.2, hS0.2.2.2.2 _ (List.mem_cons_of_mem _ kc.1), hS0.2.2.2.2 _ (List.mem_cons_of_mem _ kc.2.1)⟩ ⟨pw_blind, va_recv hK hPc hci hq0, fun U hU hW => pw_pre (ws := wc) hPc hDc hK hE hS hF hU hW⟩ rfl rfl hls rfl (lv_room hW) hdg hcs) hS (fun q _ h => hF q h) hF (fun r u t H1 locs1 ht hvm hw hB hz1 hk1 hS1 => ?_)
  obtain ⟨hP1, hK1, hD1⟩ := hB
  rw [ht] at hP1
  obtain ⟨hP2, hD2⟩ := joinA hPp hDp hk1 hF hP1 hD1
  exact kk r u H1 locs1 hw (va_P_perm hP2 (ho u)) (va_D_perm hD2 (ho u)) hS1
theorem kVpl {S : Type} {post : Int64 → S → Prop} {wc : va_W} {b : Nat} {wf : S → va_W} {y y2 : MethodName} {c2 : ByteArray} {n2 nL idx : Nat} {ret : Option FieldType} {own : String}  {rm : Room} {ws : va_W} {As : List Value} (hS0 : CallFix p m c cc nL s args (Cond.code y cc nL ret :: lw_g) own)
    (hM : Met l y2 (Cond.code y2 c2 n2 (some .long) :: lw_g) rm (va_Pc (.ref b :: As) (pw G wc H.size)) (va_Ql post (bw G wf (va_A wc H.size)) (va_A wc H.size)) 0 0 (va_A wc H.size))
    (kl : Cond.methodLink own idx y2 ∈ lw_g) (kc : Cond.instanceMethod y2 ∈ lw_g ∧ Cond.selects y2.cls y2 y2 ∈ lw_g ∧ Cond.initialized y2.cls ∈ lw_g ∧ Cond.code y2 c2 n2 (some .long) ∈ lw_g ∧ y2.cls ≠ "java/lang/invoke/MethodHandle" ∧ y2.cls ≠ "java/lang/invoke/VarHandle" ∧ (parseMethodDescriptor y2.desc).map (fun d => d.parameters.length) = some As.length) (hrm : rm.cells = 0 ∧ rm.slots = 0 ∧ rm.frames + 1 ≤ R.frames ∧ 8 + (n2 + 11) + rm.locals ≤ R.locals)
    {T : u_T} {N ci : Nat} {fs : List Value} (q0 : Nat) (hci : vwCl[ci]? = some (y2.cls, T, N)) (hq0 : wc[q0]? = some (b, .inr (ci, fs)))
    (hP : va_P (gD G) vwCl ws H) (hK : va_K (gD G) vwCl (gT G) s) (hD : va_D A ws) (hE : Ev (gE G) A s) (hS : va_S A s.heap H locs) (hA : ∀ q : Nat, s.heap.size ≤ q → A q) {wr : va_W} {out : S → va_W} (hp : ws.Perm (wc ++ wr)) (ho : ∀ u, (wf u ++ wr).Perm (out u)) (hls : ls.size = nL) (hW : (rest.map fun v => v.category).sum ≤ 8) (hcs : cells ≤ R.cells ∧ slots ≤ R.slots) (hdg : decode cc pc = .ok (.invokevirtual idx, 3))
    (kk : ∀ (r : Int64) (u : S) (H1 : Heap) (locs1 : List Loc), post r u → va_P (gD G) vwCl (out u) H1 → va_D A (out u) → va_S A s.heap H1 locs1 → W p l e R s m args below meth c H1 locs1 cells slots Q (F0 m (pc + 3) ls (.long r :: rest))) :
    W p l e R s m args below meth c H locs cells slots Q (F0 m pc ls (As.reverse ++ .ref b :: rest)) := by
  have hPp := va_P_perm hP hp
  have hDp := va_D_perm hD hp
  have hPc : va_P (gD G) vwCl wc H := va_P_mem hPp fun q hq => List.mem_append_left _ hq
  have hDc := va_D_l hDp
  have hF : ∀ q, va_A wc H.size q → A q := fun q h => h.elim (fun ⟨k, e, h⟩ => hDc.2 k (q, e) h) (fun h => hA q (Nat.le_trans hS.1 h))
  refine va_calll (va_runV (C := y2.cls) (As := As) (rest := rest) hS0 hM ⟨callB_of As.length hS0.2.2.2.2 (kgg kc.2.2.2.1) rfl hrm.1 hrm.2.1 (hS0.2.2.2.2 _ (List.mem_cons_of_mem _ kc.2.2.1)) (hS0.2.2.2.2 _ (List.mem_cons_of_mem _ kl)) kc.2.2.2.2 hrm.2.2, hS0.2.2.2.2 _ (List.mem_cons_of_mem _ kc.1), hS0.2.2.2.2 _ (List.mem_cons_of_mem _ kc.2.1)⟩ ⟨pw_blind, va_recv hK hPc hci hq0, fun U hU hW => pw_pre (ws := wc) hPc hDc hK hE hS hF hU hW⟩ rfl rfl hls rfl (lv_room hW) hdg hcs) hS (fun q _ h => hF q h) hF (fun r u t H1 locs1 ht hvm hw hB hz1 hk1 hS1 => ?_)
  obtain ⟨hP1, hK1, hD1⟩ := hB
  rw [ht] at hP1
  obtain ⟨hP2, hD2⟩ := joinA hPp hDp hk1 hF hP1 hD1
  exact kk r u H1 locs1 hw (va_P_perm hP2 (ho u)) (va_D_perm hD2 (ho u)) hS1
theorem kVpv {S : Type} {post : S → Prop} {wc : va_W} {b : Nat} {wf : S → va_W} {y y2 : MethodName} {c2 : ByteArray} {n2 nL idx : Nat} {ret : Option FieldType} {own : String}  {rm : Room} {ws : va_W} {As : List Value} (hS0 : CallFix p m c cc nL s args (Cond.code y cc nL ret :: lw_g) own)
    (hM : Met l y2 (Cond.code y2 c2 n2 none :: lw_g) rm (va_Pc (.ref b :: As) (pw G wc H.size)) (va_Qv post (bw G wf (va_A wc H.size)) (va_A wc H.size)) 0 0 (va_A wc H.size))
    (kl : Cond.methodLink own idx y2 ∈ lw_g) (kc : Cond.instanceMethod y2 ∈ lw_g ∧ Cond.selects y2.cls y2 y2 ∈ lw_g ∧ Cond.initialized y2.cls ∈ lw_g ∧ Cond.code y2 c2 n2 none ∈ lw_g ∧ y2.cls ≠ "java/lang/invoke/MethodHandle" ∧ y2.cls ≠ "java/lang/invoke/VarHandle" ∧ (parseMethodDescriptor y2.desc).map (fun d => d.parameters.length) = some As.length) (hrm : rm.cells = 0 ∧ rm.slots = 0 ∧ rm.frames + 1 ≤ R.frames ∧ 8 + (n2 + 11) + rm.locals ≤ R.locals)
    {T : u_T} {N ci : Nat} {fs : List Value} (q0 : Nat) (hci : vwCl[ci]? = some (y2.cls, T, N)) (hq0 : wc[q0]? = some (b, .inr (ci, fs)))
    (hP : va_P (gD G) vwCl ws H) (hK : va_K (gD G) vwCl (gT G) s) (hD : va_D A ws) (hE : Ev (gE G) A s) (hS : va_S A s.heap H locs) (hA : ∀ q : Nat, s.heap.size ≤ q → A q) {wr : va_W} {out : S → va_W} (hp : ws.Perm (wc ++ wr)) (ho : ∀ u, (wf u ++ wr).Perm (out u)) (hls : ls.size = nL) (hW : (rest.map fun v => v.category).sum ≤ 8) (hcs : cells ≤ R.cells ∧ slots ≤ R.slots) (hdg : decode cc pc = .ok (.invokevirtual idx, 3))
    (kk : ∀ (u : S) (H1 : Heap) (locs1 : List Loc), post u → va_P (gD G) vwCl (out u) H1 → va_D A (out u) → va_S A s.heap H1 locs1 → W p l e R s m args below meth c H1 locs1 cells slots Q (F0 m (pc + 3) ls (rest))) :
    W p l e R s m args below meth c H locs cells slots Q (F0 m pc ls (As.reverse ++ .ref b :: rest)) := by
  have hPp := va_P_perm hP hp
  have hDp := va_D_perm hD hp
  have hPc : va_P (gD G) vwCl wc H := va_P_mem hPp fun q hq => List.mem_append_left _ hq
  have hDc := va_D_l hDp
  have hF : ∀ q, va_A wc H.size q → A q := fun q h => h.elim (fun ⟨k, e, h⟩ => hDc.2 k (q, e) h) (fun h => hA q (Nat.le_trans hS.1 h))
  refine va_callv (va_runV (C := y2.cls) (As := As) (rest := rest) hS0 hM ⟨callB_of As.length hS0.2.2.2.2 (kgg kc.2.2.2.1) rfl hrm.1 hrm.2.1 (hS0.2.2.2.2 _ (List.mem_cons_of_mem _ kc.2.2.1)) (hS0.2.2.2.2 _ (List.mem_cons_of_mem _ kl)) kc.2.2.2.2 hrm.2.2, hS0.2.2.2.2 _ (List.mem_cons_of_mem _ kc.1), hS0.2.2.2.2 _ (List.mem_cons_of_mem _ kc.2.1)⟩ ⟨pw_blind, va_recv hK hPc hci hq0, fun U hU hW => pw_pre (ws := wc) hPc hDc hK hE hS hF hU hW⟩ rfl rfl hls rfl (lv_room hW) hdg hcs) hS (fun q _ h => hF q h) hF (fun u t H1 locs1 ht hvm hw hB hz1 hk1 hS1 => ?_)
  obtain ⟨hP1, hK1, hD1⟩ := hB
  rw [ht] at hP1
  obtain ⟨hP2, hD2⟩ := joinA hPp hDp hk1 hF hP1 hD1
  exact kk u H1 locs1 hw (va_P_perm hP2 (ho u)) (va_D_perm hD2 (ho u)) hS1
theorem e_f {S : Type} {post : UInt32 → S → Prop} {wf : S → va_W} (hx : p.tables.exec = Jvm.exec) (hb : c.code = cc) (hr : meth.sig.returnType = some .float) (hlk : meth.locks = false) (u : S) {v : UInt32} (hq : post v u) (hP : va_P (gD G) vwCl (wf u) H) (hK : va_K (gD G) vwCl (gT G) s) (hD : va_D A (wf u)) (hS : va_S A s.heap H locs) (hdg : decode cc pc = .ok (.freturn, 1)) :
    W p l e R s m args below meth c H locs cells slots (MQ below (va_Qf post (bw G wf A) A) args s cells slots A) (F0 m pc ls [.float v]) :=
  W.fret (v := v) hx hb hr (fun t ht hW => ⟨⟨v, u, rfl, hq, by rw [ht]; exact hP, va_K.moved hW.alike hK, hD⟩, hS.F ht⟩) hS.2.2 hdg hlk
end EP
theorem att_52 : ∀ w ∈ (vx_atS RX5 52 "java/lang/IllegalStateException" ["java/lang/RuntimeException", "java/lang/Exception"]).filter goodWord, w ∈ lw_tbl := by decide +kernel
theorem atg_52 : ∀ w ∈ (vx_atS RX5 52 "java/lang/IllegalStateException" ["java/lang/RuntimeException", "java/lang/Exception"]).filter goodWord, w ∈ lw_g := fun w hw => kw_g (att_52 w hw) (List.mem_filter.mp hw).2
theorem atn_52 : ∀ w ∈ (vx_atS RX5 52 "java/lang/IllegalStateException" ["java/lang/RuntimeException", "java/lang/Exception"]).filter (fun w => !goodWord w), w ∈ ([.castable "java/lang/IllegalStateException" "java/lang/IllegalStateException", .declares ⟨"java/lang/RuntimeException", "<init>", "(Ljava/lang/String;)V"⟩, .declares ⟨"java/lang/Exception", "<init>", "(Ljava/lang/String;)V"⟩, .declares ⟨"java/lang/Throwable", "<init>", "(Ljava/lang/String;)V"⟩] : List Cond) := by decide +kernel
theorem ato_52 : ∀ w ∈ Cond.classLink RX5 48 "java/lang/IllegalStateException" :: Cond.initialized "java/lang/IllegalStateException" :: vx_atS RX5 52 "java/lang/IllegalStateException" ["java/lang/RuntimeException", "java/lang/Exception"], vx_ot w = true := by decide +kernel
theorem att_63 : ∀ w ∈ (vx_atS RX5 63 "java/lang/IllegalArgumentException" ["java/lang/RuntimeException", "java/lang/Exception"]).filter goodWord, w ∈ lw_tbl := by decide +kernel
theorem atg_63 : ∀ w ∈ (vx_atS RX5 63 "java/lang/IllegalArgumentException" ["java/lang/RuntimeException", "java/lang/Exception"]).filter goodWord, w ∈ lw_g := fun w hw => kw_g (att_63 w hw) (List.mem_filter.mp hw).2
theorem atn_63 : ∀ w ∈ (vx_atS RX5 63 "java/lang/IllegalArgumentException" ["java/lang/RuntimeException", "java/lang/Exception"]).filter (fun w => !goodWord w), w ∈ ([.castable "java/lang/IllegalArgumentException" "java/lang/IllegalArgumentException", .declares ⟨"java/lang/RuntimeException", "<init>", "(Ljava/lang/String;)V"⟩, .declares ⟨"java/lang/Exception", "<init>", "(Ljava/lang/String;)V"⟩, .declares ⟨"java/lang/Throwable", "<init>", "(Ljava/lang/String;)V"⟩] : List Cond) := by decide +kernel
theorem ato_63 : ∀ w ∈ Cond.classLink RX5 59 "java/lang/IllegalArgumentException" :: Cond.initialized "java/lang/IllegalArgumentException" :: vx_atS RX5 63 "java/lang/IllegalArgumentException" ["java/lang/RuntimeException", "java/lang/Exception"], vx_ot w = true := by decide +kernel
theorem att_209 : ∀ w ∈ (vx_atS RX5 209 "java/lang/IndexOutOfBoundsException" ["java/lang/RuntimeException", "java/lang/Exception"]).filter goodWord, w ∈ lw_tbl := by decide +kernel
theorem atg_209 : ∀ w ∈ (vx_atS RX5 209 "java/lang/IndexOutOfBoundsException" ["java/lang/RuntimeException", "java/lang/Exception"]).filter goodWord, w ∈ lw_g := fun w hw => kw_g (att_209 w hw) (List.mem_filter.mp hw).2
theorem atn_209 : ∀ w ∈ (vx_atS RX5 209 "java/lang/IndexOutOfBoundsException" ["java/lang/RuntimeException", "java/lang/Exception"]).filter (fun w => !goodWord w), w ∈ ([.castable "java/lang/IndexOutOfBoundsException" "java/lang/IndexOutOfBoundsException", .declares ⟨"java/lang/RuntimeException", "<init>", "(Ljava/lang/String;)V"⟩, .declares ⟨"java/lang/Exception", "<init>", "(Ljava/lang/String;)V"⟩, .declares ⟨"java/lang/Throwable", "<init>", "(Ljava/lang/String;)V"⟩] : List Cond) := by decide +kernel
theorem ato_209 : ∀ w ∈ Cond.classLink RX5 205 "java/lang/IndexOutOfBoundsException" :: Cond.initialized "java/lang/IndexOutOfBoundsException" :: vx_atS RX5 209 "java/lang/IndexOutOfBoundsException" ["java/lang/RuntimeException", "java/lang/Exception"], vx_ot w = true := by decide +kernel
theorem vx_hatE {ev : Nat → Nat} {A : Nat → Prop} {args : Array Value} {s : State} {ic : Nat} {E : String} (hg : ∀ w ∈ lw_g, w.before args s = true) (hE : Ev ev A s) (hm : E ∈ exL) (h1 : ∀ w ∈ (vx_atS RX5 ic E ["java/lang/RuntimeException", "java/lang/Exception"]).filter goodWord, w ∈ lw_g) (h2 : ∀ w ∈ (vx_atS RX5 ic E ["java/lang/RuntimeException", "java/lang/Exception"]).filter (fun w => !goodWord w), w ∈ ([.castable E E, .declares ⟨"java/lang/RuntimeException", "<init>", "(Ljava/lang/String;)V"⟩, .declares ⟨"java/lang/Exception", "<init>", "(Ljava/lang/String;)V"⟩, .declares ⟨"java/lang/Throwable", "<init>", "(Ljava/lang/String;)V"⟩] : List Cond)) : ∀ w ∈ vx_atS RX5 ic E ["java/lang/RuntimeException", "java/lang/Exception"], w.before args s = true :=
  vx_hat (fun w hw => hg w (h1 w hw)) h2 (vx_c ((hE.2.2.2.2.2.1 E hm).use rfl) (vx_c ((hE.2.2.2.2.2.2.2.2 _ (by decide +kernel)).use rfl) (vx_c ((hE.2.2.2.2.2.2.2.2 _ (by decide +kernel)).use rfl) (vx_c ((hE.2.2.2.2.2.2.2.2 _ (by decide +kernel)).use rfl) vx_n))))
def XQ {S : Type} (px : Nat × S → Prop) (G : Gp) (wf : S → va_W) (A : Nat → Prop) : String → State → State → Prop := vx_X px (fun E z t => exL[z.1]? = some E ∧ bw G wf A z.2 t) A
theorem thS {S : Type} {p : Program} {l : Launch} {e : Env} {R : Room} {s : State} {m : MethodId} {args : Array Value} {below : List Frame} {meth : Method} {c : Code} {H : Heap} {locs : List Loc} {cc : ByteArray} {pc nL : Nat} {ls : Array Slot} {rest : List Value} {A : Nat → Prop} {G : Gp} {Qc : Array Value → State → Outcome → State → Prop} {px : Nat × S → Prop} {wf : S → va_W} {k ik is ic : Nat} {E tx : String} (u : S)
    (hx : p.tables.exec = Jvm.exec) (hb : c.code = cc) (hl : l.stackTraces = false) (hml : c.maxLocals = nL) (hlk : meth.locks = false) (ht : ∀ x ∈ c.exceptionTable.toList, False) (hown : s.vm.findClass RX5 = some m.cls) (hg : ∀ w ∈ lw_g, w.before args s = true)
    (hk : exL[k]? = some E) (k1 : Cond.classLink RX5 ik E ∈ lw_g) (k2 : Cond.initialized E ∈ lw_g) (hm : (RX5, is, tx) ∈ strM) (h1 : ∀ w ∈ (vx_atS RX5 ic E ["java/lang/RuntimeException", "java/lang/Exception"]).filter goodWord, w ∈ lw_g) (h2 : ∀ w ∈ (vx_atS RX5 ic E ["java/lang/RuntimeException", "java/lang/Exception"]).filter (fun w => !goodWord w), w ∈ ([.castable E E, .declares ⟨"java/lang/RuntimeException", "<init>", "(Ljava/lang/String;)V"⟩, .declares ⟨"java/lang/Exception", "<init>", "(Ljava/lang/String;)V"⟩, .declares ⟨"java/lang/Throwable", "<init>", "(Ljava/lang/String;)V"⟩] : List Cond)) (h3 : ∀ w ∈ Cond.classLink RX5 ik E :: Cond.initialized E :: vx_atS RX5 ic E ["java/lang/RuntimeException", "java/lang/Exception"], vx_ot w = true) (hfit : Bundle.fit E = true)
    (hP : va_P (gD G) vwCl (wf u) H) (hK : va_K (gD G) vwCl (gT G) s) (hD : va_D A (wf u)) (hE : Ev (gE G) A s) (hS : va_S A s.heap H locs) (hls : ls.size = nL) (hpx : px (k, u))
    (hR : 5 < R.frames ∧ (rest.map fun v => v.category).sum + 82 ≤ R.locals ∧ 1 ≤ R.cells ∧ 6 ≤ R.slots)
    (d0 : decode cc pc = .ok (.new ik, 3)) (d3 : decode cc (pc + 3) = .ok (.dup, 1)) (d4 : decode cc (pc + 4) = .ok (.ldc is, 2)) (d6 : decode cc (pc + 6) = .ok (.invokespecial ic, 3)) (d9 : decode cc (pc + 9) = .ok (.athrow, 1)) :
    W p l e R s m args below meth c H locs 0 0 (vx_MQ below Qc (XQ px G wf A) args s 1 6 A) (F0 m pc ls rest) := by
  obtain ⟨sa, hstr⟩ := hE.2.2.1 _ hm
  have hmE : E ∈ exL := List.mem_of_getElem? hk
  refine vx_throwS (A := A) (sa := sa) (text := tx) hx hb hl hown hfit (by decide +kernel) (hg _ k1) (hg _ k2) hstr (vx_hatE hg hE hmE h1 h2) h3 hE.1.2.2.2.2.2.2.2.2.2.2.2.2.1 hE.1.2.2.2.2.2.2.2.2.2.2.2.2.2.1 hS (hls.trans hml.symm) d0 d3 d4 d6 d9 (fun x hx => (ht x hx).elim) hR.1 hR.2.1 (by have := hR.2.2.1; omega) (by have := hR.2.2.2; omega) hlk (fun t hvm hsz hold => ?_) hS.2.2 (by omega) (by omega)
  exact ⟨(k, u), hpx, ⟨hk, hP.kept fun k q hq => hold q.1 (hP k q hq).lt, va_K.moved hvm hK, hD⟩, Nat.le_trans hS.1 hsz, fun q hq hnA => (hold q (Nat.lt_of_lt_of_le hq hS.1)).trans (hS.2.1 q hq hnA)⟩
theorem thW {S : Type} {p : Program} {l : Launch} {e : Env} {R : Room} {s : State} {m : MethodId} {args : Array Value} {below : List Frame} {meth : Method} {c : Code} {H : Heap} {locs : List Loc} {cc : ByteArray} {pc nL : Nat} {ls : Array Slot} {rest : List Value} {A : Nat → Prop} {G : Gp} {Qc : Array Value → State → Outcome → State → Prop} {px : Nat × S → Prop} {wf : S → va_W} {k ik is ic : Nat} {E tx : String} (u : S)
    (hx : p.tables.exec = Jvm.exec) (hb : c.code = cc) (hl : l.stackTraces = false) (hml : c.maxLocals = nL) (hlk : meth.locks = false) (ht : ∀ x ∈ c.exceptionTable.toList, False) (hown : s.vm.findClass RX5 = some m.cls) (hg : ∀ w ∈ lw_g, w.before args s = true)
    (hk : exL[k]? = some E) (k1 : Cond.classLink RX5 ik E ∈ lw_g) (k2 : Cond.initialized E ∈ lw_g) (hm : (RX5, is, tx) ∈ strM) (h1 : ∀ w ∈ (vx_atS RX5 ic E ["java/lang/RuntimeException", "java/lang/Exception"]).filter goodWord, w ∈ lw_g) (h2 : ∀ w ∈ (vx_atS RX5 ic E ["java/lang/RuntimeException", "java/lang/Exception"]).filter (fun w => !goodWord w), w ∈ ([.castable E E, .declares ⟨"java/lang/RuntimeException", "<init>", "(Ljava/lang/String;)V"⟩, .declares ⟨"java/lang/Exception", "<init>", "(Ljava/lang/String;)V"⟩, .declares ⟨"java/lang/Throwable", "<init>", "(Ljava/lang/String;)V"⟩] : List Cond)) (h3 : ∀ w ∈ Cond.classLink RX5 ik E :: Cond.initialized E :: vx_atS RX5 ic E ["java/lang/RuntimeException", "java/lang/Exception"], vx_ot w = true) (hfit : Bundle.fit E = true)
    (hP : va_P (gD G) vwCl (wf u) H) (hK : va_K (gD G) vwCl (gT G) s) (hD : va_D A (wf u)) (hE : Ev (gE G) A s) (hS : va_S A s.heap H locs) (hls : ls.size = nL) (hpx : px (k, u))
    (hR : 5 < R.frames ∧ (rest.map fun v => v.category).sum + 82 ≤ R.locals ∧ 1 ≤ R.cells ∧ 6 ≤ R.slots)
    (d0 : decode cc pc = .ok (.new ik, 3)) (d3 : decode cc (pc + 3) = .ok (.dup, 1)) (d4 : decode cc (pc + 4) = .ok (.ldc_w is, 3)) (d6 : decode cc (pc + 7) = .ok (.invokespecial ic, 3)) (d9 : decode cc (pc + 10) = .ok (.athrow, 1)) :
    W p l e R s m args below meth c H locs 0 0 (vx_MQ below Qc (XQ px G wf A) args s 1 6 A) (F0 m pc ls rest) := by
  obtain ⟨sa, hstr⟩ := hE.2.2.1 _ hm
  have hmE : E ∈ exL := List.mem_of_getElem? hk
  refine vx_throwSW (A := A) (sa := sa) (text := tx) hx hb hl hown hfit (by decide +kernel) (hg _ k1) (hg _ k2) hstr (vx_hatE hg hE hmE h1 h2) h3 hE.1.2.2.2.2.2.2.2.2.2.2.2.2.1 hE.1.2.2.2.2.2.2.2.2.2.2.2.2.2.1 hS (hls.trans hml.symm) d0 d3 d4 d6 d9 (fun x hx => (ht x hx).elim) hR.1 hR.2.1 (by have := hR.2.2.1; omega) (by have := hR.2.2.2; omega) hlk (fun t hvm hsz hold => ?_) hS.2.2 (by omega) (by omega)
  exact ⟨(k, u), hpx, ⟨hk, hP.kept fun k q hq => hold q.1 (hP k q hq).lt, va_K.moved hvm hK, hD⟩, Nat.le_trans hS.1 hsz, fun q hq hnA => (hold q (Nat.lt_of_lt_of_le hq hS.1)).trans (hS.2.1 q hq hnA)⟩
theorem mtx {l : Launch} {y : MethodName} {rm : Room} {cc : ByteArray} {maxL : Nat} {ret : Option FieldType} {av : List Value} {G : Gp} {w : va_W} {sz : Nat} {Qc : (Nat → Prop) → Array Value → State → Outcome → State → Prop} {XC : (Nat → Prop) → String → State → State → Prop} {mc ms : Nat}
    (hy : plainName y.cls = true) (hn : (lg_sl av).length ≤ maxL)
    (body : ∀ (p : Program) (e : Env) (s : State) (m : MethodId) (below : List Frame) (meth : Method) (c : Code) (A : Nat → Prop) (ls : Array Slot), p.tables.exec = Jvm.exec → c.code = cc → meth.sig.returnType = ret → meth.locks = false → c.maxLocals = maxL → (∀ x ∈ c.exceptionTable.toList, False) → (∀ w ∈ Cond.code y cc maxL ret :: lw_g, w.before av.toArray s = true) → s.vm.findClass y.cls = some m.cls → (∀ q : Nat, s.heap.size ≤ q → A q) → va_P (gD G) vwCl w s.heap → va_K (gD G) vwCl (gT G) s → va_D A w → Ev (gE G) A s → va_S A s.heap s.heap [] → lv_has ls maxL (lv_args 0 av) →
      W p l e rm s m av.toArray below meth c s.heap [] 0 0 (vx_MQ below (Qc A) (XC A) av.toArray s mc ms A) (F0 m 0 ls [])) :
    vx_Met l y (Cond.code y cc maxL ret :: lw_g) rm (va_Pc av (pw G w sz)) (Qc (va_A w sz)) (XC (va_A w sz)) mc ms (va_A w sz) := by
  refine vx_ofW (cc := cc) (maxL := maxL) (ret := ret) hy rfl ?_
  intro p e s m args below meth c s₁ B hml ht hv
  obtain ⟨rfl, hsz, hP, hK, hD0, hE⟩ := hv
  subst hsz
  have hD := hD0.self (sz := s.heap.size)
  have hts := atoms_spec (ws := Cond.code y cc maxL ret :: lw_g) B.pre
  rw [lg_entry_eq]
  exact body p e s m below meth c (va_A w s.heap.size) _ B.exec B.bytes B.returns B.notSynchronized hml ht hts (findClass_of_methodNamed B.named) (fun q h => Or.inr h) hP hK hD hE va_S.rf (lv_entry av hn)
