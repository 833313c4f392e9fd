section R3
variable {l : Launch} {G : Gb} {K : Kt} {h0 : List Ce} {pc : Nat} {ls : List (Nat × Value)} {st : List Value} {h : List Ce} {r : Rs} {h' : List Ce}
/-- the value that a local holds -/
def lg (ls : List (Nat × Value)) (i : Nat) : Option Value := (ls.find? (fun q => q.1 == i)).map (·.2)
theorem lg_mem {i : Nat} {v : Value} (e : lg ls i = some v) : (i, v) ∈ ls := by
  simp only [lg, Option.map_eq_some_iff] at e
  obtain ⟨⟨j, w⟩, h1, h2⟩ := e
  have a := List.mem_of_find?_eq_some h1
  have b := List.find?_some h1
  simp at b h2
  subst b; subst h2
  exact a
theorem lg_at {lsA : Array Slot} {n i : Nat} {v : Value} (hl : lv_has lsA n (mv G ls)) (e : lg ls i = some v) : lsA[i]? = some (.val (sv G v)) := hl.2.2 (i, sv G v) (List.mem_map.mpr ⟨(i, v), lg_mem e, rfl⟩)
/-- a local is stored: the list stays in order -/
def lset (i : Nat) (v : Value) (ls : List (Nat × Value)) : List (Nat × Value) := ls.filter (fun q => decide (q.1 < i) && !(q.1 + 1 == i && q.2.category == 2)) ++ (i, v) :: ls.filter (fun q => decide (i + (v.category - 1) < q.1))
theorem lset_mem {i : Nat} {v : Value} {q : Nat × Value} (hq : q ∈ lset i v ls) : q = (i, v) ∨ (q ∈ ls ∧ q.1 ≠ i ∧ (v.category = 2 → q.1 ≠ i + 1) ∧ ¬ (q.1 + 1 = i ∧ q.2.category = 2)) := by
  rcases List.mem_append.mp hq with a | a
  · obtain ⟨b, c⟩ := List.mem_filter.mp a
    simp at c
    exact Or.inr ⟨b, by omega, fun _ => by omega, fun z => c.2.elim (fun k => k z.1) (fun k => k z.2)⟩
  · rcases List.mem_cons.mp a with a | a
    · exact Or.inl a
    · obtain ⟨b, c⟩ := List.mem_filter.mp a
      simp at c
      exact Or.inr ⟨b, by omega, fun z => by omega, fun z => by omega⟩
/-- fewer locals -/
theorem V_keep (ks : List Nat) (kk : V l G K h0 pc (ls.filter (fun q => ks.contains q.1)) st h r h') : V l G K h0 pc ls st h r h' :=
  ⟨kk.1, kk.2.1, fun C hP a1 a2 a3 a4 hl => kk.2.2 C hP a1 a2 a3 a4 ⟨hl.1, hl.2.1, fun q hq => by
    obtain ⟨q0, hm, rfl⟩ := List.mem_map.mp hq
    exact hl.2.2 _ (List.mem_map.mpr ⟨q0, (List.mem_filter.mp hm).1, rfl⟩)⟩⟩
/-- a step that leaves the cells and the locals -/
theorem V_go {pc' : Nat} {st' : List Value} (kk : V l G K h0 pc' ls st' h r h') (f : ∀ {p : Program} {e : Env} {R : Room} {s : State} {m : MethodId} {args : Array Value} {below : List Frame} {meth : Method} {c : Code} {H : Heap} {locs : List Loc} {cells slots : Nat} {Q : State → Prop} {lsA : Array Slot}, Cx G K p s m args meth c → lv_has lsA K.maxL (mv G ls) → va_P G.D cls (wl G h) H → va_S (Ar G) s.heap H locs → W p l e R s m args below meth c H locs cells slots Q (F0 m pc' lsA (st'.map (sv G))) → W p l e R s m args below meth c H locs cells slots Q (F0 m pc lsA (st.map (sv G)))) : V l G K h0 pc ls st h r h' :=
  ⟨kk.1, kk.2.1, fun C hP a1 a2 a3 a4 hl => f C hl hP a4 (kk.2.2 C hP a1 a2 a3 a4 hl)⟩
/-- a step that leaves the cells, and stores a local -/
theorem V_go1 {pc' i : Nat} {v : Value} {st' : List Value} (kk : V l G K h0 pc' (lset i v ls) st' h r h') (f : ∀ {p : Program} {e : Env} {R : Room} {s : State} {m : MethodId} {args : Array Value} {below : List Frame} {meth : Method} {c : Code} {H : Heap} {locs : List Loc} {cells slots : Nat} {Q : State → Prop} {lsA : Array Slot}, Cx G K p s m args meth c → lv_has lsA K.maxL (mv G ls) → (∀ lsB : Array Slot, lv_has lsB K.maxL (mv G (lset i v ls)) → W p l e R s m args below meth c H locs cells slots Q (F0 m pc' lsB (st'.map (sv G)))) → W p l e R s m args below meth c H locs cells slots Q (F0 m pc lsA (st.map (sv G)))) : V l G K h0 pc ls st h r h' :=
  ⟨kk.1, kk.2.1, fun C hP a1 a2 a3 a4 hl => f C hl (fun lsB hB => kk.2.2 C hP a1 a2 a3 a4 hB)⟩
theorem lset_has1 {lsB : Array Slot} {n i : Nat} {v : Value} (hc : v.category = 1) (hB : lv_has lsB n ((i, sv G v) :: (mv G ls).filter (fun q => !(q.1 == i) && !(q.1 + 1 == i && q.2.category == 2)))) : lv_has lsB n (mv G (lset i v ls)) := by
  refine ⟨hB.1, hB.2.1, fun q hq => ?_⟩
  obtain ⟨q0, hm, rfl⟩ := List.mem_map.mp hq
  refine hB.2.2 _ ?_
  rcases lset_mem hm with e | ⟨e1, e2, e3, e4⟩
  · subst e; exact List.mem_cons_self
  · refine List.mem_cons_of_mem _ (List.mem_filter.mpr ⟨List.mem_map.mpr ⟨q0, e1, rfl⟩, ?_⟩)
    simp [sv_cat, e2]
    rcases Nat.decEq (q0.fst + 1) i with z | z
    · exact Or.inl z
    · exact Or.inr (fun z2 => e4 ⟨z, z2⟩)
theorem lset_has2 {lsB : Array Slot} {n i : Nat} {v : Value} (hc : v.category = 2) (hB : lv_has lsB n ((i, sv G v) :: (mv G ls).filter (fun q => !(q.1 == i) && (!(q.1 == i + 1) && !(q.1 + 1 == i && q.2.category == 2))))) : lv_has lsB n (mv G (lset i v ls)) := by
  refine ⟨hB.1, hB.2.1, fun q hq => ?_⟩
  obtain ⟨q0, hm, rfl⟩ := List.mem_map.mp hq
  refine hB.2.2 _ ?_
  rcases lset_mem hm with e | ⟨e1, e2, e3, e4⟩
  · subst e; exact List.mem_cons_self
  · refine List.mem_cons_of_mem _ (List.mem_filter.mpr ⟨List.mem_map.mpr ⟨q0, e1, rfl⟩, ?_⟩)
    simp [sv_cat, e2, e3 hc]
    rcases Nat.decEq (q0.fst + 1) i with z | z
    · exact Or.inl z
    · exact Or.inr (fun z2 => e4 ⟨z, z2⟩)

theorem V_iconst {n : Int} {v : Int32} (hd : decode K.code pc = .ok (.iconst n, 1)) (hv : Int32.ofInt n = v) (kk : V l G K h0 (pc + 1) ls (.int v :: st) h r h') : V l G K h0 pc ls (st) h r h' := V_go kk (fun C hl _ _ w => lv_iconst C.1 C.2.1 hd hv w)
theorem V_bipush {n : Int} {v : Int32} (hd : decode K.code pc = .ok (.bipush n, 2)) (hv : (Int8.ofInt n).toInt32 = v) (kk : V l G K h0 (pc + 2) ls (.int v :: st) h r h') : V l G K h0 pc ls (st) h r h' := V_go kk (fun C hl _ _ w => lv_bipush C.1 C.2.1 hd hv w)
theorem V_sipush {n : Int} {v : Int32} (hd : decode K.code pc = .ok (.sipush n, 3)) (hv : (Int16.ofInt n).toInt32 = v) (kk : V l G K h0 (pc + 3) ls (.int v :: st) h r h') : V l G K h0 pc ls (st) h r h' := V_go kk (fun C hl _ _ w => lv_sipush C.1 C.2.1 hd hv w)
theorem V_lconst {n : Fin 2} {v : Int64} (hd : decode K.code pc = .ok (.lconst n, 1)) (hv : Int64.ofNat n = v) (kk : V l G K h0 (pc + 1) ls (.long v :: st) h r h') : V l G K h0 pc ls (st) h r h' := V_go kk (fun C hl _ _ w => lv_lconst C.1 C.2.1 hd hv w)
theorem V_ldc {ix : Nat} {v : Int32} (hd : decode K.code pc = .ok (.ldc ix, 2)) (hw : Cond.constant K.y.cls ix v ∈ tw) (kk : V l G K h0 (pc + 2) ls (.int v :: st) h r h') : V l G K h0 pc ls (st) h r h' := V_go kk (fun C hl _ _ w => lv_ldc C.1 C.2.1 C.2.2.2.2.2.1 (C.2.2.2.2.2.2.2.2.1 _ hw) hd w)
theorem V_ldc2 {ix : Nat} {v : Int64} (hd : decode K.code pc = .ok (.ldc2_w ix, 3)) (hw : Cond.constantLong K.y.cls ix v ∈ tw) (kk : V l G K h0 (pc + 3) ls (.long v :: st) h r h') : V l G K h0 pc ls (st) h r h' := V_go kk (fun C hl _ _ w => lv_ldc2 C.1 C.2.1 C.2.2.2.2.2.1 (C.2.2.2.2.2.2.2.2.1 _ hw) hd w)
theorem V_iload_n {k : Fin 4} {x : Int32} (hd : decode K.code pc = .ok (.iload_n k, 1)) (e : lg ls k = some (.int x)) (kk : V l G K h0 (pc + 1) ls (.int x :: st) h r h') : V l G K h0 pc ls (st) h r h' := V_go kk (fun C hl _ _ w => lv_iload_n C.1 C.2.1 hd rfl (lg_at hl e) w)
theorem V_iload {i : Nat} {x : Int32} (hd : decode K.code pc = .ok (.iload i, 2)) (e : lg ls i = some (.int x)) (kk : V l G K h0 (pc + 2) ls (.int x :: st) h r h') : V l G K h0 pc ls (st) h r h' := V_go kk (fun C hl _ _ w => lv_iload C.1 C.2.1 hd (lg_at hl e) w)
theorem V_lload_n {k : Fin 4} {x : Int64} (hd : decode K.code pc = .ok (.lload_n k, 1)) (e : lg ls k = some (.long x)) (kk : V l G K h0 (pc + 1) ls (.long x :: st) h r h') : V l G K h0 pc ls (st) h r h' := V_go kk (fun C hl _ _ w => lv_lload_n C.1 C.2.1 hd rfl (lg_at hl e) w)
theorem V_lload {i : Nat} {x : Int64} (hd : decode K.code pc = .ok (.lload i, 2)) (e : lg ls i = some (.long x)) (kk : V l G K h0 (pc + 2) ls (.long x :: st) h r h') : V l G K h0 pc ls (st) h r h' := V_go kk (fun C hl _ _ w => lv_lload C.1 C.2.1 hd (lg_at hl e) w)
theorem V_aload_n {k : Fin 4} {x : Nat} (hd : decode K.code pc = .ok (.aload_n k, 1)) (e : lg ls k = some (.ref x)) (kk : V l G K h0 (pc + 1) ls (.ref x :: st) h r h') : V l G K h0 pc ls st h r h' := by
  cases x with
  | zero => exact V_go kk (fun C hl _ _ w => lv_aload_n C.1 C.2.1 hd rfl (lg_at hl e) w)
  | succ x => exact V_go kk (fun C hl _ _ w => lv_aload_n C.1 C.2.1 hd rfl (lg_at hl e) w)
theorem V_aload {i : Nat} {x : Nat} (hd : decode K.code pc = .ok (.aload i, 2)) (e : lg ls i = some (.ref x)) (kk : V l G K h0 (pc + 2) ls (.ref x :: st) h r h') : V l G K h0 pc ls st h r h' := by
  cases x with
  | zero => exact V_go kk (fun C hl _ _ w => lv_aload C.1 C.2.1 hd (lg_at hl e) w)
  | succ x => exact V_go kk (fun C hl _ _ w => lv_aload C.1 C.2.1 hd (lg_at hl e) w)
theorem V_istore_n {k : Fin 4} {x : Int32} {ls' : List (Nat × Value)} (hd : decode K.code pc = .ok (.istore_n k, 1)) (hi : (k : Nat) < K.maxL) (e : lset k (.int x) ls = ls') (kk : V l G K h0 (pc + 1) ls' st h r h') : V l G K h0 pc ls (.int x :: st) h r h' := by
  subst e
  exact V_go1 kk (fun C hl w => lv_istore_n C.1 C.2.1 hd rfl hl hi rfl (fun lsB hB => w lsB (lset_has1 (v := .int x) rfl hB)))
theorem V_istore {i : Nat} {x : Int32} {ls' : List (Nat × Value)} (hd : decode K.code pc = .ok (.istore i, 2)) (hi : i < K.maxL) (e : lset i (.int x) ls = ls') (kk : V l G K h0 (pc + 2) ls' st h r h') : V l G K h0 pc ls (.int x :: st) h r h' := by
  subst e
  exact V_go1 kk (fun C hl w => lv_istore C.1 C.2.1 hd hl hi rfl (fun lsB hB => w lsB (lset_has1 (v := .int x) rfl hB)))
theorem V_lstore_n {k : Fin 4} {x : Int64} {ls' : List (Nat × Value)} (hd : decode K.code pc = .ok (.lstore_n k, 1)) (hi : (k : Nat) + 1 < K.maxL) (e : lset k (.long x) ls = ls') (kk : V l G K h0 (pc + 1) ls' st h r h') : V l G K h0 pc ls (.long x :: st) h r h' := by
  subst e
  exact V_go1 kk (fun C hl w => lv_lstore_n C.1 C.2.1 hd rfl hl hi rfl (fun lsB hB => w lsB (lset_has2 (v := .long x) rfl hB)))
theorem V_lstore {i : Nat} {x : Int64} {ls' : List (Nat × Value)} (hd : decode K.code pc = .ok (.lstore i, 2)) (hi : i + 1 < K.maxL) (e : lset i (.long x) ls = ls') (kk : V l G K h0 (pc + 2) ls' st h r h') : V l G K h0 pc ls (.long x :: st) h r h' := by
  subst e
  exact V_go1 kk (fun C hl w => lv_lstore C.1 C.2.1 hd hl hi rfl (fun lsB hB => w lsB (lset_has2 (v := .long x) rfl hB)))
theorem V_astore_n {k : Fin 4} {x : Nat} {ls' : List (Nat × Value)} (hd : decode K.code pc = .ok (.astore_n k, 1)) (hi : (k : Nat) < K.maxL) (e : lset k (.ref x) ls = ls') (kk : V l G K h0 (pc + 1) ls' st h r h') : V l G K h0 pc ls (.ref x :: st) h r h' := by
  subst e
  cases x with
  | zero => exact V_go1 kk (fun C hl w => lv_astore_n C.1 C.2.1 hd rfl hl hi rfl (fun lsB hB => w lsB (lset_has1 (v := .ref 0) rfl hB)))
  | succ x => exact V_go1 kk (fun C hl w => lv_astore_n C.1 C.2.1 hd rfl hl hi rfl (fun lsB hB => w lsB (lset_has1 (v := .ref (x + 1)) rfl hB)))
theorem V_astore {i : Nat} {x : Nat} {ls' : List (Nat × Value)} (hd : decode K.code pc = .ok (.astore i, 2)) (hi : i < K.maxL) (e : lset i (.ref x) ls = ls') (kk : V l G K h0 (pc + 2) ls' st h r h') : V l G K h0 pc ls (.ref x :: st) h r h' := by
  subst e
  cases x with
  | zero => exact V_go1 kk (fun C hl w => lv_astore C.1 C.2.1 hd hl hi rfl (fun lsB hB => w lsB (lset_has1 (v := .ref 0) rfl hB)))
  | succ x => exact V_go1 kk (fun C hl w => lv_astore C.1 C.2.1 hd hl hi rfl (fun lsB hB => w lsB (lset_has1 (v := .ref (x + 1)) rfl hB)))
theorem V_iinc {i : Nat} {n : Int} {x v : Int32} {ls' : List (Nat × Value)} (hd : decode K.code pc = .ok (.iinc i n, 3)) (e : lg ls i = some (.int x)) (hv : x + Int32.ofInt n = v) (hi : i < K.maxL) (e' : lset i (.int v) ls = ls') (kk : V l G K h0 (pc + 3) ls' st h r h') : V l G K h0 pc ls st h r h' := by
  subst e'
  obtain ⟨k, hk⟩ := List.getElem?_of_mem (lg_mem e)
  exact V_go1 kk (fun C hl w => lv_iinc C.1 C.2.1 hd hl (k := k) (by rw [List.getElem?_map, hk]; rfl) hv hi rfl (fun lsB hB => w lsB (lset_has1 (v := .int v) rfl hB)))
theorem ofInt1 : Int32.ofInt 1 = 1 := by decide
theorem V_iinc1 {i : Nat} {x : Int32} {ls' : List (Nat × Value)} (hd : decode K.code pc = .ok (.iinc i 1, 3)) (e : lg ls i = some (.int x)) (hi : i < K.maxL) (e' : lset i (.int (x + 1)) ls = ls') (kk : V l G K h0 (pc + 3) ls' st h r h') : V l G K h0 pc ls st h r h' := V_iinc hd e (by rw [ofInt1]) hi e' kk
theorem V_iadd {x y : Int32} (hd : decode K.code pc = .ok (.iadd, 1))  (kk : V l G K h0 (pc + 1) ls (.int (x + y) :: st) h r h') : V l G K h0 pc ls (.int y :: .int x :: st) h r h' := V_go kk (fun C hl _ _ w => lv_iadd C.1 C.2.1 hd w)
theorem V_isub {x y : Int32} (hd : decode K.code pc = .ok (.isub, 1))  (kk : V l G K h0 (pc + 1) ls (.int (x - y) :: st) h r h') : V l G K h0 pc ls (.int y :: .int x :: st) h r h' := V_go kk (fun C hl _ _ w => lv_isub C.1 C.2.1 hd w)
theorem V_imul {x y : Int32} (hd : decode K.code pc = .ok (.imul, 1))  (kk : V l G K h0 (pc + 1) ls (.int (x * y) :: st) h r h') : V l G K h0 pc ls (.int y :: .int x :: st) h r h' := V_go kk (fun C hl _ _ w => lv_imul C.1 C.2.1 hd w)
theorem V_iand {x y : Int32} (hd : decode K.code pc = .ok (.iand, 1))  (kk : V l G K h0 (pc + 1) ls (.int (x &&& y) :: st) h r h') : V l G K h0 pc ls (.int y :: .int x :: st) h r h' := V_go kk (fun C hl _ _ w => lv_iand C.1 C.2.1 hd w)
theorem V_ior {x y : Int32} (hd : decode K.code pc = .ok (.ior, 1))  (kk : V l G K h0 (pc + 1) ls (.int (x ||| y) :: st) h r h') : V l G K h0 pc ls (.int y :: .int x :: st) h r h' := V_go kk (fun C hl _ _ w => lv_ior C.1 C.2.1 hd w)
theorem V_ixor {x y : Int32} (hd : decode K.code pc = .ok (.ixor, 1))  (kk : V l G K h0 (pc + 1) ls (.int (x ^^^ y) :: st) h r h') : V l G K h0 pc ls (.int y :: .int x :: st) h r h' := V_go kk (fun C hl _ _ w => lv_ixor C.1 C.2.1 hd w)
theorem V_ladd {x y : Int64} (hd : decode K.code pc = .ok (.ladd, 1))  (kk : V l G K h0 (pc + 1) ls (.long (x + y) :: st) h r h') : V l G K h0 pc ls (.long y :: .long x :: st) h r h' := V_go kk (fun C hl _ _ w => lv_ladd C.1 C.2.1 hd w)
theorem V_lsub {x y : Int64} (hd : decode K.code pc = .ok (.lsub, 1))  (kk : V l G K h0 (pc + 1) ls (.long (x - y) :: st) h r h') : V l G K h0 pc ls (.long y :: .long x :: st) h r h' := V_go kk (fun C hl _ _ w => lv_lsub C.1 C.2.1 hd w)
theorem V_lmul {x y : Int64} (hd : decode K.code pc = .ok (.lmul, 1))  (kk : V l G K h0 (pc + 1) ls (.long (x * y) :: st) h r h') : V l G K h0 pc ls (.long y :: .long x :: st) h r h' := V_go kk (fun C hl _ _ w => lv_lmul C.1 C.2.1 hd w)
theorem V_land {x y : Int64} (hd : decode K.code pc = .ok (.land, 1))  (kk : V l G K h0 (pc + 1) ls (.long (x &&& y) :: st) h r h') : V l G K h0 pc ls (.long y :: .long x :: st) h r h' := V_go kk (fun C hl _ _ w => lv_land C.1 C.2.1 hd w)
theorem V_lor {x y : Int64} (hd : decode K.code pc = .ok (.lor, 1))  (kk : V l G K h0 (pc + 1) ls (.long (x ||| y) :: st) h r h') : V l G K h0 pc ls (.long y :: .long x :: st) h r h' := V_go kk (fun C hl _ _ w => lv_lor C.1 C.2.1 hd w)
theorem V_lxor {x y : Int64} (hd : decode K.code pc = .ok (.lxor, 1))  (kk : V l G K h0 (pc + 1) ls (.long (x ^^^ y) :: st) h r h') : V l G K h0 pc ls (.long y :: .long x :: st) h r h' := V_go kk (fun C hl _ _ w => lv_lxor C.1 C.2.1 hd w)
theorem V_idiv {x y : Int32} (hd : decode K.code pc = .ok (.idiv, 1)) (hne : ¬ y = 0) (kk : V l G K h0 (pc + 1) ls (.int (x / y) :: st) h r h') : V l G K h0 pc ls (.int y :: .int x :: st) h r h' := V_go kk (fun C hl _ _ w => lv_idiv C.1 C.2.1 hd hne w)
theorem V_irem {x y : Int32} (hd : decode K.code pc = .ok (.irem, 1)) (hne : ¬ y = 0) (kk : V l G K h0 (pc + 1) ls (.int (x - x / y * y) :: st) h r h') : V l G K h0 pc ls (.int y :: .int x :: st) h r h' := V_go kk (fun C hl _ _ w => lv_irem C.1 C.2.1 hd hne w)
theorem V_ldiv {x y : Int64} (hd : decode K.code pc = .ok (.ldiv, 1)) (hne : ¬ y = 0) (kk : V l G K h0 (pc + 1) ls (.long (x / y) :: st) h r h') : V l G K h0 pc ls (.long y :: .long x :: st) h r h' := V_go kk (fun C hl _ _ w => lv_ldiv C.1 C.2.1 hd hne w)
theorem V_lrem {x y : Int64} (hd : decode K.code pc = .ok (.lrem, 1)) (hne : ¬ y = 0) (kk : V l G K h0 (pc + 1) ls (.long (x - x / y * y) :: st) h r h') : V l G K h0 pc ls (.long y :: .long x :: st) h r h' := V_go kk (fun C hl _ _ w => lv_lrem C.1 C.2.1 hd hne w)
theorem V_ineg {x : Int32} (hd : decode K.code pc = .ok (.ineg, 1))  (kk : V l G K h0 (pc + 1) ls (.int (-x) :: st) h r h') : V l G K h0 pc ls (.int x :: st) h r h' := V_go kk (fun C hl _ _ w => lv_ineg C.1 C.2.1 hd w)
theorem V_lneg {x : Int64} (hd : decode K.code pc = .ok (.lneg, 1))  (kk : V l G K h0 (pc + 1) ls (.long (-x) :: st) h r h') : V l G K h0 pc ls (.long x :: st) h r h' := V_go kk (fun C hl _ _ w => lv_lneg C.1 C.2.1 hd w)
theorem V_lshl {x v : Int64} {y : Int32} (hd : decode K.code pc = .ok (.lshl, 1)) (hv : x <<< (y.toInt64 &&& 63) = v) (kk : V l G K h0 (pc + 1) ls (.long v :: st) h r h') : V l G K h0 pc ls (.int y :: .long x :: st) h r h' := V_go kk (fun C hl _ _ w => lv_lshl C.1 C.2.1 hd hv w)
theorem V_i2l {x : Int32} (hd : decode K.code pc = .ok (.i2l, 1))  (kk : V l G K h0 (pc + 1) ls (.long x.toInt64 :: st) h r h') : V l G K h0 pc ls (.int x :: st) h r h' := V_go kk (fun C hl _ _ w => lv_i2l C.1 C.2.1 hd rfl w)
theorem V_l2i {x : Int64} (hd : decode K.code pc = .ok (.l2i, 1))  (kk : V l G K h0 (pc + 1) ls (.int x.toInt32 :: st) h r h') : V l G K h0 pc ls (.long x :: st) h r h' := V_go kk (fun C hl _ _ w => lv_l2i C.1 C.2.1 hd rfl w)
theorem V_lcmp {x y : Int64} (hd : decode K.code pc = .ok (.lcmp, 1))  (kk : V l G K h0 (pc + 1) ls (.int (lg_cmp x y) :: st) h r h') : V l G K h0 pc ls (.long y :: .long x :: st) h r h' := V_go kk (fun C hl _ _ w => W.lcmp C.1 C.2.1 hd w)
theorem V_dup {v : Value} (hd : decode K.code pc = .ok (.dup, 1)) (hc : v.category = 1) (kk : V l G K h0 (pc + 1) ls (v :: v :: st) h r h') : V l G K h0 pc ls (v :: st) h r h' := V_go kk (fun C hl _ _ w => lv_dup C.1 C.2.1 hd (by rw [sv_cat]; exact hc) w)
theorem V_pop {v : Value} (hd : decode K.code pc = .ok (.pop, 1)) (hc : v.category = 1) (kk : V l G K h0 (pc + 1) ls (st) h r h') : V l G K h0 pc ls (v :: st) h r h' := V_go kk (fun C hl _ _ w => lv_pop C.1 C.2.1 hd (by rw [sv_cat]; exact hc) w)
theorem V_dup_x1 {v u : Value} (hd : decode K.code pc = .ok (.dup_x1, 1)) (hc : v.category = 1) (hu : u.category = 1) (kk : V l G K h0 (pc + 1) ls (v :: u :: v :: st) h r h') : V l G K h0 pc ls (v :: u :: st) h r h' := V_go kk (fun C hl _ _ w => lv_dup_x1 C.1 C.2.1 hd (by rw [sv_cat]; exact hc) (by rw [sv_cat]; exact hu) w)
theorem V_dup_x2 {v u t : Value} (hd : decode K.code pc = .ok (.dup_x2, 1)) (hc : v.category = 1) (hu : u.category = 1) (ht : t.category = 1) (kk : V l G K h0 (pc + 1) ls (v :: u :: t :: v :: st) h r h') : V l G K h0 pc ls (v :: u :: t :: st) h r h' := V_go kk (fun C hl _ _ w => lv_dup_x2 C.1 C.2.1 hd (by rw [sv_cat]; exact hc) (by rw [sv_cat]; exact hu) (by rw [sv_cat]; exact ht) w)
theorem V_dup2 {v u : Value} (hd : decode K.code pc = .ok (.dup2, 1)) (hc : v.category = 1) (hu : u.category = 1) (kk : V l G K h0 (pc + 1) ls (v :: u :: v :: u :: st) h r h') : V l G K h0 pc ls (v :: u :: st) h r h' := V_go kk (fun C hl _ _ w => lv_dup2_11 C.1 C.2.1 hd (by rw [sv_cat]; exact hc) (by rw [sv_cat]; exact hu) w)
theorem V_if_eq {x : Int32} {off : Int} {tgt : Nat} (hd : decode K.code pc = .ok (.ifCond .eq off, 3)) (ht : (pc : Int) + off = (tgt : Int)) (kt : x = 0 → V l G K h0 tgt ls st h r h') (kf : ¬ (x = 0) → V l G K h0 (pc + 3) ls st h r h') : V l G K h0 pc ls (.int x :: st) h r h' := by
  rcases Classical.em (x = 0) with e | e
  · exact V_go (kt e) (fun C hl _ _ w => lv_if_eq C.1 C.2.1 hd ht (fun _ => w) (fun q => absurd e q))
  · exact V_go (kf e) (fun C hl _ _ w => lv_if_eq C.1 C.2.1 hd ht (fun q => absurd q e) (fun _ => w))
theorem V_icmp_eq {x y : Int32} {off : Int} {tgt : Nat} (hd : decode K.code pc = .ok (.if_icmp .eq off, 3)) (ht : (pc : Int) + off = (tgt : Int)) (kt : x = y → V l G K h0 tgt ls st h r h') (kf : ¬ (x = y) → V l G K h0 (pc + 3) ls st h r h') : V l G K h0 pc ls (.int y :: .int x :: st) h r h' := by
  rcases Classical.em (x = y) with e | e
  · exact V_go (kt e) (fun C hl _ _ w => lv_icmp_eq C.1 C.2.1 hd ht (fun _ => w) (fun q => absurd e q))
  · exact V_go (kf e) (fun C hl _ _ w => lv_icmp_eq C.1 C.2.1 hd ht (fun q => absurd q e) (fun _ => w))
theorem V_if_ne {x : Int32} {off : Int} {tgt : Nat} (hd : decode K.code pc = .ok (.ifCond .ne off, 3)) (ht : (pc : Int) + off = (tgt : Int)) (kt : ¬ x = 0 → V l G K h0 tgt ls st h r h') (kf : x = 0 → V l G K h0 (pc + 3) ls st h r h') : V l G K h0 pc ls (.int x :: st) h r h' := by
  rcases Classical.em (¬ x = 0) with e | e
  · exact V_go (kt e) (fun C hl _ _ w => lv_if_ne C.1 C.2.1 hd ht (fun _ => w) (fun q => absurd q e))
  · exact V_go (kf (Classical.not_not.mp e)) (fun C hl _ _ w => lv_if_ne C.1 C.2.1 hd ht (fun q => absurd q e) (fun _ => w))
theorem V_icmp_ne {x y : Int32} {off : Int} {tgt : Nat} (hd : decode K.code pc = .ok (.if_icmp .ne off, 3)) (ht : (pc : Int) + off = (tgt : Int)) (kt : ¬ x = y → V l G K h0 tgt ls st h r h') (kf : x = y → V l G K h0 (pc + 3) ls st h r h') : V l G K h0 pc ls (.int y :: .int x :: st) h r h' := by
  rcases Classical.em (¬ x = y) with e | e
  · exact V_go (kt e) (fun C hl _ _ w => lv_icmp_ne C.1 C.2.1 hd ht (fun _ => w) (fun q => absurd q e))
  · exact V_go (kf (Classical.not_not.mp e)) (fun C hl _ _ w => lv_icmp_ne C.1 C.2.1 hd ht (fun q => absurd q e) (fun _ => w))
theorem V_if_lt {x : Int32} {off : Int} {tgt : Nat} (hd : decode K.code pc = .ok (.ifCond .lt off, 3)) (ht : (pc : Int) + off = (tgt : Int)) (kt : x < 0 → V l G K h0 tgt ls st h r h') (kf : ¬ (x < 0) → V l G K h0 (pc + 3) ls st h r h') : V l G K h0 pc ls (.int x :: st) h r h' := by
  rcases Classical.em (x < 0) with e | e
  · exact V_go (kt e) (fun C hl _ _ w => lv_if_lt C.1 C.2.1 hd ht (fun _ => w) (fun q => absurd e q))
  · exact V_go (kf e) (fun C hl _ _ w => lv_if_lt C.1 C.2.1 hd ht (fun q => absurd q e) (fun _ => w))
theorem V_icmp_lt {x y : Int32} {off : Int} {tgt : Nat} (hd : decode K.code pc = .ok (.if_icmp .lt off, 3)) (ht : (pc : Int) + off = (tgt : Int)) (kt : x < y → V l G K h0 tgt ls st h r h') (kf : ¬ (x < y) → V l G K h0 (pc + 3) ls st h r h') : V l G K h0 pc ls (.int y :: .int x :: st) h r h' := by
  rcases Classical.em (x < y) with e | e
  · exact V_go (kt e) (fun C hl _ _ w => lv_icmp_lt C.1 C.2.1 hd ht (fun _ => w) (fun q => absurd e q))
  · exact V_go (kf e) (fun C hl _ _ w => lv_icmp_lt C.1 C.2.1 hd ht (fun q => absurd q e) (fun _ => w))
theorem V_if_ge {x : Int32} {off : Int} {tgt : Nat} (hd : decode K.code pc = .ok (.ifCond .ge off, 3)) (ht : (pc : Int) + off = (tgt : Int)) (kt : 0 ≤ x → V l G K h0 tgt ls st h r h') (kf : ¬ (0 ≤ x) → V l G K h0 (pc + 3) ls st h r h') : V l G K h0 pc ls (.int x :: st) h r h' := by
  rcases Classical.em (0 ≤ x) with e | e
  · exact V_go (kt e) (fun C hl _ _ w => lv_if_ge C.1 C.2.1 hd ht (fun _ => w) (fun q => absurd e q))
  · exact V_go (kf e) (fun C hl _ _ w => lv_if_ge C.1 C.2.1 hd ht (fun q => absurd q e) (fun _ => w))
theorem V_icmp_ge {x y : Int32} {off : Int} {tgt : Nat} (hd : decode K.code pc = .ok (.if_icmp .ge off, 3)) (ht : (pc : Int) + off = (tgt : Int)) (kt : y ≤ x → V l G K h0 tgt ls st h r h') (kf : ¬ (y ≤ x) → V l G K h0 (pc + 3) ls st h r h') : V l G K h0 pc ls (.int y :: .int x :: st) h r h' := by
  rcases Classical.em (y ≤ x) with e | e
  · exact V_go (kt e) (fun C hl _ _ w => lv_icmp_ge C.1 C.2.1 hd ht (fun _ => w) (fun q => absurd e q))
  · exact V_go (kf e) (fun C hl _ _ w => lv_icmp_ge C.1 C.2.1 hd ht (fun q => absurd q e) (fun _ => w))
theorem V_if_gt {x : Int32} {off : Int} {tgt : Nat} (hd : decode K.code pc = .ok (.ifCond .gt off, 3)) (ht : (pc : Int) + off = (tgt : Int)) (kt : 0 < x → V l G K h0 tgt ls st h r h') (kf : ¬ (0 < x) → V l G K h0 (pc + 3) ls st h r h') : V l G K h0 pc ls (.int x :: st) h r h' := by
  rcases Classical.em (0 < x) with e | e
  · exact V_go (kt e) (fun C hl _ _ w => lv_if_gt C.1 C.2.1 hd ht (fun _ => w) (fun q => absurd e q))
  · exact V_go (kf e) (fun C hl _ _ w => lv_if_gt C.1 C.2.1 hd ht (fun q => absurd q e) (fun _ => w))
theorem V_icmp_gt {x y : Int32} {off : Int} {tgt : Nat} (hd : decode K.code pc = .ok (.if_icmp .gt off, 3)) (ht : (pc : Int) + off = (tgt : Int)) (kt : y < x → V l G K h0 tgt ls st h r h') (kf : ¬ (y < x) → V l G K h0 (pc + 3) ls st h r h') : V l G K h0 pc ls (.int y :: .int x :: st) h r h' := by
  rcases Classical.em (y < x) with e | e
  · exact V_go (kt e) (fun C hl _ _ w => lv_icmp_gt C.1 C.2.1 hd ht (fun _ => w) (fun q => absurd e q))
  · exact V_go (kf e) (fun C hl _ _ w => lv_icmp_gt C.1 C.2.1 hd ht (fun q => absurd q e) (fun _ => w))
theorem V_if_le {x : Int32} {off : Int} {tgt : Nat} (hd : decode K.code pc = .ok (.ifCond .le off, 3)) (ht : (pc : Int) + off = (tgt : Int)) (kt : x ≤ 0 → V l G K h0 tgt ls st h r h') (kf : ¬ (x ≤ 0) → V l G K h0 (pc + 3) ls st h r h') : V l G K h0 pc ls (.int x :: st) h r h' := by
  rcases Classical.em (x ≤ 0) with e | e
  · exact V_go (kt e) (fun C hl _ _ w => lv_if_le C.1 C.2.1 hd ht (fun _ => w) (fun q => absurd e q))
  · exact V_go (kf e) (fun C hl _ _ w => lv_if_le C.1 C.2.1 hd ht (fun q => absurd q e) (fun _ => w))
theorem V_icmp_le {x y : Int32} {off : Int} {tgt : Nat} (hd : decode K.code pc = .ok (.if_icmp .le off, 3)) (ht : (pc : Int) + off = (tgt : Int)) (kt : x ≤ y → V l G K h0 tgt ls st h r h') (kf : ¬ (x ≤ y) → V l G K h0 (pc + 3) ls st h r h') : V l G K h0 pc ls (.int y :: .int x :: st) h r h' := by
  rcases Classical.em (x ≤ y) with e | e
  · exact V_go (kt e) (fun C hl _ _ w => lv_icmp_le C.1 C.2.1 hd ht (fun _ => w) (fun q => absurd e q))
  · exact V_go (kf e) (fun C hl _ _ w => lv_icmp_le C.1 C.2.1 hd ht (fun q => absurd q e) (fun _ => w))
theorem V_goto {off : Int} {tgt : Nat} (hd : decode K.code pc = .ok (.goto off, 3)) (ht : (pc : Int) + off = (tgt : Int)) (kk : V l G K h0 tgt ls st h r h') : V l G K h0 pc ls st h r h' := V_go kk (fun C hl _ _ w => lv_goto C.1 C.2.1 hd ht w)
theorem V_swIn {dflt lo hi : Int} {offs : Array Int} {len : Nat} {x : Int32} {off : Int} {tgt : Nat} (hd : decode K.code pc = .ok (.tableswitch dflt lo hi offs, len)) (h1 : ¬ x.toInt < lo) (h2 : ¬ hi < x.toInt) (ho : offs[(x.toInt - lo).toNat]? = some off) (ht : (pc : Int) + off = (tgt : Int)) (kk : V l G K h0 tgt ls st h r h') : V l G K h0 pc ls (.int x :: st) h r h' := V_go kk (fun C hl _ _ w => lv_tableIn C.1 C.2.1 hd h1 h2 ho ht w)
theorem V_swOut {dflt lo hi : Int} {offs : Array Int} {len : Nat} {x : Int32} {tgt : Nat} (hd : decode K.code pc = .ok (.tableswitch dflt lo hi offs, len)) (h1 : x.toInt < lo ∨ hi < x.toInt) (ht : (pc : Int) + dflt = (tgt : Int)) (kk : V l G K h0 tgt ls st h r h') : V l G K h0 pc ls (.int x :: st) h r h' := V_go kk (fun C hl _ _ w => lv_tableOut C.1 C.2.1 hd h1 ht w)
end R3
