section R4
variable {l : Launch} {G : Gb} {K : Kt} {h0 : List Ce} {pc : Nat} {ls : List (Nat × Value)} {st : List Value} {h : List Ce} {r : Rs} {h' : List Ce}
theorem Cx.tw {p : Program} {s : State} {m : MethodId} {args : Array Value} {meth : Method} {c : Code} (X : Cx G K p s m args meth c) : ∀ w ∈ tw, w.before args s = true := X.2.2.2.2.2.2.2.2.1
theorem Cx.own {p : Program} {s : State} {m : MethodId} {args : Array Value} {meth : Method} {c : Code} (X : Cx G K p s m args meth c) : s.vm.findClass K.y.cls = some m.cls := X.2.2.2.2.2.1
theorem Cx.kn {p : Program} {s : State} {m : MethodId} {args : Array Value} {meth : Method} {c : Code} (X : Cx G K p s m args meth c) : va_K G.D cls (tyl G) s := X.2.2.2.2.2.2.2.2.2.1
theorem Cx.ev {p : Program} {s : State} {m : MethodId} {args : Array Value} {meth : Method} {c : Code} (X : Cx G K p s m args meth c) : Ev G s s.heap := X.2.2.2.2.2.2.2.2.2.2.1
theorem Cx.scr {p : Program} {s : State} {m : MethodId} {args : Array Value} {meth : Method} {c : Code} (X : Cx G K p s m args meth c) : va_X G.scr G.L G.xs s s.heap ∧ G.scr < G.b ∧ G.b ≤ s.heap.size := X.2.2.2.2.2.2.2.2.2.2.2
/-- the heap's size at a point of the walk -/
theorem sz_of {p : Program} {e : Env} {R : Room} {s : State} {m : MethodId} {args : Array Value} {below : List Frame} {meth : Method} {c : Code} {T : State} {locs : List Loc} {slots : Nat} (X : Stand p l e R s m args below meth c T locs (h.length - h0.length) slots) (hs : s.heap.size = G.b + h0.length) (hle : h0.length ≤ h.length) (hP : va_P G.D cls (wl G h) T.heap) : T.heap.size = G.b + h.length := by
  have h1 := X.heapSize
  have h2 : s.heap.size ≤ T.heap.size := X.same.2.1
  rcases Nat.eq_or_lt_of_le hle with q | q
  · omega
  · obtain ⟨c, hc'⟩ : ∃ c, h[h.length - 1]? = some c := ⟨_, List.getElem?_eq_getElem (by omega)⟩
    have h3 := (hP _ _ (wl_at (G := G) hc')).lt
    have h4 : G.b + (h.length - 1) < T.heap.size := h3
    omega
theorem V_get {ix a ci j N : Nat} {ref C : String} {T : u_T} {fs : List Value} {v : Value} (hd : decode K.code pc = .ok (.getfield ix, 3)) (hlink : Cond.fieldLink K.y.cls ix ref (T j).2.1 (T j).2.2.1 ∈ tw) (hin : ∀ w ∈ u_ws C T N, w ∈ tw) (hr : (T j).1 = ref) (hcell : h[a]? = some (.inr (ci, fs))) (hc : cls[ci]? = some (C, T, N)) (hj : j < N) (hv : fs[j]? = some v) (kk : V l G K h0 (pc + 3) ls (v :: st) h r h') : V l G K h0 pc ls (.ref (a + 1) :: st) h r h' :=
  V_go kk (fun X hl hP hS w => va_get X.1 X.2.1 X.tw hin X.own X.kn hP a (wl_at hcell) hc j hj (X.tw _ hlink) (by subst hr; exact fun _ h => h) (v := sv G v) (by simp [hv]) hd w)
theorem V_put {ix a ci j N : Nat} {ref C : String} {T : u_T} {fs : List Value} {v : Value} (tyf : Nat → FieldType) (hty : ∀ k, k < N → parseFieldDescriptor (T k).2.2.1 = some (tyf k)) (hnm : ∀ a, a < N → ∀ b, b < N → a ≠ b → (T a).2.1 ≠ (T b).2.1) (hd : decode K.code pc = .ok (.putfield ix, 3)) (hlink : Cond.fieldLink K.y.cls ix ref (T j).2.1 (T j).2.2.1 ∈ tw) (hin : ∀ w ∈ u_ws C T N, w ∈ tw) (hr : (T j).1 = ref) (hfin : (T j).2.2.2 = false) (hcell : h[a]? = some (.inr (ci, fs))) (hc : cls[ci]? = some (C, T, N)) (hj : j < N) (hn : narrow (tyf j) (sv G v) = sv G v) (hf : fits (tyf j) (sv G v) = true) (hl' : j < fs.length) (kk : V l G K h0 (pc + 3) ls st (h.set a (.inr (ci, fs.set j v))) r h') : V l G K h0 pc ls (v :: .ref (a + 1) :: st) h r h' := by
  have es : sl (h.set a (.inr (ci, fs.set j v))) = sl h := sl_set h a _ _ hcell rfl
  refine ⟨by have := kk.1; rwa [List.length_set] at this, by have := kk.2.1; rwa [es] at this, ?_⟩
  intro p e s m args below meth c H locs lsA X hP a1 a2 a3 a4 hl
  refine va_put X.1 X.2.1 X.tw hin tyf hty hnm X.own X.kn hP (wl_D G h) a4 a (wl_at hcell) hc j hj (X.tw _ hlink) (by subst hr; exact fun _ h => h) hfin (hty j hj) hn hf (by rw [List.length_map]; exact hl') hd (fun H1 locs1 hP1 _ hS1 => ?_)
  have w := kk.2.2 (e := e) (below := below) (H := H1) (locs := locs1) X (by rw [← wl_set]; show va_P _ _ ((wl G h).set a (G.b + a, .inr (ci, (fs.set j v).map (sv G)))) H1; rw [List.map_set]; exact hP1) a1 (by rw [List.length_set]; exact a2) (by rw [es]; exact a3) hS1 hl
  rw [List.length_set, es] at w
  exact w
theorem V_putF {ix a ci j N : Nat} {ref C : String} {T : u_T} {fs : List Value} {v : Value} (tyf : Nat → FieldType) (hty : ∀ k, k < N → parseFieldDescriptor (T k).2.2.1 = some (tyf k)) (hnm : ∀ a, a < N → ∀ b, b < N → a ≠ b → (T a).2.1 ≠ (T b).2.1) (hd : decode K.code pc = .ok (.putfield ix, 3)) (hlink : Cond.fieldLink K.y.cls ix ref (T j).2.1 (T j).2.2.1 ∈ tw) (hin : ∀ w ∈ u_ws C T N, w ∈ tw) (hr : (T j).1 = ref) (hfin : (T j).2.2.2 = true) (hini : K.y.name = "<init>") (how : (T j).1 = K.y.cls) (hcell : h[a]? = some (.inr (ci, fs))) (hc : cls[ci]? = some (C, T, N)) (hj : j < N) (hn : narrow (tyf j) (sv G v) = sv G v) (hf : fits (tyf j) (sv G v) = true) (hl' : j < fs.length) (kk : V l G K h0 (pc + 3) ls st (h.set a (.inr (ci, fs.set j v))) r h') : V l G K h0 pc ls (v :: .ref (a + 1) :: st) h r h' := by
  have es : sl (h.set a (.inr (ci, fs.set j v))) = sl h := sl_set h a _ _ hcell rfl
  refine ⟨by have := kk.1; rwa [List.length_set] at this, by have := kk.2.1; rwa [es] at this, ?_⟩
  intro p e s m args below meth c H locs lsA X hP a1 a2 a3 a4 hl
  refine va_putF X.1 X.2.1 X.tw hin tyf hty hnm X.own X.kn hP (wl_D G h) a4 a (wl_at hcell) hc j hj (X.tw _ hlink) (by subst hr; exact fun _ h => h) hfin (X.2.2.2.2.2.2.1.trans hini) how (hty j hj) hn hf (by rw [List.length_map]; exact hl') hd (fun H1 locs1 hP1 _ hS1 => ?_)
  have w := kk.2.2 (e := e) (below := below) (H := H1) (locs := locs1) X (by rw [← wl_set]; show va_P _ _ ((wl G h).set a (G.b + a, .inr (ci, (fs.set j v).map (sv G)))) H1; rw [List.map_set]; exact hP1) a1 (by rw [List.length_set]; exact a2) (by rw [es]; exact a3) hS1 hl
  rw [List.length_set, es] at w
  exact w
theorem V_iald {a N : Nat} {f : Nat → Int32} {i : Int32} (hd : decode K.code pc = .ok (.iaload, 1)) (hcell : h[a]? = some (.inl (.int, N, .inl f))) (hi : vp_in i N) (kk : V l G K h0 (pc + 1) ls (.int (f i.toNatClampNeg) :: st) h r h') : V l G K h0 pc ls (.int i :: .ref (a + 1) :: st) h r h' :=
  V_go kk (fun X hl hP hS w => va_iald X.1 X.2.1 X.kn hP a 0 (wl_at hcell) rfl hi hd w)
theorem V_zald {a N : Nat} {f : Nat → Int32} {i : Int32} (hd : decode K.code pc = .ok (.baload, 1)) (hcell : h[a]? = some (.inl (.boolean, N, .inl f))) (hi : vp_in i N) (kk : V l G K h0 (pc + 1) ls (.int (f i.toNatClampNeg) :: st) h r h') : V l G K h0 pc ls (.int i :: .ref (a + 1) :: st) h r h' :=
  V_go kk (fun X hl hP hS w => va_zald X.1 X.2.1 X.kn hP a 1 (wl_at hcell) rfl hi hd w)
theorem V_lald {a N : Nat} {f : Nat → Int64} {i : Int32} (hd : decode K.code pc = .ok (.laload, 1)) (hcell : h[a]? = some (.inl (.long, N, .inr (.inl f)))) (hi : vp_in i N) (kk : V l G K h0 (pc + 1) ls (.long (f i.toNatClampNeg) :: st) h r h') : V l G K h0 pc ls (.int i :: .ref (a + 1) :: st) h r h' :=
  V_go kk (fun X hl hP hS w => va_lald X.1 X.2.1 X.kn hP a 2 (wl_at hcell) rfl hi hd w)
theorem V_sld {i : Int32} (hd : decode K.code pc = .ok (.iaload, 1)) (hi : vp_in i G.L) (kk : V l G K h0 (pc + 1) ls (.int (G.xs i.toNatClampNeg) :: st) h r h') : V l G K h0 pc ls (.int i :: .ref 0 :: st) h r h' :=
  V_go kk (fun X hl hP hS w => va_sld X.1 X.2.1 X.scr.1 (Nat.lt_of_lt_of_le X.scr.2.1 X.scr.2.2) (Nat.not_le.mpr X.scr.2.1) hS hi hd w)
theorem V_slen (hd : decode K.code pc = .ok (.arraylength, 1)) (kk : V l G K h0 (pc + 1) ls (.int (nI G.L) :: st) h r h') : V l G K h0 pc ls (.ref 0 :: st) h r h' :=
  V_go kk (fun X hl hP hS w => va_slen X.1 X.2.1 X.scr.1 (Nat.lt_of_lt_of_le X.scr.2.1 X.scr.2.2) (Nat.not_le.mpr X.scr.2.1) hS hd w)
theorem V_ialen {a N : Nat} {f : Nat → Int32} (hd : decode K.code pc = .ok (.arraylength, 1)) (hcell : h[a]? = some (.inl (.int, N, .inl f))) (kk : V l G K h0 (pc + 1) ls (.int (nI N) :: st) h r h') : V l G K h0 pc ls (.ref (a + 1) :: st) h r h' :=
  V_go kk (fun X hl hP hS w => va_alen X.1 X.2.1 X.kn hP a 0 (wl_at hcell) (ty := .int) rfl rfl hd w)
/-- an array's contents are written -/
theorem V_wr {pc' a : Nat} {c c' : Ce} {st' : List Value} (hcell : h[a]? = some c) (e1 : sl1 c' = sl1 c) (kk : V l G K h0 pc' ls st' (h.set a c') r h') (f : ∀ {p : Program} {e : Env} {R : Room} {s : State} {m : MethodId} {args : Array Value} {below : List Frame} {meth : Method} {c0 : Code} {H : Heap} {locs : List Loc} {cells slots : Nat} {Q : State → Prop} {lsA : Array Slot}, Cx G K p s m args meth c0 → lv_has lsA K.maxL (mv G ls) → va_P G.D cls (wl G h) H → va_S (Ar G) s.heap H locs → (∀ (H1 : Heap) (locs1 : List Loc), va_P G.D cls ((wl G h).set a (G.b + a, cv G c')) H1 → va_S (Ar G) s.heap H1 locs1 → W p l e R s m args below meth c0 H1 locs1 cells slots Q (F0 m pc' lsA (st'.map (sv G)))) → W p l e R s m args below meth c0 H locs cells slots Q (F0 m pc lsA (st.map (sv G)))) : V l G K h0 pc ls st h r h' := by
  have es : sl (h.set a c') = sl h := sl_set h a _ _ hcell e1
  refine ⟨by have := kk.1; rwa [List.length_set] at this, by have := kk.2.1; rwa [es] at this, ?_⟩
  intro p e s m args below meth c H locs lsA X hP a1 a2 a3 a4 hl
  refine f X hl hP a4 (fun H1 locs1 hP1 hS1 => ?_)
  have w := kk.2.2 (e := e) (below := below) (H := H1) (locs := locs1) X (by rw [← wl_set]; exact hP1) a1 (by rw [List.length_set]; exact a2) (by rw [es]; exact a3) hS1 hl
  rw [List.length_set, es] at w
  exact w
theorem V_iast {a N : Nat} {f : Nat → Int32} {i x : Int32} (hd : decode K.code pc = .ok (.iastore, 1)) (hcell : h[a]? = some (.inl (.int, N, .inl f))) (hi : vp_in i N) (kk : V l G K h0 (pc + 1) ls st (h.set a (.inl (.int, N, .inl (upd f i.toNatClampNeg x)))) r h') : V l G K h0 pc ls (.int x :: .int i :: .ref (a + 1) :: st) h r h' :=
  V_wr (c' := .inl (.int, N, .inl (upd f i.toNatClampNeg x))) hcell rfl kk (fun X hl hP hS w => va_iast X.1 X.2.1 X.kn hP (wl_D G h) hS a 0 (wl_at hcell) rfl hi hd (fun H1 locs1 hP1 _ hS1 => w H1 locs1 hP1 hS1))
theorem V_zast {a N : Nat} {f : Nat → Int32} {i x : Int32} (hd : decode K.code pc = .ok (.bastore, 1)) (hcell : h[a]? = some (.inl (.boolean, N, .inl f))) (hi : vp_in i N) (hx : vp_nar .boolean x = x) (kk : V l G K h0 (pc + 1) ls st (h.set a (.inl (.boolean, N, .inl (upd f i.toNatClampNeg x)))) r h') : V l G K h0 pc ls (.int x :: .int i :: .ref (a + 1) :: st) h r h' :=
  V_wr (c' := .inl (.boolean, N, .inl (upd f i.toNatClampNeg x))) hcell rfl kk (fun X hl hP hS w => va_zast X.1 X.2.1 X.kn hP (wl_D G h) hS a 1 (wl_at hcell) rfl hi hd (fun H1 locs1 hP1 _ hS1 => w H1 locs1 (by rw [hx] at hP1; exact hP1) hS1))
theorem V_last {a N : Nat} {f : Nat → Int64} {i : Int32} {x : Int64} (hd : decode K.code pc = .ok (.lastore, 1)) (hcell : h[a]? = some (.inl (.long, N, .inr (.inl f)))) (hi : vp_in i N) (kk : V l G K h0 (pc + 1) ls st (h.set a (.inl (.long, N, .inr (.inl (vp_updL f i.toNatClampNeg x))))) r h') : V l G K h0 pc ls (.long x :: .int i :: .ref (a + 1) :: st) h r h' :=
  V_wr (c' := .inl (.long, N, .inr (.inl (vp_updL f i.toNatClampNeg x)))) hcell rfl kk (fun X hl hP hS w => va_last X.1 X.2.1 X.kn hP (wl_D G h) hS a 2 (wl_at hcell) rfl hi hd (fun H1 locs1 hP1 _ hS1 => w H1 locs1 hP1 hS1))
theorem wl_grow {H H1 : Heap} {c : Ce} (hP : va_P G.D cls (wl G h) H) (o1 : ∀ q, q < H.size → H1[q]? = H[q]?) (hn : va_at G.D cls (G.b + h.length, cv G c) H1) : va_P G.D cls (wl G (h ++ [c])) H1 := by
  rw [← wl_push]
  refine (hP.kept (fun k x hx => o1 x.1 ((hP k x hx).lt))).app (fun k x hx => ?_)
  cases k with
  | zero => simp at hx; subst hx; exact hn
  | succ k => simp at hx
/-- a new array of ints, booleans or longs -/
theorem V_newa {at9 : ArrayType} {ty : FieldType} (k0 : Nat) {n : Int32} {N : Nat} {a9 : vp_A} (hd : decode K.code pc = .ok (.newarray at9, 2)) (hty : newarray.typeOf at9 = ty) (hk0 : (tyl G)[k0]? = some (G.dA ty, ty)) (hra : ∀ (U : State) (c : ClassId), va_RA U c ty → U.vm.findClass ("[" ++ ty.toString) = some c) (ha : ∀ cA : ClassId, vp_cell cA a9 = arrV cA N (fun _ => defaultValue ty)) (hlen : a9.1 = N) (hw : Cond.arrayClass ty ∈ tw) (hn : ¬ n < 0) (hN : n.toNatClampNeg = N) (hb : N * componentBytes ty ≤ 536870912) (kk : V l G K h0 (pc + 2) ls (.ref (h.length + 1) :: st) (h ++ [.inl (ty, a9)]) r h') : V l G K h0 pc ls (.int n :: st) h r h' := by
  have e1 : (h ++ [(.inl (ty, a9) : Ce)]).length = h.length + 1 := by simp
  have e2 : sl (h ++ [(.inl (ty, a9) : Ce)]) = sl h + N := by rw [sl_app]; simp [sl, sl1, hlen]
  have k1 := kk.1
  have k2 := kk.2.1
  rw [e1] at k1
  rw [e2] at k2
  refine ⟨by omega, by omega, ?_⟩
  intro p e s m args below meth c H locs lsA X hP a1 a2 a3 a4 hl
  intro T hT X1
  have hz := sz_of (G := G) X1 a1 a2 (by rw [hT]; exact hP)
  rw [hT] at hz
  subst hty
  have hKt := X.kn.2 k0 _ hk0
  have hcs : h.length - h0.length + 1 ≤ (rmK K h0 h').cells := by show _ ≤ h'.length - h0.length; omega
  have hss : sl h - sl h0 + N ≤ (rmK K h0 h').slots := by show _ ≤ sl h' - sl h0; omega
  have hsz := a4.1
  rw [hz] at hsz
  have W1 : W p l e (rmK K h0 h') s m args below meth c H locs (h.length - h0.length) (sl h - sl h0) (Fin' G below s h0 r h') (F0 m pc lsA (.int n :: st.map (sv G))) := by
    refine va_newaK (h := G.b + h.length) X.1 X.2.1 (X.tw _ hw) rfl hd rfl hn hN hb hcs hss hz (fun H1 cA e3 z1 o1 hAr hNm => ?_)
    have ec : cA = G.dA (newarray.typeOf at9) := Option.some.inj (hNm.symm.trans (hra _ _ hKt.2))
    subst ec
    have hat : va_at G.D cls (G.b + h.length, cv G (.inl (newarray.typeOf at9, a9))) H1 := by
      show H1[G.b + h.length]? = some (vp_cell (G.dA (newarray.typeOf at9)) a9)
      rw [ha]
      exact e3
    have w := kk.2.2 (e := e) (below := below) (H := H1) (locs := locs) X (wl_grow hP (fun q hq => o1 q (by rw [hz] at hq; exact hq)) hat) a1 (by omega) (by omega) ⟨by omega, fun x h1 h2 => (o1 x (by omega)).trans (a4.2.1 x h1 h2), a4.2.2⟩ hl
    rw [e1, e2, show h.length + 1 - h0.length = h.length - h0.length + 1 by omega, show sl h + N - sl h0 = sl h - sl h0 + N by omega] at w
    exact w
  exact W1 T hT X1
theorem V_newi {n : Int32} {N : Nat} (hd : decode K.code pc = .ok (.newarray .int, 2)) (hw : Cond.arrayClass .int ∈ tw) (hn : ¬ n < 0) (hN : n.toNatClampNeg = N) (hb : N * 4 ≤ 536870912) (kk : V l G K h0 (pc + 2) ls (.ref (h.length + 1) :: st) (h ++ [.inl (.int, N, .inl (fun _ => 0))]) r h') : V l G K h0 pc ls (.int n :: st) h r h' :=
  V_newa 0 hd rfl rfl (fun _ _ h => h) (fun _ => rfl) rfl hw hn hN hb kk
theorem V_newz {n : Int32} {N : Nat} (hd : decode K.code pc = .ok (.newarray .boolean, 2)) (hw : Cond.arrayClass .boolean ∈ tw) (hn : ¬ n < 0) (hN : n.toNatClampNeg = N) (hb : N * 1 ≤ 536870912) (kk : V l G K h0 (pc + 2) ls (.ref (h.length + 1) :: st) (h ++ [.inl (.boolean, N, .inl (fun _ => 0))]) r h') : V l G K h0 pc ls (.int n :: st) h r h' :=
  V_newa 1 hd rfl rfl (fun _ _ h => h) (fun _ => rfl) rfl hw hn hN hb kk
theorem V_newl {n : Int32} {N : Nat} (hd : decode K.code pc = .ok (.newarray .long, 2)) (hw : Cond.arrayClass .long ∈ tw) (hn : ¬ n < 0) (hN : n.toNatClampNeg = N) (hb : N * 8 ≤ 536870912) (kk : V l G K h0 (pc + 2) ls (.ref (h.length + 1) :: st) (h ++ [.inl (.long, N, .inr (.inl (fun _ => 0)))]) r h') : V l G K h0 pc ls (.int n :: st) h r h' :=
  V_newa 2 hd rfl rfl (fun _ _ h => h) (fun _ => rfl) rfl hw hn hN hb kk
theorem sv_dflt (t : FieldType) : sv G (defaultValue t) = defaultValue t := by cases t <;> rfl
/-- a new object: its fields as they are born -/
theorem V_new {ix ci N : Nat} {C : String} {T : u_T} {fs : List Value} (tyf : Nat → FieldType) (hty : ∀ k, k < N → parseFieldDescriptor (T k).2.2.1 = some (tyf k)) (hd : decode K.code pc = .ok (.new ix, 3)) (hlink : Cond.classLink K.y.cls ix C ∈ tw) (hins : Cond.instantiable C (csz ci) ∈ tw) (hini : Cond.initialized C ∈ tw) (hin : ∀ w ∈ u_ws C T N, w ∈ tw) (hc : cls[ci]? = some (C, T, N)) (hfs : (List.range N).map (fun j => defaultValue (tyf j)) = fs) (kk : V l G K h0 (pc + 3) ls (.ref (h.length + 1) :: st) (h ++ [.inr (ci, fs)]) r h') : V l G K h0 pc ls st h r h' := by
  have e1 : (h ++ [(.inr (ci, fs) : Ce)]).length = h.length + 1 := by simp
  have e2 : sl (h ++ [(.inr (ci, fs) : Ce)]) = sl h + csz ci := by rw [sl_app]; simp [sl, sl1]
  have k1 := kk.1
  have k2 := kk.2.1
  rw [e1] at k1
  rw [e2] at k2
  refine ⟨by omega, by omega, ?_⟩
  intro p e s m args below meth c H locs lsA X hP a1 a2 a3 a4 hl
  intro T9 hT X1
  have hz := sz_of (G := G) X1 a1 a2 (by rw [hT]; exact hP)
  rw [hT] at hz
  have hKn := X.kn.1 ci _ hc
  have hcs : h.length - h0.length + 1 ≤ (rmK K h0 h').cells := by show _ ≤ h'.length - h0.length; omega
  have hss : sl h - sl h0 + csz ci ≤ (rmK K h0 h').slots := by show _ ≤ sl h' - sl h0; omega
  have hsz := a4.1
  rw [hz] at hsz
  have W1 : W p l e (rmK K h0 h') s m args below meth c H locs (h.length - h0.length) (sl h - sl h0) (Fin' G below s h0 r h') (F0 m pc lsA (st.map (sv G))) := by
    refine W.newcK (h := G.b + h.length) X.1 X.2.1 X.own (X.tw _ hlink) (X.tw _ hins) (X.tw _ hini) rfl hd hcs hss hKn.2.1 hz (fun H1 kC hkC e3 z1 o1 => ?_)
    have hob : va_at G.D cls (G.b + h.length, cv G (.inr (ci, fs))) H1 := by
      refine ⟨_, hc, (u_born tyf X.tw hin hKn hkC e3 hty).to (fun j hj => ?_)⟩
      subst hfs
      have hj : j < N := hj
      simp [vp_V, hj, sv_dflt]
    have w := kk.2.2 (e := e) (below := below) (H := H1) (locs := locs) X (wl_grow hP (fun q hq => o1 q (by rw [hz] at hq; exact hq)) hob) a1 (by omega) (by omega) ⟨by omega, fun x h1 h2 => (o1 x (by omega)).trans (a4.2.1 x h1 h2), a4.2.2⟩ hl
    rw [e1, e2, show h.length + 1 - h0.length = h.length - h0.length + 1 by omega, show sl h + csz ci - sl h0 = sl h - sl h0 + csz ci by omega] at w
    exact w
  exact W1 T9 hT X1
/-! returns -/
theorem V_iret {v : Int32} {ty : FieldType} (hd : decode K.code pc = .ok (.ireturn, 1)) (hr : K.ret = some ty) (hn : narrow ty (.int v) = .int v) : V l G K h0 pc ls [.int v] h (.inl (some (.int v))) h :=
  ⟨Nat.le_refl _, Nat.le_refl _, fun X hP a1 a2 a3 a4 hl => W.mono (fun t q => by
    obtain ⟨o, run, en, ⟨rfl, hp⟩, Ls, ⟨_, hW, hs⟩, hf⟩ := q
    exact ⟨run, en, hp, hW, Ls, hs, hf⟩) (W.zret (Qc := fun _ _ o t => o = .returned (some (.int v)) ∧ va_P G.D cls (wl G h) t.heap) (free := Ar G) X.1 X.2.1 (X.2.2.2.1.trans hr) hn (fun t ht _ => ⟨rfl, by rw [ht]; exact hP⟩) a4.2.2 hd X.2.2.2.2.1)⟩
theorem V_lret {v : Int64} (hd : decode K.code pc = .ok (.lreturn, 1)) (hr : K.ret = some .long) : V l G K h0 pc ls [.long v] h (.inl (some (.long v))) h :=
  ⟨Nat.le_refl _, Nat.le_refl _, fun X hP a1 a2 a3 a4 hl => W.mono (fun t q => by
    obtain ⟨o, run, en, ⟨rfl, hp⟩, Ls, ⟨_, hW, hs⟩, hf⟩ := q
    exact ⟨run, en, hp, hW, Ls, hs, hf⟩) (W.lret (Qc := fun _ _ o t => o = .returned (some (.long v)) ∧ va_P G.D cls (wl G h) t.heap) (free := Ar G) X.1 X.2.1 (X.2.2.2.1.trans hr) (fun t ht _ => ⟨rfl, by rw [ht]; exact hP⟩) a4.2.2 hd X.2.2.2.2.1)⟩
theorem V_vret (hd : decode K.code pc = .ok (.return_, 1)) (hr : K.ret = none) : V l G K h0 pc ls [] h (.inl none) h :=
  ⟨Nat.le_refl _, Nat.le_refl _, fun X hP a1 a2 a3 a4 hl => W.mono (fun t q => by
    obtain ⟨o, run, en, ⟨rfl, hp⟩, Ls, ⟨_, hW, hs⟩, hf⟩ := q
    exact ⟨run, en, hp, hW, Ls, hs, hf⟩) (W.vret (Qc := fun _ _ o t => o = .returned none ∧ va_P G.D cls (wl G h) t.heap) (free := Ar G) X.1 X.2.1 (X.2.2.2.1.trans hr) (fun t ht _ => ⟨rfl, by rw [ht]; exact hP⟩) a4.2.2 hd X.2.2.2.2.1)⟩
end R4
