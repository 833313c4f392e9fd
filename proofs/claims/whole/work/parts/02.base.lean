/-! A RUN'S PICTURE. The cells that the run has made are a list h (its k-th cell lies at the address b + k); a virtual reference .ref (k + 1) means the k-th of them, .ref 0 the law's script. -/
abbrev Gb : Type := Nat × Nat × Nat × (Nat → Int32) × va_G × (FieldType → ClassId)
abbrev Gb.b (G : Gb) : Nat := G.1
abbrev Gb.scr (G : Gb) : Nat := G.2.1
abbrev Gb.L (G : Gb) : Nat := G.2.2.1
abbrev Gb.xs (G : Gb) : Nat → Int32 := G.2.2.2.1
abbrev Gb.D (G : Gb) : va_G := G.2.2.2.2.1
abbrev Gb.dA (G : Gb) : FieldType → ClassId := G.2.2.2.2.2
/-- a virtual value as a real one -/
def sv (G : Gb) : Value → Value
  | .ref 0 => .ref G.scr
  | .ref (k + 1) => .ref (G.b + k)
  | v => v
theorem sv_cat (G : Gb) (v : Value) : (sv G v).category = v.category := by
  cases v with
  | ref a => cases a <;> rfl
  | _ => rfl
/-- a cell: an array (component type, length, contents), or an object (its class's number, its fields) -/
abbrev Ce : Type := (FieldType × vp_A) ⊕ (Nat × List Value)
def cv (G : Gb) : Ce → va_E
  | .inl q => .inl (G.dA q.1, q.2)
  | .inr q => .inr (q.1, q.2.map (sv G))
def sl1 : Ce → Nat
  | .inl q => q.2.1
  | .inr q => csz q.1
def sl : List Ce → Nat
  | [] => 0
  | c :: t => sl1 c + sl t
theorem sl_app : ∀ (a b : List Ce), sl (a ++ b) = sl a + sl b
  | [], b => by simp [sl]
  | c :: t, b => by simp [sl, sl_app t b]; omega
theorem sl_set : ∀ (h : List Ce) (k : Nat) (c c' : Ce), h[k]? = some c → sl1 c' = sl1 c → sl (h.set k c') = sl h
  | [], k, c, c', hk, _ => by simp at hk
  | a :: t, 0, c, c', hk, e => by simp at hk; subst hk; simp [sl, e]
  | a :: t, k + 1, c, c', hk, e => by simp at hk; simp [sl, sl_set t k c c' hk e]
/-- the list as a world of the kit -/
def wl (G : Gb) (h : List Ce) : va_W := h.mapIdx (fun k c => (G.b + k, cv G c))
theorem wl_at {G : Gb} {h : List Ce} {k : Nat} {c : Ce} (hk : h[k]? = some c) : (wl G h)[k]? = some (G.b + k, cv G c) := by
  simp [wl, hk]
theorem wl_of {G : Gb} {h : List Ce} {k : Nat} {q : Nat × va_E} (hq : (wl G h)[k]? = some q) : ∃ c, h[k]? = some c ∧ q = (G.b + k, cv G c) := by
  simp only [wl, List.getElem?_mapIdx, Option.map_eq_some_iff] at hq
  obtain ⟨c, h1, h2⟩ := hq
  exact ⟨c, h1, h2.symm⟩
theorem wl_set (G : Gb) (h : List Ce) (k : Nat) (c : Ce) : (wl G h).set k (G.b + k, cv G c) = wl G (h.set k c) := by
  apply List.ext_getElem?
  intro i
  simp only [wl, List.getElem?_mapIdx, List.getElem?_set, List.length_mapIdx]
  by_cases e : k = i
  · subst e
    by_cases hl : k < h.length
    · simp [hl]
    · simp [hl]
  · simp [e]
theorem wl_push (G : Gb) (h : List Ce) (c : Ce) : wl G h ++ [(G.b + h.length, cv G c)] = wl G (h ++ [c]) := by
  simp [wl, List.mapIdx_append]
/-- what the run may write -/
abbrev Ar (G : Gb) : Nat → Prop := fun q => G.b ≤ q
theorem wl_D (G : Gb) (h : List Ce) : va_D (Ar G) (wl G h) := by
  refine ⟨fun i j p q hp hq e => ?_, fun k q hq => ?_⟩
  · obtain ⟨c, -, rfl⟩ := wl_of hp
    obtain ⟨d, -, rfl⟩ := wl_of hq
    have : G.b + i = G.b + j := e
    omega
  · obtain ⟨c, -, rfl⟩ := wl_of hq
    exact Nat.le_add_right _ _
/-- a method: its name, code, how many locals, its answer's type, the frames and words that its calls need, its handlers -/
abbrev Kt : Type := MethodName × ByteArray × Nat × Option FieldType × Nat × Nat × List (Nat × Nat × Nat × Nat)
abbrev Kt.y (K : Kt) : MethodName := K.1
abbrev Kt.code (K : Kt) : ByteArray := K.2.1
abbrev Kt.maxL (K : Kt) : Nat := K.2.2.1
abbrev Kt.ret (K : Kt) : Option FieldType := K.2.2.2.1
abbrev Kt.fr (K : Kt) : Nat := K.2.2.2.2.1
abbrev Kt.lo (K : Kt) : Nat := K.2.2.2.2.2.1
abbrev Kt.hd (K : Kt) : List (Nat × Nat × Nat × Nat) := K.2.2.2.2.2.2
def Kt.w (K : Kt) : Cond := match K.hd with
  | [] => .code K.y K.code K.maxL K.ret
  | hs => .codeWith K.y K.code K.maxL K.ret hs
abbrev tyl (G : Gb) : List (ClassId × FieldType) := [(G.dA .int, .int), (G.dA .boolean, .boolean), (G.dA .long, .long)]
def hdl (c : Code) : List (Nat × Nat × Nat × Nat) := c.exceptionTable.toList.map (fun h => (h.startPc, h.endPc, h.handlerPc, h.catchType))
/-- the words on the JDK's two statics that a new Throwable reads: they look at one cell, which the run doesn't write -/
def evw : List Cond := [.laysStatic "java/lang/Throwable" "UNASSIGNED_STACK" "[Ljava/lang/StackTraceElement;", .laysStatic "java/lang/Throwable" "SUPPRESSED_SENTINEL" "Ljava/util/List;", .isRef (.static "java/lang/Throwable" "UNASSIGNED_STACK" "[Ljava/lang/StackTraceElement;"), .isRef (.static "java/lang/Throwable" "SUPPRESSED_SENTINEL" "Ljava/util/List;")]
def EvS (G : Gb) (U : State) (H : Heap) : Prop := ∃ (aS : Nat) (cell : Cell), aS < G.b ∧ H[aS]? = some cell ∧ ∀ (S : State) (A : Array Value), U.WarmedH S.vm → S.heap[aS]? = some cell → ∀ w ∈ evw, w.before A S = true
/-- .. and that the exceptions' classes are apart -/
def Ev (G : Gb) (U : State) (H : Heap) : Prop := EvS G U H ∧ va_Nc "java/lang/IllegalArgumentException" "java/lang/IndexOutOfBoundsException" U ∧ va_Nc "java/lang/IllegalStateException" "java/lang/IndexOutOfBoundsException" U ∧ va_Nc "java/lang/IllegalStateException" "java/lang/IllegalArgumentException" U
theorem Ev.moved {G : Gb} {u U : State} {H : Heap} (hvm : u.WarmedH U.vm) (h : Ev G u H) : Ev G U H := by
  obtain ⟨⟨aS, cell, h1, h2, h3⟩, n1, n2, n3⟩ := h
  exact ⟨⟨aS, cell, h1, h2, fun S A hW => h3 S A (State.WarmedH.trans hvm hW)⟩, n1.moved hvm.alike, n2.moved hvm.alike, n3.moved hvm.alike⟩
theorem Ev.kept {G : Gb} {U : State} {H H1 : Heap} (h : Ev G U H) (hq : ∀ a : Nat, a < H.size → ¬ Ar G a → H1[a]? = H[a]?) : Ev G U H1 := by
  obtain ⟨⟨aS, cell, h1, h2, h3⟩, n⟩ := h
  exact ⟨⟨aS, cell, h1, by rw [hq aS (Array.getElem?_eq_some_iff.mp h2).1 (Nat.not_le.mpr h1)]; exact h2, h3⟩, n⟩
theorem Ev.use {G : Gb} {U : State} (h : Ev G U U.heap) {A : Array Value} {w : Cond} (hw : w ∈ evw) : w.before A U = true := by
  obtain ⟨⟨aS, cell, h1, h2, h3⟩, n⟩ := h
  exact h3 U A (State.WarmedH.refl U) h2 w hw
/-- what holds in a method all the while -/
def Cx (G : Gb) (K : Kt) (p : Program) (s : State) (m : MethodId) (args : Array Value) (meth : Method) (c : Code) : Prop :=
  p.tables.exec = Jvm.exec ∧ c.code = K.code ∧ c.maxLocals = K.maxL ∧ meth.sig.returnType = K.ret ∧ meth.locks = false ∧ s.vm.findClass K.y.cls = some m.cls ∧ meth.name = K.y.name ∧ hdl c = K.hd ∧ (∀ w ∈ tw, w.before args s = true) ∧ va_K G.D cls (tyl G) s ∧ Ev G s s.heap ∧ va_X G.scr G.L G.xs s s.heap ∧ G.scr < G.b ∧ G.b ≤ s.heap.size
/-- how a call ends: with an answer, or with the cell that it threw -/
abbrev Rs : Type := Option Value ⊕ Nat
def oc (G : Gb) : Rs → Outcome
  | .inl v => .returned (v.map (sv G))
  | .inr a => .threw (G.b + a)
def Fin' (G : Gb) (below : List Frame) (s : State) (h0 : List Ce) (r : Rs) (h' : List Ce) : State → Prop := fun t =>
  t.status = .running ∧ Ended t below (oc G r) ∧ va_P G.D cls (wl G h') t.heap ∧ s.WarmedH t.vm ∧ ∃ Ls, s.sameButNew ({ t with vm := s.vm } : State) Ls (h'.length - h0.length) (sl h' - sl h0) ∧ ∀ q ∈ Ls, G.b ≤ q.base
def rmK (K : Kt) (h0 h' : List Ce) : Room := { frames := K.fr, cells := h'.length - h0.length, slots := sl h' - sl h0, locals := K.lo }
abbrev mv (G : Gb) (ls : List (Nat × Value)) : List (Nat × Value) := ls.map (fun q => (q.1, sv G q.2))
/-- FROM HERE the method K, begun with the cells h0, ends with r and the cells h' -/
def V (l : Launch) (G : Gb) (K : Kt) (h0 : List Ce) (pc : Nat) (ls : List (Nat × Value)) (st : List Value) (h : List Ce) (r : Rs) (h' : List Ce) : Prop :=
  h.length ≤ h'.length ∧ sl h ≤ sl h' ∧ ∀ {p : Program} {e : Env} {s : State} {m : MethodId} {args : Array Value} {below : List Frame} {meth : Method} {c : Code} {H : Heap} {locs : List Loc} {lsA : Array Slot},
    Cx G K p s m args meth c → va_P G.D cls (wl G h) H → s.heap.size = G.b + h0.length → h0.length ≤ h.length → sl h0 ≤ sl h → va_S (Ar G) s.heap H locs → lv_has lsA K.maxL (mv G ls) →
    W p l e (rmK K h0 h') s m args below meth c H locs (h.length - h0.length) (sl h - sl h0) (Fin' G below s h0 r h') (F0 m pc lsA (st.map (sv G)))
/-- THE METHOD K, called with vs where the cells are h, ends with r and the cells h' -/
def Do (l : Launch) (G : Gb) (K : Kt) (vs : List Value) (h : List Ce) (r : Rs) (h' : List Ce) : Prop :=
  h.length ≤ h'.length ∧ sl h ≤ sl h' ∧ MetFree l K.y (headSpec (K.w :: tw) (rmK K h h'))
    (fun a U => a = (vs.map (sv G)).toArray ∧ va_P G.D cls (wl G h) U.heap ∧ U.heap.size = G.b + h.length ∧ va_X G.scr G.L G.xs U U.heap ∧ G.scr < G.b ∧ va_K G.D cls (tyl G) U ∧ Ev G U U.heap) (fun _ _ _ _ _ => True)
    (fun _ st o t => o = oc G r ∧ va_P G.D cls (wl G h') t.heap ∧ st.WarmedH t.vm ∧ ∃ Ls, st.sameButNew ({ t with vm := st.vm } : State) Ls (h'.length - h.length) (sl h' - sl h) ∧ ∀ q ∈ Ls, G.b ≤ q.base)
theorem W.mono {p : Program} {l : Launch} {e : Env} {R : Room} {s : State} {m : MethodId} {args : Array Value} {below : List Frame} {meth : Method} {c : Code} {H : Heap} {locs : List Loc} {cells slots : Nat} {Q Q' : State → Prop} {g : JFrame} (h : ∀ t, Q t → Q' t) (w : W p l e R s m args below meth c H locs cells slots Q g) : W p l e R s m args below meth c H locs cells slots Q' g := fun T hT X => by
  obtain ⟨t, a, b⟩ := w T hT X
  exact ⟨t, a, h t b⟩
theorem lv_args_mv (G : Gb) : ∀ (vs : List Value) (i : Nat), lv_args i (vs.map (sv G)) = mv G (lv_args i vs)
  | [], _ => rfl
  | v :: vs, i => by
    show (i, sv G v) :: lv_args (if (sv G v).category = 2 then i + 2 else i + 1) (vs.map (sv G)) = (i, sv G v) :: mv G (lv_args (if v.category = 2 then i + 2 else i + 1) vs)
    rw [sv_cat, lv_args_mv G vs]
theorem lg_sl_mv (G : Gb) : ∀ vs : List Value, (lg_sl (vs.map (sv G))).length = (lg_sl vs).length
  | [] => rfl
  | v :: vs => by
    have e := lg_sl_mv G vs
    simp only [lg_sl, List.map_cons, List.flatMap_cons, List.length_append, sv_cat] at e ⊢
    rw [e]
    by_cases h : v.category = 2 <;> simp [h]
/-- a method's contract out of its walk -/
theorem Do.of {l : Launch} {G : Gb} {K : Kt} {vs : List Value} {h : List Ce} {r : Rs} {h' : List Ce} (hy : plainName K.y.cls = true) (hn : (lg_sl vs).length ≤ K.maxL) (hw : K.w ∈ tw) (kk : V l G K h 0 (lv_args 0 vs) [] h r h') : Do l G K vs h r h' := by
  refine ⟨kk.1, kk.2.1, MetFree.of_bodyS (code := K.code) (maxLocals := K.maxL) (ret := K.ret) hy ?_ ?_⟩
  · intro args s m hp hnm
    have hk := atoms_spec (ws := K.w :: tw) hp _ List.mem_cons_self
    obtain ⟨y, code, maxL, ret, fr, lo, hd⟩ := K
    cases hd with
    | nil =>
      obtain ⟨meth, c, h1, h2, h3, h4, h5, h6, -, -⟩ := Cond.code_spec hnm hk
      exact ⟨meth, c, h1, h2, h3, h4, h5, h6⟩
    | cons q t =>
      obtain ⟨m', meth, c, hn', h1, h2, h3, h4, -, h5, h6, -⟩ := Cond.codeWith_spec hk
      cases hnm.symm.trans hn'
      exact ⟨meth, c, h1, h2, h3, h4, h5, h6⟩
  · intro p e s m args below meth c s₁ B hml hP _
    obtain ⟨rfl, hP, hz, hX, hb, hK, hE⟩ := hP
    have hh0 : s₁.heap = s.heap := by rw [B.state]; rfl
    have hall := atoms_spec (ws := K.w :: tw) B.pre
    have hcode : meth.code = some c := (Stand.of_body B).code
    have hdl' : hdl c = K.hd := by
      have hk := hall _ List.mem_cons_self
      obtain ⟨y, code, maxL, ret, fr, lo, hd⟩ := K
      cases hd with
      | nil =>
        obtain ⟨meth', c', h1, h2, h3, h4, h5, h6, h7, -⟩ := Cond.code_spec B.named hk
        cases B.method.symm.trans h1
        cases hcode.symm.trans h2
        have : c.exceptionTable.toList = [] := by simpa using h7
        simp [hdl, this]
      | cons q t =>
        obtain ⟨m', meth', c', hn', h1, h2, h3, h4, h5, -, -, -⟩ := Cond.codeWith_spec hk
        cases B.named.symm.trans hn'
        cases B.method.symm.trans h1
        cases hcode.symm.trans h2
        exact h5
    have C : Cx G K p s m (vs.map (sv G)).toArray meth c := ⟨B.exec, B.bytes, hml, B.returns, B.notSynchronized, findClass_of_methodNamed B.named, (name_of_methodNamed B.named B.method).1, hdl', fun w hw => hall w (List.mem_cons_of_mem _ hw), hK, hE, hX, hb, by omega⟩
    have hl := lv_entry (vs.map (sv G)) (n := K.maxL) (by rw [lg_sl_mv]; exact hn)
    rw [lv_args_mv] at hl
    have w := kk.2.2 (e := e) (below := below) (locs := []) C hP hz (Nat.le_refl _) (Nat.le_refl _) va_S.rf hl
    rw [Nat.sub_self, Nat.sub_self] at w
    obtain ⟨t, a1, b1, b2, b3, b4, b5⟩ := w s₁ hh0 (Stand.of_body B)
    refine ⟨t, oc G r, ?_, b1, b2, rfl, b3, b4, b5⟩
    rw [lg_entry_eq]
    exact a1
