section R5
variable {l : Launch} {G : Gb} {K : Kt} {h0 : List Ce} {pc : Nat} {ls : List (Nat × Value)} {st : List Value} {h : List Ce} {r : Rs} {h' : List Ce}
theorem twAt {p : Program} {e : Env} {R : Room} {s : State} {m : MethodId} {args : Array Value} {below : List Frame} {meth : Method} {c : Code} {T : State} {locs : List Loc} {cells slots : Nat} (X0 : Cx G K p s m args meth c) (X : Stand p l e R s m args below meth c T locs cells slots) (w : Cond) (hw : w ∈ tw) (a : Array Value) : w.before a T = true := okW_at (tw_good w hw) X.warmed (X0.tw w hw)
/-- the callee's code stands in the tables -/
theorem Kt.stands {j : Kt} {T : State} {mk : MethodId} (hn : T.methodNamed? j.y = some mk) {a : Array Value} (hk : j.w.before a T = true) : ∃ methY cY, T.vm.method? mk = some methY ∧ methY.code = some cY ∧ cY.maxLocals = j.maxL ∧ parseMethodDescriptor j.y.desc = some methY.sig := by
  obtain ⟨y, code, maxL, ret, fr, lo, hd⟩ := j
  cases hd with
  | nil =>
    obtain ⟨meth, c, h1, h2, h3, h4, h5, h6, h7, h8⟩ := Cond.code_spec hn hk
    exact ⟨meth, c, h1, h2, h4, h8⟩
  | cons q t =>
    obtain ⟨m', meth, c, hn', h1, h2, h3, h4, h5, h6, h7, h8⟩ := Cond.codeWith_spec hk
    cases hn.symm.trans hn'
    exact ⟨meth, c, h1, h2, h4, h8⟩
theorem Kt.named {j : Kt} {T : State} {a : Array Value} (hk : j.w.before a T = true) : ∃ mk, T.methodNamed? j.y = some mk := by
  obtain ⟨y, code, maxL, ret, fr, lo, hd⟩ := j
  cases hd with
  | nil => exact Cond.code_named hk
  | cons q t =>
    obtain ⟨m', meth, c, hn', -⟩ := Cond.codeWith_spec hk
    exact ⟨m', hn'⟩
theorem callDo {j : Kt} {As : List Value} {o : Rs} {h1 : List Ce} (hD : Do l G j As h o h1) (hw : j.w ∈ tw) (hi : Cond.initialized j.y.cls ∈ tw) {p : Program} {e : Env} {R : Room} {s : State} {m : MethodId} {args : Array Value} {below : List Frame} {meth : Method} {c : Code} {T : State} {locs : List Loc} {cells slots : Nat} (X0 : Cx G K p s m args meth c) (X : Stand p l e R s m args below meth c T locs cells slots) (hP : va_P G.D cls (wl G h) T.heap) (hz : T.heap.size = G.b + h.length) (hS : va_S (Ar G) s.heap T.heap locs) {g : JFrame} (hg : g.method = m) (hsize : g.locals.size = c.maxLocals) {ig : Instr} (hdg : decode c.code g.pc = .ok (ig, 3)) {mk : MethodId} (hn : s.methodNamed? j.y = some mk) (hfr : j.fr + 1 ≤ R.frames) (hlo : 2 * g.monitorRoom + (g.stack.map fun v => v.category).sum + (j.maxL + 11) + j.lo ≤ R.locals) (hc : cells + (h1.length - h.length) ≤ R.cells) (hs : slots + (sl h1 - sl h) ≤ R.slots) :
    ∃ s₂ Ls, Steps p.tables e below (doInvoke e (T.setTop g) [] mk (As.map (sv G)).toArray).1 s₂ ∧ Ended s₂ (.java g :: below) (oc G o) ∧ va_P G.D cls (wl G h1) s₂.heap ∧ (T.calling g mk (As.map (sv G)).toArray).WarmedH s₂.vm ∧ (T.calling g mk (As.map (sv G)).toArray).sameButNew ({ s₂ with vm := (T.calling g mk (As.map (sv G)).toArray).vm } : State) Ls (h1.length - h.length) (sl h1 - sl h) ∧ ∀ q ∈ Ls, G.b ≤ q.base := by
  have hTn : T.methodNamed? j.y = some mk := X.named hn
  have hat := twAt X0 X
  obtain ⟨methY, cY, hmY, hcY, hlY, -⟩ := Kt.stands hTn (hat _ hw #[])
  obtain ⟨kY, hkY, -⟩ := className_of_methodNamed hTn
  have hinitY : kY.init = .initialized := Cond.initialized_spec (findClass_of_methodNamed hTn) hkY (hat _ hi #[])
  have hAt : At T g.method c below := by rw [hg]; exact X.here
  have happ : (headSpec (j.w :: tw) (rmK j h h1)).appliesLoose j.y e.platform (T.calling g mk (As.map (sv G)).toArray) = true :=
    Spec.appliesLoose_calling (g := g) hAt hdg hTn hkY hinitY (X.room_calling (g := g) (R' := rmK j h h1) hsize hmY hcY hfr (by rw [hlY]; exact hlo) hc hs) (atoms_intro fun w hw' => by
      rcases List.mem_cons.mp hw' with e | e
      · rw [e]; exact hat _ hw _
      · exact hat _ e _)
  have hfr' : (T.setTop g).frames = [.java g] ++ below := by rw [State.frames_setTop' g hAt.top, X.tail]; rfl
  have hX : va_X G.scr G.L G.xs (T.calling g mk (As.map (sv G)).toArray) (T.calling g mk (As.map (sv G)).toArray).heap := va_X.moved (u := s) X.warmed.alike (X0.scr.1.kept (hS.2.1 _ (Nat.lt_of_lt_of_le X0.scr.2.1 X0.scr.2.2) (Nat.not_le.mpr X0.scr.2.1)))
  obtain ⟨o', s₂, hsteps, -, hend, ho, hP2, hW2, Ls, hsame, hL⟩ := Steps.callFree hD.2.2 p X.admits X.cas X.clock (acts := []) (mid := [.java g]) (below := below) hfr' happ ⟨rfl, hP, hz, hX, X0.scr.2.1, va_K.moved X.warmed.alike X0.kn, Ev.moved (u := s) (U := T.calling g mk (As.map (sv G)).toArray) X.warmed (X0.ev.kept (fun a h1 h2 => hS.2.1 a h1 h2))⟩ trivial
  subst ho
  rw [hfr'] at hend
  exact ⟨s₂, Ls, hsteps, hend, hP2, hW2, hsame, hL⟩
/-- behind a call nothing below the run's own cells has changed -/
theorem va_S.call {s T U : State} {locs Ls : List Loc} {k n : Nat} (hS : va_S (Ar G) s.heap T.heap locs) (hm : T.sameButNew U Ls k n) (hL : ∀ q ∈ Ls, G.b ≤ q.base) : va_S (Ar G) s.heap U.heap (locs ++ Ls) := by
  refine ⟨Nat.le_trans hS.1 hm.2.1, fun q h1 h2 => ?_, fun q hq => ?_⟩
  · have h3 := hS.2.1 q h1 h2
    obtain ⟨c, hc⟩ : ∃ c, s.heap[q]? = some c := ⟨_, Array.getElem?_eq_getElem h1⟩
    rw [hc] at h3
    rw [hc, hm.kept_off (fun i hi => h2 (hL _ hi)) h3]
  · rcases List.mem_append.mp hq with a | a
    · exact hS.2.2 q a
    · exact hL q a
/-- the invoking instruction links: what it asks of the tables is there -/
def Link (l : Launch) (G : Gb) (K j : Kt) (pc : Nat) (h : List Ce) (As rest st : List Value) : Prop :=
  ∀ {p : Program} {e : Env} {R : Room} {s : State} {m : MethodId} {args : Array Value} {below : List Frame} {meth : Method} {c : Code} {T : State} {locs : List Loc} {cells slots : Nat} {lsA : Array Slot}, Cx G K p s m args meth c → Stand p l e R s m args below meth c T locs cells slots → va_P G.D cls (wl G h) T.heap → lsA.size = K.maxL →
    ∃ mk vm', s.methodNamed? j.y = some mk ∧ Stand p l e R s m args below meth c (T.setVm vm') locs cells slots ∧
      ∀ target, (∀ acts, Steps p.tables e below (doInvoke e ((T.setVm vm').setTop (F0 m pc lsA (rest.map (sv G)))) acts mk (As.map (sv G)).toArray).1 target) → Steps p.tables e below (T.setTop (F0 m pc lsA (st.map (sv G)))) target
/-- what a caller K and a callee j owe each other: words, frames -/
def Fit (K j : Kt) : Prop := j.w ∈ tw ∧ Cond.initialized j.y.cls ∈ tw ∧ j.fr + 1 ≤ K.fr ∧ 8 + (j.maxL + 11) + j.lo ≤ K.lo
theorem cat_map (G : Gb) (rest : List Value) : ((rest.map (sv G)).map fun v => v.category) = rest.map fun v => v.category := by
  rw [List.map_map]
  exact List.map_congr_left fun v _ => sv_cat G v
theorem V_call {j : Kt} {As rest : List Value} {h1 : List Ce} {v : Option Value} {ig : Instr} (hd : decode K.code pc = .ok (ig, 3)) (ft : Fit K j) (lk : Link l G K j pc h As rest st) (hrest : (rest.map fun v => v.category).sum ≤ 8) (hD : Do l G j As h (.inl v) h1) (kk : V l G K h0 (pc + 3) ls (v.toList ++ rest) h1 r h') : V l G K h0 pc ls st h r h' := by
  have d1 := hD.1
  have d2 := hD.2.1
  have k1 := kk.1
  have k2 := kk.2.1
  refine ⟨Nat.le_trans d1 k1, Nat.le_trans d2 k2, ?_⟩
  intro p e s m args below meth c H locs lsA X0 hP a1 a2 a3 a4 hl T hT X
  subst hT
  have hz := sz_of (G := G) X a1 a2 hP
  obtain ⟨mk, vm', hn, X1, hstep⟩ := lk X0 X hP hl.1
  have hdg : decode c.code pc = .ok (ig, 3) := by rw [X0.2.1]; exact hd
  obtain ⟨s₂, Ls, hst, hend, hP2, hW2, hsame, hL⟩ := callDo hD ft.1 ft.2.1 X0 X1 hP hz a4 (g := F0 m pc lsA (rest.map (sv G))) rfl (hl.1.trans X0.2.2.1.symm) hdg hn ft.2.2.1
    (by show 2 * 0 + _ + _ + _ ≤ K.lo; have := ft.2.2.2; rw [cat_map]; omega) (by show _ ≤ h'.length - h0.length; omega) (by show _ ≤ sl h' - sl h0; omega)
  obtain ⟨T', X', hW', hsm, ht⟩ := X1.outOf (g := F0 m pc lsA (rest.map (sv G))) rfl hdg hend hW2 hsame
  have e1 : s₂.heap = T'.heap := by rw [ht]; exact State.heap_setTop _ _
  have hS' : va_S (Ar G) s.heap T'.heap (locs ++ Ls) := va_S.call (T := T.setVm vm') (U := T'.setVm (T.setVm vm').vm) a4 hsm hL
  have w := kk.2.2 (e := e) (below := below) (H := T'.heap) (locs := locs ++ Ls) X0 (by rw [← e1]; exact hP2) a1 (by omega) (by omega) hS' hl
  rw [show h.length - h0.length + (h1.length - h.length) = h1.length - h0.length by omega, show sl h - sl h0 + (sl h1 - sl h) = sl h1 - sl h0 by omega] at X'
  obtain ⟨t, b1, b2⟩ := w T' rfl X'
  refine ⟨t, hstep _ (fun acts => ?_), b2⟩
  rw [doInvoke_state]
  refine hst.trans ?_
  rw [ht]
  cases v <;> exact b1
/-- the callee throws, and nobody catches here -/
theorem V_callThr {j : Kt} {As rest : List Value} {h1 : List Ce} {a : Nat} {ig : Instr} (hd : decode K.code pc = .ok (ig, 3)) (ft : Fit K j) (lk : Link l G K j pc h As rest st) (hrest : (rest.map fun v => v.category).sum ≤ 8) (hout : K.hd.all (fun x => !(decide (x.1 ≤ pc) && decide (pc < x.2.1))) = true) (hD : Do l G j As h (.inr a) h1) : V l G K h0 pc ls st h (.inr a) h1 := by
  have d1 := hD.1
  have d2 := hD.2.1
  refine ⟨d1, d2, ?_⟩
  intro p e s m args below meth c H locs lsA X0 hP a1 a2 a3 a4 hl T hT X
  subst hT
  have hz := sz_of (G := G) X a1 a2 hP
  obtain ⟨mk, vm', hn, X1, hstep⟩ := lk X0 X hP hl.1
  have hdg : decode c.code pc = .ok (ig, 3) := by rw [X0.2.1]; exact hd
  obtain ⟨s₂, Ls, hst, hend, hP2, hW2, hsame, hL⟩ := callDo hD ft.1 ft.2.1 X0 X1 hP hz a4 (g := F0 m pc lsA (rest.map (sv G))) rfl (hl.1.trans X0.2.2.1.symm) hdg hn ft.2.2.1
    (by show 2 * 0 + _ + _ + _ ≤ K.lo; have := ft.2.2.2; rw [cat_map]; omega) (by show _ ≤ h1.length - h0.length; omega) (by show _ ≤ sl h1 - sl h0; omega)
  obtain ⟨T', X', hW', hsm, ht⟩ := X1.outOfThrown (g := F0 m pc lsA (rest.map (sv G))) rfl hend hW2 hsame
  have e1 : s₂.heap = T'.heap := by rw [ht]; exact Stand.throwing_heap _ _ _
  have hS' : va_S (Ar G) s.heap T'.heap (locs ++ Ls) := va_S.call (T := T.setVm vm') (U := T'.setVm (T.setVm vm').vm) a4 hsm hL
  rw [show h.length - h0.length + (h1.length - h.length) = h1.length - h0.length by omega, show sl h - sl h0 + (sl h1 - sl h) = sl h1 - sl h0 by omega] at X'
  obtain ⟨q1, q2, q3, q4, q5⟩ := X'.leaveThrown (G.b + a) (g := F0 m pc lsA (rest.map (sv G))) rfl rfl rfl (fun x hx => by
    have hm : (x.startPc, x.endPc, x.handlerPc, x.catchType) ∈ K.hd := by rw [← X0.2.2.2.2.2.2.2.1]; exact List.mem_map.mpr ⟨x, hx, rfl⟩
    have hz9 := List.all_eq_true.mp hout _ hm
    simp at hz9
    simp
    intro hz8
    omega) X0.2.2.2.2.1
  refine ⟨_, hstep _ (fun acts => ?_), q2, q3, ?_, q4, locs ++ Ls, q5, hS'.2.2⟩
  · rw [doInvoke_state]
    refine hst.trans ?_
    rw [ht]
    exact q1
  · show va_P _ _ _ T'.heap
    rw [← e1]
    exact hP2
/-! the links -/
theorem lkS {j : Kt} {ix : Nat} {As rest : List Value} (hd : decode K.code pc = .ok (.invokestatic ix, 3)) (hw : j.w ∈ tw) (hi : Cond.initialized j.y.cls ∈ tw) (hl : Cond.methodLink K.y.cls ix j.y ∈ tw) (hs : Cond.static j.y ∈ tw) (hy : j.y.cls ≠ "java/lang/invoke/MethodHandle" ∧ j.y.cls ≠ "java/lang/invoke/VarHandle") (hn : ∀ sig, parseMethodDescriptor j.y.desc = some sig → As.length = sig.parameters.length) (hst : st = As.reverse ++ rest) : Link l G K j pc h As rest st := by
  intro p e R s m args below meth c T locs cells slots lsA X0 X hP hz
  obtain ⟨mk, hnm⟩ := Kt.named (X0.tw _ hw)
  obtain ⟨methM, cM, hmM, -, -, hsig⟩ := Kt.stands hnm (X0.tw _ hw)
  obtain ⟨kP, hkP, -⟩ := className_of_methodNamed hnm
  have hinit : kP.init = .initialized := Cond.initialized_spec (findClass_of_methodNamed hnm) hkP (X0.tw _ hi)
  obtain ⟨vm₁, X₁, h₁⟩ := X.invokestatic X0.1 X0.own (X0.tw _ hl) hnm hmM (Cond.static_spec hnm hmM (X0.tw _ hs)) hkP hinit hy (g := F0 m pc lsA (st.map (sv G))) rfl (argsL := As.map (sv G)) (rest := rest.map (sv G)) (by rw [List.length_map]; exact hn _ hsig) (by rw [hst]; simp) (by rw [X0.2.1]; exact hd)
  exact ⟨mk, vm₁, hnm, X₁, h₁⟩
theorem lkSN {j : Kt} {ix : Nat} {host : String} {As rest : List Value} (hd : decode K.code pc = .ok (.invokestatic ix, 3)) (hw : j.w ∈ tw) (hi : Cond.initialized j.y.cls ∈ tw) (hl : Cond.methodLinkNest K.y.cls ix j.y host ∈ tw) (hs : Cond.static j.y ∈ tw) (hy : j.y.cls ≠ "java/lang/invoke/MethodHandle" ∧ j.y.cls ≠ "java/lang/invoke/VarHandle") (hn : ∀ sig, parseMethodDescriptor j.y.desc = some sig → As.length = sig.parameters.length) (hst : st = As.reverse ++ rest) : Link l G K j pc h As rest st := by
  intro p e R s m args below meth c T locs cells slots lsA X0 X hP hz
  obtain ⟨mk, hnm⟩ := Kt.named (X0.tw _ hw)
  obtain ⟨methM, cM, hmM, -, -, hsig⟩ := Kt.stands hnm (X0.tw _ hw)
  obtain ⟨kP, hkP, -⟩ := className_of_methodNamed hnm
  have hinit : kP.init = .initialized := Cond.initialized_spec (findClass_of_methodNamed hnm) hkP (X0.tw _ hi)
  obtain ⟨vm₁, X₁, h₁⟩ := X.invokestaticNest X0.1 X0.own (X0.tw _ hl) hnm hmM (Cond.static_spec hnm hmM (X0.tw _ hs)) hkP hinit hy (g := F0 m pc lsA (st.map (sv G))) rfl (argsL := As.map (sv G)) (rest := rest.map (sv G)) (by rw [List.length_map]; exact hn _ hsig) (by rw [hst]; simp) (by rw [X0.2.1]; exact hd)
  exact ⟨mk, vm₁, hnm, X₁, h₁⟩
/-- the receiver's cell: an object of the class C -/
theorem recvOf {p : Program} {s : State} {m : MethodId} {args : Array Value} {meth : Method} {c : Code} {H : Heap} (X0 : Cx G K p s m args meth c) (hP : va_P G.D cls (wl G h) H) {a ci : Nat} {fs : List Value} {q : vw_C} (hcell : h[a]? = some (.inr (ci, fs))) (hc : cls[ci]? = some q) : ∃ cell, H[G.b + a]? = some cell ∧ (∀ k, cell.vm ≠ .statics k) ∧ s.vm.findClass q.1 = some cell.cls := by
  obtain ⟨r, h1, cell, q1, q2, q3, q4⟩ := hP a _ (wl_at hcell)
  have hr : r = q := Option.some.inj (h1.symm.trans hc)
  subst hr
  refine ⟨cell, q1, fun k z => ?_, ?_⟩
  · rw [q3] at z; cases z
  · rw [q2]; exact (X0.kn.1 ci _ hc).2.1
theorem lkV {j : Kt} {ix a ci : Nat} {fs : List Value} {q : vw_C} {As rest : List Value} (hd : decode K.code pc = .ok (.invokevirtual ix, 3)) (hw : j.w ∈ tw) (hl : Cond.methodLink K.y.cls ix j.y ∈ tw) (hs : Cond.instanceMethod j.y ∈ tw) (hse : Cond.selects q.1 j.y j.y ∈ tw) (hy : j.y.cls ≠ "java/lang/invoke/MethodHandle" ∧ j.y.cls ≠ "java/lang/invoke/VarHandle") (hcell : h[a]? = some (.inr (ci, fs))) (hc : cls[ci]? = some q) (hn : ∀ sig, parseMethodDescriptor j.y.desc = some sig → As.length = sig.parameters.length) (hst : st = As.reverse ++ .ref (a + 1) :: rest) : Link l G K j pc h (.ref (a + 1) :: As) rest st := by
  intro p e R s m args below meth c T locs cells slots lsA X0 X hP hz
  obtain ⟨mk, methM, hnamed, hmethM, hstM, habM⟩ := Cond.instanceMethod_spec (X0.tw _ hs)
  obtain ⟨methM', cM, hmM', -, -, hsig⟩ := Kt.stands hnamed (X0.tw _ hw)
  cases hmethM.symm.trans hmM'
  obtain ⟨cell, c1, c2, c3⟩ := recvOf X0 hP hcell hc
  obtain ⟨k2, r2, m2, q1, q2, q3, q4, kP, hkP, hkPi⟩ := Cond.selects_spec (X0.tw _ hse)
  cases c3.symm.trans q1
  cases (State.methodFound?_of_named hnamed hy).symm.trans q2
  cases hnamed.symm.trans q3
  have hselP : selectMethod e.platform s.vm cell.cls mk = .method mk := by rw [Launch.admits_selectMethod X.admits]; exact q4
  obtain ⟨vm₁, X₁, h₁⟩ := X.invokevirtual X0.1 X0.own (X0.tw _ hl) hnamed hmethM hstM hkP hkPi hy (a := G.b + a) (cell := cell) c1 c2 hselP hmethM habM hkP hkPi (g := F0 m pc lsA (st.map (sv G))) rfl (argsL := As.map (sv G)) (rest := rest.map (sv G)) (by rw [List.length_map]; exact hn _ hsig) (by rw [hst]; simp [sv]) (by rw [X0.2.1]; exact hd)
  exact ⟨mk, vm₁, hnamed, X₁, h₁⟩
theorem lkI {j : Kt} {ix a : Nat} {As rest : List Value} (hd : decode K.code pc = .ok (.invokespecial ix, 3)) (hini : j.y.name = "<init>") (hret : j.ret = none) (hhd : j.hd = []) (hw : j.w ∈ tw) (hl : Cond.methodLink K.y.cls ix j.y ∈ tw) (hs : Cond.instanceMethod j.y ∈ tw) (hy : j.y.cls ≠ "java/lang/invoke/MethodHandle" ∧ j.y.cls ≠ "java/lang/invoke/VarHandle") (hn : ∀ sig, parseMethodDescriptor j.y.desc = some sig → As.length = sig.parameters.length) (hst : st = As.reverse ++ .ref (a + 1) :: rest) : Link l G K j pc h (.ref (a + 1) :: As) rest st := by
  intro p e R s m args below meth c T locs cells slots lsA X0 X hP hz
  have hpl : e.platform.magicAccessors = ({} : Platform).magicAccessors := by rw [X.admits.platform]
  have hcode : (Cond.code j.y j.code j.maxL none).before args s = true := by
    have := X0.tw _ hw
    obtain ⟨y, code, maxL, ret, fr, lo, hd⟩ := j
    cases hhd
    cases hret
    exact this
  obtain ⟨mk, methM, cM, kP, vm₁, hnamed, hmethM, hcodeM, -, hlocalsM, -, hkP, -, hW₁, hstep₁⟩ := Steps.initColdArgs (e := e) X.here X0.1 X.warmed hpl X0.own hini hy (X0.tw _ hl) (X0.tw _ hs) hcode (f := F0 m pc lsA (st.map (sv G))) rfl (a := G.b + a) (argsL := As.map (sv G)) (rest := rest.map (sv G)) (fun sig hsig => by rw [List.length_map]; exact hn _ hsig) (by rw [hst]; simp [sv]) (by rw [X0.2.1]; exact hd)
  exact ⟨mk, vm₁, hnamed, X.noted hW₁, hstep₁⟩
theorem V_objInit {ix a : Nat} (hd : decode K.code pc = .ok (.invokespecial ix, 3)) (hl : Cond.methodLink K.y.cls ix Lib.objectInit ∈ tw) (hs : Cond.instanceMethod Lib.objectInit ∈ tw) (hw : Cond.code Lib.objectInit ⟨#[0xb1]⟩ 1 none ∈ tw) (hf : 1 ≤ K.fr) (hlo : (st.map fun v => v.category).sum + 12 ≤ K.lo) (kk : V l G K h0 (pc + 3) ls st h r h') : V l G K h0 pc ls (.ref (a + 1) :: st) h r h' :=
  ⟨kk.1, kk.2.1, fun X0 hP a1 a2 a3 a4 hz => W.objInit X0.1 X0.2.1 X0.own (X0.tw _ hl) (X0.tw _ hs) (X0.tw _ hw) rfl (hz.1.trans X0.2.2.1.symm) rfl hd hf (by show 2 * 0 + _ + 12 ≤ K.lo; rw [cat_map]; omega) (kk.2.2 X0 hP a1 a2 a3 a4 hz)⟩
theorem V_mmax {ix : Nat} {x y : Int32} (hd : decode K.code pc = .ok (.invokestatic ix, 3)) (hl : Cond.methodLink K.y.cls ix Lib.Math.max.name ∈ tw) (hs : Cond.static Lib.Math.max.name ∈ tw) (hi : Cond.initialized "java/lang/Math" ∈ tw) (hw : Cond.code Lib.Math.max.name Lib.Math.max.code 2 (some .int) ∈ tw) (hf : 1 ≤ K.fr) (hlo : (st.map fun v => v.category).sum + 13 ≤ K.lo) (kk : V l G K h0 (pc + 3) ls (.int (if x < y then y else x) :: st) h r h') : V l G K h0 pc ls (.int y :: .int x :: st) h r h' := by
  have k1 := kk.1
  have k2 := kk.2.1
  exact ⟨k1, k2, fun X0 hP a1 a2 a3 a4 hz => va_mmax X0.1 X0.2.1 (X0.2.2.1.trans hz.1.symm) X0.own (X0.tw _ hl) (X0.tw _ hs) (X0.tw _ hi) (X0.tw _ hw) hf (by show _ + 13 ≤ K.lo; rw [cat_map]; omega) (by show _ ≤ h'.length - h0.length; omega) (by show _ ≤ sl h' - sl h0; omega) hd (kk.2.2 X0 hP a1 a2 a3 a4 hz)⟩
theorem V_mmin {ix : Nat} {x y : Int32} (hd : decode K.code pc = .ok (.invokestatic ix, 3)) (hl : Cond.methodLink K.y.cls ix Lib.Math.min.name ∈ tw) (hs : Cond.static Lib.Math.min.name ∈ tw) (hi : Cond.initialized "java/lang/Math" ∈ tw) (hw : Cond.code Lib.Math.min.name Lib.Math.min.code 2 (some .int) ∈ tw) (hf : 1 ≤ K.fr) (hlo : (st.map fun v => v.category).sum + 13 ≤ K.lo) (kk : V l G K h0 (pc + 3) ls (.int (if y < x then y else x) :: st) h r h') : V l G K h0 pc ls (.int y :: .int x :: st) h r h' := by
  have k1 := kk.1
  have k2 := kk.2.1
  exact ⟨k1, k2, fun X0 hP a1 a2 a3 a4 hz => va_mmin X0.1 X0.2.1 (X0.2.2.1.trans hz.1.symm) X0.own (X0.tw _ hl) (X0.tw _ hs) (X0.tw _ hi) (X0.tw _ hw) hf (by show _ + 13 ≤ K.lo; rw [cat_map]; omega) (by show _ ≤ h'.length - h0.length; omega) (by show _ ≤ sl h' - sl h0; omega) hd (kk.2.2 X0 hP a1 a2 a3 a4 hz)⟩
theorem V_mabs {ix : Nat} {x : Int32} (hd : decode K.code pc = .ok (.invokestatic ix, 3)) (hl : Cond.methodLink K.y.cls ix Lib.Math.abs.name ∈ tw) (hs : Cond.static Lib.Math.abs.name ∈ tw) (hi : Cond.initialized "java/lang/Math" ∈ tw) (hw : Cond.code Lib.Math.abs.name Lib.Math.abs.code 1 (some .int) ∈ tw) (hf : 1 ≤ K.fr) (hlo : (st.map fun v => v.category).sum + 13 ≤ K.lo) (kk : V l G K h0 (pc + 3) ls (.int (if 0 ≤ x then x else 0 - x) :: st) h r h') : V l G K h0 pc ls (.int x :: st) h r h' := by
  have k1 := kk.1
  have k2 := kk.2.1
  exact ⟨k1, k2, fun X0 hP a1 a2 a3 a4 hz => va_mabs X0.1 X0.2.1 (X0.2.2.1.trans hz.1.symm) X0.own (X0.tw _ hl) (X0.tw _ hs) (X0.tw _ hi) (X0.tw _ hw) hf (by show _ + 13 ≤ K.lo; rw [cat_map]; omega) (by show _ ≤ h'.length - h0.length; omega) (by show _ ≤ sl h' - sl h0; omega) hd (kk.2.2 X0 hP a1 a2 a3 a4 hz)⟩
theorem V_copyi {ix a b n0 n1 : Nat} {f g : Nat → Int32} {sp dp n : Int32} (hd : decode K.code pc = .ok (.invokestatic ix, 3)) (hl : Cond.methodLink K.y.cls ix arraycopyName ∈ tw) (hna : Cond.native arraycopyName ∈ tw) (hs : Cond.static arraycopyName ∈ tw) (hi : Cond.initialized "java/lang/System" ∈ tw) (ha : h[a]? = some (.inl (.int, n0, .inl f))) (hb : h[b]? = some (.inl (.int, n1, .inl g))) (h1 : ¬ sp < 0) (h2 : ¬ dp < 0) (h3 : ¬ n < 0) (h4 : sp.toNatClampNeg + n.toNatClampNeg ≤ n0) (h5 : dp.toNatClampNeg + n.toNatClampNeg ≤ n1) (hf : 1 ≤ K.fr) (hlo : (st.map fun v => v.category).sum + (nativeFrameWords "java/lang/System" "arraycopy" 5 + 11) ≤ K.lo) (kk : V l G K h0 (pc + 3) ls st (h.set b (.inl (.int, n1, .inl (va_cpy f g sp.toNatClampNeg dp.toNatClampNeg n.toNatClampNeg)))) r h') : V l G K h0 pc ls (.int n :: .int dp :: .ref (b + 1) :: .int sp :: .ref (a + 1) :: st) h r h' := by
  have es : sl (h.set b (.inl (.int, n1, .inl (va_cpy f g sp.toNatClampNeg dp.toNatClampNeg n.toNatClampNeg)))) = sl h := sl_set h b _ _ hb rfl
  refine ⟨by have := kk.1; rwa [List.length_set] at this, by have := kk.2.1; rwa [es] at this, ?_⟩
  intro p e s m args below meth c H locs lsA X hP a1 a2 a3 a4 hz
  refine va_copyi X.1 X.2.1 (X.2.2.1.trans hz.1.symm) X.own (X.tw _ hl) (X.tw _ hna) (X.tw _ hs) (X.tw _ hi) X.kn hP (wl_D G h) a4 a b 0 0 (wl_at ha) (wl_at hb) (ty := .int) rfl rfl rfl h1 h2 h3 h4 h5 (fun _ _ => rfl) hf (by show _ ≤ K.lo; rw [cat_map]; omega) hd (fun H1 locs1 hP1 _ hS1 => ?_)
  have w := kk.2.2 (e := e) (below := below) (H := H1) (locs := locs1) X (by rw [← wl_set]; exact hP1) a1 (by rw [List.length_set]; exact a2) (by rw [es]; exact a3) hS1 hz
  rw [List.length_set, es] at w
  exact w
end R5
