section P24
section A24
variable {e : Env} {s : State} {f : JFrame} {a : Addr}
/-- an entry of the table whose class is linked now, or was before: the search goes on from the tables in which it is noted -/
theorem goCold {Q : Handler → Jvm.Pre} {E : Jvm.CtlPost} {d : Bool} {acts : List Action} {x : ExceptionTableEntry} {t : List ExceptionTableEntry} {c : ClassId} {vm' : Vm} {cell : Cell} (hx : covers x f.pc = true) (h0 : x.catchType ≠ 0) (hg : (Jvm.resolveClass f.method.cls x.catchType).Gives e.toSetting s.vm (.ok c) vm') (hsz : vm'.classes.size ≤ s.vm.classes.size) (hcell : s.heap[a]? = some cell) (hobj : ∀ k, cell.vm ≠ .statics k)
    (hk : ∃ k, vm'.classes[cell.cls]? = some k) (hc : ∃ k, vm'.classes[c]? = some k) :
    wp (findHandler.go f a (x :: t)) Q E e d acts s ↔ if vm'.assignable cell.cls c = true then Q (.found x.handlerPc) d acts (s.setVm vm') else wp (findHandler.go f a t) Q E e d acts (s.setVm vm') := by
  simp only [covers] at hx
  obtain ⟨ha, ht⟩ := hg.op (op := VmOp.resolveClass f.method.cls x.catchType) rfl
  cases hfit : vm'.assignable cell.cls c <;>
    simp [findHandler.go, hx, h0, ha, ht, hsz, hcell, hobj, hk, hc, hfit, VmOp.dirties, VmOp.acts]
def FindsTo (e : Env) (s : State) (f : JFrame) (a : Addr) (h : Handler) (s' : State) : Prop :=
  ∀ (Q : Handler → Jvm.Pre) (E : Jvm.CtlPost) (d : Bool) (acts : List Action), wp (findHandler f a) Q E e d acts s ↔ Q h d acts s'
theorem catchTo {r : List Frame} {pc : Nat} {s' : State} (hfind : FindsTo e s f a (.found pc) s') : (stepThrowing e s a (.java f :: r)).Is (s'.setFrames (.java { f with pc := pc, stack := [.ref a] } :: r)) [] := by
  simp only [stepThrowing, searchFrame, vmDo]
  generalize hr : Sem.go _ e false [] s = res
  obtain ⟨as, rfl, ha⟩ := Sem.eq_ok_of hr (a := Handler.found pc) (s' := s') (acts' := []) (by simp [hfind _ _ _ _])
  exact ⟨rfl, ha⟩
theorem caughtTo {tb : Tables} {target : State} {g : JFrame} {c : Code} {below : List Frame} {vm' : Vm} (h : At s g.method c below) {pc : Nat} (hfind : FindsTo e ((s.setTop g).pushFrame (.throwing a)) g a (.found pc) ((((s.setTop g).pushFrame (.throwing a))).setVm vm'))
    (hrest : Steps tb e below ((s.setVm vm').setTop { g with pc := pc, stack := [.ref a] }) target) : Steps tb e below ((s.setTop g).pushFrame (.throwing a)) target := by
  obtain ⟨hgo, hw⟩ := h.throwing a
  refine Steps.head hgo hw ?_
  rw [stepThread_throwing (frames_entered h.top _), (catchTo (s := (s.setTop g).pushFrame (.throwing a)) hfind).1]
  obtain ⟨g₀, hg⟩ := Option.isSome_iff_exists.mp h.top
  obtain ⟨r, hr⟩ := State.topJava?_eq_some.mp hg
  have e9 : ((((s.setTop g).pushFrame (.throwing a))).setVm vm') = (((s.setVm vm').setTop g).pushFrame (.throwing a)) := rfl
  have hr' : (s.setVm vm').frames = .java g₀ :: r := hr
  rw [e9, State.pushFrame, State.setFrames_setFrames, State.setTop_of_frames _ hr', State.setFrames_setFrames]
  rw [State.setTop_of_frames _ hr'] at hrest
  rw [hr]
  exact hrest
end A24
variable {l : Launch} {G : Gb} {K : Kt} {h0 : List Ce} {pc : Nat} {ls : List (Nat × Value)} {st : List Value} {h : List Ce} {r : Rs} {h' : List Ce}
/-- the search through the table: entries of other classes, then the one -/
theorem goAll {p : Program} {s : State} {m : MethodId} {args : Array Value} {meth : Method} {c : Code} {e : Env} {own X9 : String} {f : JFrame} {ad : Nat} {cell : Cell} {x : ExceptionTableEntry} {post : List ExceptionTableEntry} (hpl : e.platform.magicAccessors = ({} : Platform).magicAccessors) (hown : s.vm.findClass own = some f.method.cls) (hX : s.vm.findClass X9 = some cell.cls) (hobj : ∀ k, cell.vm ≠ .statics k) (hx : covers x f.pc = true) (hx0 : x.catchType ≠ 0) (hxl : (Cond.classLink own x.catchType X9).before args s = true) (hxc : s.vm.assignable cell.cls cell.cls = true) :
    ∀ (pre : List ExceptionTableEntry) (U : State), (∀ y ∈ pre, covers y f.pc = true ∧ y.catchType ≠ 0 ∧ ∃ Y, (Cond.classLink own y.catchType Y).before args s = true ∧ va_Nc X9 Y s) → s.WarmedH U.vm → U.heap[ad]? = some cell →
      ∃ vm', s.WarmedH vm' ∧ ∀ (Q : Handler → Jvm.Pre) (E : Jvm.CtlPost) (d : Bool) (acts : List Action), wp (findHandler.go f ad (pre ++ x :: post)) Q E e d acts U ↔ Q (.found x.handlerPc) d acts (U.setVm vm') := by
  have link : ∀ (U : State) (y : ExceptionTableEntry) (Y : String), (Cond.classLink own y.catchType Y).before args s = true → s.WarmedH U.vm → ∃ cY vm', s.vm.findClass Y = some cY ∧ (Jvm.resolveClass f.method.cls y.catchType).Gives e.toSetting U.vm (.ok cY) vm' ∧ vm'.classes.size ≤ U.vm.classes.size ∧ s.WarmedH vm' := by
    intro U y Y hl hW
    obtain ⟨cY, hcY, hlk⟩ := Cond.classLink_spec hown hl e.platform hpl
    obtain ⟨dk, _, _, _, hd, _, _, _, _, _, _, hres⟩ := hlk.here
    refine ⟨cY, U.vm.noted f.method.cls y.catchType (.cls cY), hcY, resolveClass_links e.toSetting (hW.classLinks hlk), by no_record, hW.noted hd hres (State.rightAt_cls hlk)⟩
  have known : ∀ (vm' : Vm) (n : String) (cn : ClassId), s.WarmedH vm' → s.vm.findClass n = some cn → ∃ k, vm'.classes[cn]? = some k := by
    intro vm' n cn hW hn
    exact Vm.classAt_of_findClass (name := n) (by rw [hW.alike.findClass]; exact hn)
  intro pre
  induction pre with
  | nil =>
    intro U _ hW hcell
    obtain ⟨cY, vm', h1, h2, h3, h4⟩ := link U x X9 hxl hW
    cases hX.symm.trans h1
    refine ⟨vm', h4, fun Q E d acts => ?_⟩
    rw [List.nil_append, goCold hx hx0 h2 h3 hcell hobj (known vm' X9 _ h4 hX) (known vm' X9 _ h4 hX), if_pos (by rw [h4.alike.assignable]; exact hxc)]
  | cons y t ih =>
    intro U hpre hW hcell
    obtain ⟨hy1, hy2, Y, hy3, hy4⟩ := hpre y List.mem_cons_self
    obtain ⟨cY, vm1, h1, h2, h3, h4⟩ := link U y Y hy3 hW
    obtain ⟨cX, cY', k1, k2, k3⟩ := hy4
    cases hX.symm.trans k1
    cases h1.symm.trans k2
    obtain ⟨vm', g1, g2⟩ := ih (U.setVm vm1) (fun z hz => hpre z (List.mem_cons_of_mem _ hz)) h4 hcell
    refine ⟨vm', g1, fun Q E d acts => ?_⟩
    rw [List.cons_append, goCold hy1 hy2 h2 h3 hcell hobj (known vm1 X9 _ h4 hX) (known vm1 Y _ h4 h1), if_neg (by rw [h4.alike.assignable, k3]; decide), g2]
    rfl
/-- the callee throws, and this method catches: the entries ahead are of other classes -/
theorem V_catch {j : Kt} {As rest : List Value} {h1 : List Ce} {a ci hpc ct p1 p2 : Nat} {X9 : String} {T9 : u_T} {pre post : List (Nat × Nat × Nat × Nat)} {ig : Instr} (hd : decode K.code pc = .ok (ig, 3)) (ft : Fit K j) (lk9 : Link l G K j pc h As rest st) (hrest : (rest.map fun v => v.category).sum ≤ 8) (hD : Do l G j As h (.inr a) h1) (hcell : h1[a]? = some (.inr (ci, []))) (hc : cls[ci]? = some (X9, T9, 0)) (hhd : K.hd = pre ++ (p1, p2, hpc, ct) :: post) (hcov : p1 ≤ pc ∧ pc < p2 ∧ ct ≠ 0) (hlink : Cond.classLink K.y.cls ct X9 ∈ tw) (hself : Cond.castable X9 X9 ∈ tw) (hpre : ∀ y ∈ pre, y.1 ≤ pc ∧ pc < y.2.1 ∧ y.2.2.2 ≠ 0 ∧ ∃ Y, Cond.classLink K.y.cls y.2.2.2 Y ∈ tw ∧ ∀ (U : State) (H : Heap), Ev G U H → va_Nc X9 Y U) (kk : V l G K h0 hpc ls [.ref (a + 1)] h1 r h') : V l G K h0 pc ls st h r h' := by
  have d1 := hD.1
  have d2 := hD.2.1
  have k1 := kk.1
  have k2 := kk.2.1
  refine ⟨Nat.le_trans d1 k1, Nat.le_trans d2 k2, ?_⟩
  intro p e s m args below meth c H locs lsA X0 hP a1 a2 a3 a4 hl T hT X
  subst hT
  have hz := sz_of (G := G) X a1 a2 hP
  obtain ⟨mk, vm', hn, X1, hstep⟩ := lk9 X0 X hP hl.1
  have hdg : decode c.code pc = .ok (ig, 3) := by rw [X0.2.1]; exact hd
  obtain ⟨s₂, Ls, hst, hend, hP2, hW2, hsame, hL⟩ := callDo hD ft.1 ft.2.1 X0 X1 hP hz a4 (g := F0 m pc lsA (rest.map (sv G))) rfl (hl.1.trans X0.2.2.1.symm) hdg hn ft.2.2.1
    (by show 2 * 0 + _ + _ + _ ≤ K.lo; have := ft.2.2.2; rw [cat_map]; omega) (by show _ ≤ h'.length - h0.length; omega) (by show _ ≤ sl h' - sl h0; omega)
  obtain ⟨T', X', hW', hsm, ht⟩ := X1.outOfThrown (g := F0 m pc lsA (rest.map (sv G))) rfl hend hW2 hsame
  have e1 : s₂.heap = T'.heap := by rw [ht]; exact Stand.throwing_heap _ _ _
  have hS' : va_S (Ar G) s.heap T'.heap (locs ++ Ls) := va_S.call (T := T.setVm vm') (U := T'.setVm (T.setVm vm').vm) a4 hsm hL
  rw [show h.length - h0.length + (h1.length - h.length) = h1.length - h0.length by omega, show sl h - sl h0 + (sl h1 - sl h) = sl h1 - sl h0 by omega] at X'
  have hP3 : va_P G.D cls (wl G h1) T'.heap := by rw [← e1]; exact hP2
  obtain ⟨cell, q1, q2, q3⟩ := recvOf X0 hP3 hcell hc
  have htab : ∃ (pr : List ExceptionTableEntry) (x : ExceptionTableEntry) (po : List ExceptionTableEntry), c.exceptionTable.toList = pr ++ x :: po ∧ pr.map (fun h => (h.startPc, h.endPc, h.handlerPc, h.catchType)) = pre ∧ (x.startPc, x.endPc, x.handlerPc, x.catchType) = (p1, p2, hpc, ct) := by
    have h9 : hdl c = pre ++ (p1, p2, hpc, ct) :: post := X0.2.2.2.2.2.2.2.1.trans hhd
    obtain ⟨pr, z1, w1, w2, w3⟩ := List.map_eq_append_iff.mp h9
    obtain ⟨x, po, w4, w5, w6⟩ := List.map_eq_cons_iff.mp w3
    exact ⟨pr, x, po, by rw [w1, w4], w2, w5⟩
  obtain ⟨pr, x, po, t1, t2, t3⟩ := htab
  simp only [Prod.mk.injEq] at t3
  obtain ⟨t3, t4, t5, t6⟩ := t3
  obtain ⟨_, _, f1, f2, f3⟩ := Cond.castable_spec (X0.tw _ hself)
  cases q3.symm.trans f1
  cases q3.symm.trans f2
  obtain ⟨vm2, g1, g2⟩ := goAll (p := p) (m := m) (meth := meth) (c := c) (e := e) (own := K.y.cls) (X9 := X9) (f := F0 m pc lsA (rest.map (sv G))) (ad := G.b + a) (cell := cell) (x := x) (post := po) (args := args) (by rw [X.admits.platform]) X0.own q3 q2 (by simp [covers, t3, t4, hcov.1, hcov.2.1]) (by rw [t6]; exact hcov.2.2) (by rw [t6]; exact X0.tw _ hlink) f3 pr (((T'.setTop (F0 m pc lsA (rest.map (sv G)))).pushFrame (.throwing (G.b + a)))) (fun y hy => by
      have hm : (y.startPc, y.endPc, y.handlerPc, y.catchType) ∈ pre := by rw [← t2]; exact List.mem_map.mpr ⟨y, hy, rfl⟩
      obtain ⟨b1, b2, b3, Y, b4, b5⟩ := hpre _ hm
      exact ⟨by simp [covers]; exact ⟨b1, b2⟩, b3, Y, X0.tw _ b4, b5 s _ X0.ev⟩) (by rw [Stand.throwing_vm]; exact X'.warmed) (by rw [Stand.throwing_heap]; exact q1)
  have hfind : FindsTo e ((T'.setTop (F0 m pc lsA (rest.map (sv G)))).pushFrame (.throwing (G.b + a))) (F0 m pc lsA (rest.map (sv G))) (G.b + a) (.found hpc) (((T'.setTop (F0 m pc lsA (rest.map (sv G)))).pushFrame (.throwing (G.b + a))).setVm vm2) := by
    intro Q E d acts
    rw [W.findHandler_eq (meth := meth) (code := c) (by rw [Stand.throwing_vm]; exact X'.method') X'.code, t1, g2, t5]
  have X2 := X'.noted g1
  have w := kk.2.2 (e := e) (below := below) (H := T'.heap) (locs := locs ++ Ls) X0 hP3 a1 (by omega) (by omega) hS' hl
  obtain ⟨t, b1, b2⟩ := w (T'.setVm vm2) rfl X2
  refine ⟨t, hstep _ (fun acts => ?_), b2⟩
  rw [doInvoke_state]
  refine hst.trans ?_
  rw [ht]
  exact caughtTo X'.here hfind b1
end P24
