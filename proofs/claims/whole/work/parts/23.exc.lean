/-- a launch without stack traces -/
def NoTr (l : Launch) : Prop := ∀ e : Env, l.admits e → e.platform.stackTraces = false
section P23
variable {l : Launch} {G : Gb} {K : Kt} {pc : Nat} {ls : List (Nat × Value)} {st : List Value} {h : List Ce} {r : Rs} {h' : List Ce}
/-- as V, at a point where the method has written and made nothing yet -/
def V0 (l : Launch) (G : Gb) (K : Kt) (pc : Nat) (ls : List (Nat × Value)) (st : List Value) (h : List Ce) (r : Rs) (h' : List Ce) : Prop :=
  h.length ≤ h'.length ∧ sl h ≤ sl h' ∧ ∀ {p : Program} {e : Env} {s : State} {m : MethodId} {args : Array Value} {below : List Frame} {meth : Method} {c : Code} {lsA : Array Slot},
    Cx G K p s m args meth c → va_P G.D cls (wl G h) s.heap → s.heap.size = G.b + h.length → lv_has lsA K.maxL (mv G ls) →
    W p l e (rmK K h h') s m args below meth c s.heap [] 0 0 (Fin' G below s h r h') (F0 m pc lsA (st.map (sv G)))
theorem Do.of0 {vs : List Value} (hy : plainName K.y.cls = true) (hn : (lg_sl vs).length ≤ K.maxL) (hw : K.w ∈ tw) (kk : V0 l G K 0 (lv_args 0 vs) [] h r h') : Do l G K vs h r h' := by
  refine ⟨kk.1, kk.2.1, MetFree.of_bodyS (code := K.code) (maxLocals := K.maxL) (ret := K.ret) hy ?_ ?_⟩
  · intro args s m hp hnm
    have hk := atoms_spec (ws := K.w :: tw) hp _ List.mem_cons_self
    obtain ⟨y, code, maxL, ret, fr, lo, hd⟩ := K
    cases hd with
    | nil =>
      obtain ⟨meth, c, h1, h2, h3, h4, h5, h6, -, -⟩ := Cond.code_spec hnm hk
      exact ⟨meth, c, h1, h2, h3, h4, h5, h6⟩
    | cons q t =>
      obtain ⟨m', meth, c, hn', h1, h2, h3, h4, -, h5, h6, -⟩ := Cond.codeWith_spec hk
      cases hnm.symm.trans hn'
      exact ⟨meth, c, h1, h2, h3, h4, h5, h6⟩
  · intro p e s m args below meth c s₁ B hml hP _
    obtain ⟨rfl, hP, hz, hX, hb, hK, hE⟩ := hP
    have hh0 : s₁.heap = s.heap := by rw [B.state]; rfl
    have hall := atoms_spec (ws := K.w :: tw) B.pre
    have hcode : meth.code = some c := (Stand.of_body B).code
    have hdl' : hdl c = K.hd := by
      have hk := hall _ List.mem_cons_self
      obtain ⟨y, code, maxL, ret, fr, lo, hd⟩ := K
      cases hd with
      | nil =>
        obtain ⟨meth', c', h1, h2, h3, h4, h5, h6, h7, -⟩ := Cond.code_spec B.named hk
        cases B.method.symm.trans h1
        cases hcode.symm.trans h2
        have : c.exceptionTable.toList = [] := by simpa using h7
        simp [hdl, this]
      | cons q t =>
        obtain ⟨m', meth', c', hn', h1, h2, h3, h4, h5, -, -, -⟩ := Cond.codeWith_spec hk
        cases B.named.symm.trans hn'
        cases B.method.symm.trans h1
        cases hcode.symm.trans h2
        exact h5
    have C : Cx G K p s m (vs.map (sv G)).toArray meth c := ⟨B.exec, B.bytes, hml, B.returns, B.notSynchronized, findClass_of_methodNamed B.named, (name_of_methodNamed B.named B.method).1, hdl', fun w hw => hall w (List.mem_cons_of_mem _ hw), hK, hE, hX, hb, by omega⟩
    have hl := lv_entry (vs.map (sv G)) (n := K.maxL) (by rw [lg_sl_mv]; exact hn)
    rw [lv_args_mv] at hl
    have w := kk.2.2 (e := e) (below := below) C hP hz hl
    obtain ⟨t, a1, b1, b2, b3, b4, b5⟩ := w s₁ hh0 (Stand.of_body B)
    refine ⟨t, oc G r, ?_, b1, b2, rfl, b3, b4, b5⟩
    rw [lg_entry_eq]
    exact a1
theorem V0_go {pc' : Nat} {st' : List Value} (kk : V0 l G K pc' ls st' h r h') (f : ∀ {p : Program} {e : Env} {R : Room} {s : State} {m : MethodId} {args : Array Value} {below : List Frame} {meth : Method} {c : Code} {H : Heap} {locs : List Loc} {cells slots : Nat} {Q : State → Prop} {lsA : Array Slot}, Cx G K p s m args meth c → lv_has lsA K.maxL (mv G ls) → W p l e R s m args below meth c H locs cells slots Q (F0 m pc' lsA (st'.map (sv G))) → W p l e R s m args below meth c H locs cells slots Q (F0 m pc lsA (st.map (sv G)))) : V0 l G K pc ls st h r h' :=
  ⟨kk.1, kk.2.1, fun C hP hz hl => f C hl (kk.2.2 C hP hz hl)⟩
theorem V0_iload_n {k : Fin 4} {x : Int32} (hd : decode K.code pc = .ok (.iload_n k, 1)) (e : lg ls k = some (.int x)) (kk : V0 l G K (pc + 1) ls (.int x :: st) h r h') : V0 l G K pc ls st h r h' := V0_go kk (fun C hl w => lv_iload_n C.1 C.2.1 hd rfl (lg_at hl e) w)
theorem V0_ifne_f {x : Int32} {off : Int} {tgt : Nat} (hd : decode K.code pc = .ok (.ifCond .ne off, 3)) (ht : (pc : Int) + off = (tgt : Int)) (hx : x = 0) (kk : V0 l G K (pc + 3) ls st h r h') : V0 l G K pc ls (.int x :: st) h r h' := V0_go kk (fun C hl w => lv_if_ne C.1 C.2.1 hd ht (fun q => absurd hx q) (fun _ => w))
theorem V0_swOut {dflt lo hi : Int} {offs : Array Int} {len : Nat} {x : Int32} {tgt : Nat} (hd : decode K.code pc = .ok (.tableswitch dflt lo hi offs, len)) (h1 : x.toInt < lo ∨ hi < x.toInt) (ht : (pc : Int) + dflt = (tgt : Int)) (kk : V0 l G K tgt ls st h r h') : V0 l G K pc ls (.int x :: st) h r h' := V0_go kk (fun C hl w => lv_tableOut C.1 C.2.1 hd h1 ht w)
theorem W.ldcS {p : Program} {e : Env} {R : Room} {s : State} {m : MethodId} {args : Array Value} {below : List Frame} {meth : Method} {c : Code} {H : Heap} {locs : List Loc} {cells slots : Nat} {Q : State → Prop} {cc : ByteArray} (hexec : p.tables.exec = Jvm.exec) (hb : c.code = cc) {own tx : String} {index pc : Nat} {ls : Array Slot} {rest : List Value} (hown : s.vm.findClass own = some m.cls) (hw : (Cond.stringRef own index tx).before args s = true) (hdg : decode cc pc = .ok (.ldc index, 2)) (kk : ∀ a : Nat, W p l e R s m args below meth c H locs cells slots Q (F0 m (pc + 2) ls (.ref a :: rest))) : W p l e R s m args below meth c H locs cells slots Q (F0 m pc ls rest) := by
  intro T hT X
  have hT' : (Cond.stringRef own index tx).before args T = true := okW_at (w := .stringRef own index tx) rfl X.warmed hw
  obtain ⟨k, cf, i, a, hk, hcf, hcp, -, hr, hev⟩ := Cond.stringRef_spec (show T.vm.findClass own = some m.cls by rw [X.warmed.alike.findClass]; exact hown) hT'
  obtain ⟨t, a1, b1⟩ := kk a T hT X
  refine ⟨t, ?_, b1⟩
  jvm_step X.here [X.here.top, hexec, hb, hdg, ldc.at_string (e := e) (s := T) (fm := m) (fpc := pc) (fls := ls) (flk := none) (fen := []) (fst := rest) X.here.top hk hcf hcp hr]
  exact a1
theorem V0_thr (hNT : NoTr l) {ixN ixS ic ci : Nat} {tx X9 : String} {names : List String} {T9 : u_T} (d0 : decode K.code pc = .ok (.new ixN, 3)) (d1 : decode K.code (pc + 3) = .ok (.dup, 1)) (d2 : decode K.code (pc + 3 + 1) = .ok (.ldc ixS, 2)) (d3 : decode K.code (pc + 3 + 1 + 2) = .ok (.invokespecial ic, 3)) (d4 : decode K.code (pc + 3 + 1 + 2 + 3) = .ok (.athrow, 1)) (hhd : K.hd = []) (hlink : Cond.classLink K.y.cls ixN X9 ∈ tw) (hins : Cond.instantiable X9 6 ∈ tw) (hini : Cond.initialized X9 ∈ tw) (hstr : Cond.stringRef K.y.cls ixS tx ∈ tw) (hfit : Bundle.fit X9 = true) (hnm : ∀ n ∈ names, Bundle.fit n = true) (hown : ∀ a ∈ Bundle.ownAtoms K.y.cls ic X9 names, a ∈ tw ∨ a ∈ evw) (hc : cls[ci]? = some (X9, T9, 0)) (hcs : csz ci = 6) (hf : names.length + 3 < K.fr) (hlo : 9 + (13 * (names.length + 1) + 42) ≤ K.lo) (hst : (st.map fun v => v.category).sum ≤ 8) : V0 l G K pc ls st h (.inr h.length) (h ++ [.inr (ci, [])]) := by
  have e1 : (h ++ [(.inr (ci, []) : Ce)]).length = h.length + 1 := by simp
  have e2 : sl (h ++ [(.inr (ci, []) : Ce)]) = sl h + 6 := by rw [sl_app]; simp [sl, sl1, hcs]
  refine ⟨by omega, by omega, ?_⟩
  intro p e s m args below meth c lsA X0 hP hz hl
  have hKn := X0.kn.1 ci _ hc
  have hc1 : 0 + 1 ≤ (rmK K h (h ++ [(.inr (ci, []) : Ce)])).cells := by show _ ≤ (h ++ [_]).length - h.length; omega
  have hc2 : 0 + 6 ≤ (rmK K h (h ++ [(.inr (ci, []) : Ce)])).slots := by show _ ≤ sl (h ++ [_]) - sl h; omega
  refine W.newcK (h := G.b + h.length) X0.1 X0.2.1 X0.own (X0.tw _ hlink) (X0.tw _ hins) (X0.tw _ hini) rfl d0 hc1 hc2 hKn.2.1 hz (fun H1 kC hkC e3 z1 o1 => ?_)
  refine lv_dup (va := .ref (G.b + h.length)) X0.1 X0.2.1 d1 rfl ?_
  refine W.ldcS X0.1 X0.2.1 X0.own (X0.tw _ hstr) d2 (fun a9 => ?_)
  intro T hT X
  have htab : c.exceptionTable.toList = [] := by
    have := X0.2.2.2.2.2.2.2.1
    rw [hhd] at this
    simpa [hdl] using this
  obtain ⟨U, u1, u2, u3, u4, u5, ce, u6, u7⟩ := X.ctorThrowS X0.1 (hNT e X.admits) (own := K.y.cls) (cls := X9) (names := names) (ic := ic) X0.own hfit hnm (fun a ha => (hown a ha).elim (fun q => X0.tw a q) (fun q => X0.ev.use q)) (fun x hx => by cases hx) (a := G.b + h.length) hKn.2.1 hkC (by rw [hT]; exact e3) (by rw [hz]; exact Nat.le_refl _) (msg := .ref a9) rfl (g := F0 m (pc + 3 + 1 + 2) lsA (.ref a9 :: .ref (G.b + h.length) :: .ref (G.b + h.length) :: st.map (sv G))) rfl (hl.1.trans X0.2.2.1.symm) rfl rfl (rest := st.map (sv G)) rfl (by rw [X0.2.1]; exact d3) (by rw [X0.2.1]; exact d4) (by rw [htab]; intro x hx; cases hx) hf (by show 2 * 0 + _ + _ ≤ K.lo; rw [List.map_cons, List.sum_cons, cat_map]; show 2 * 0 + (1 + _) + _ ≤ K.lo; omega) X0.2.2.2.2.1
  refine ⟨U, u1, u2, u3, ?_, u4, [], ?_, fun q hq => by cases hq⟩
  · intro k q hq
    obtain ⟨c9, hc9, rfl⟩ := wl_of hq
    by_cases hk : k < h.length
    · rw [List.getElem?_append_left hk] at hc9
      have ha := hP k _ (wl_at hc9)
      obtain ⟨ce9, hce9⟩ : ∃ ce9, s.heap[G.b + k]? = some ce9 := ⟨_, Array.getElem?_eq_getElem ha.lt⟩
      refine ha.kept ?_
      show U.heap[G.b + k]? = s.heap[G.b + k]?
      rw [hce9]
      exact u5.kept_off (fun i hi => by cases hi) hce9
    · have hk2 : k = h.length := by
        have := (List.getElem?_eq_some_iff.mp hc9).1
        omega
      subst hk2
      rw [List.getElem?_append_right (Nat.le_refl _), Nat.sub_self] at hc9
      cases hc9
      exact ⟨_, hc, ce, u6, Option.some.inj (u7.cls.symm.trans hKn.2.1), u7.vm, fun j hj => absurd hj (Nat.not_lt_zero j)⟩
  · rw [e1, e2, show h.length + 1 - h.length = 0 + 1 by omega, show sl h + 6 - sl h = 0 + 6 by omega]
    exact u5
end P23
