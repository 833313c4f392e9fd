/-! SITES: what an instruction asks of the tables, once for all -/
section R6
variable {l : Launch} {G : Gb} {K : Kt} {h0 : List Ce} {pc : Nat} {ls : List (Nat × Value)} {st : List Value} {h : List Ce} {r : Rs} {h' : List Ce}
def SiteG (K : Kt) (pc ci j : Nat) : Prop := ∃ (ix N : Nat) (C ref : String) (T : u_T), decode K.code pc = .ok (.getfield ix, 3) ∧ Cond.fieldLink K.y.cls ix ref (T j).2.1 (T j).2.2.1 ∈ tw ∧ (∀ w ∈ u_ws C T N, w ∈ tw) ∧ (T j).1 = ref ∧ cls[ci]? = some (C, T, N) ∧ j < N
theorem V_gf {a ci j : Nat} {fs : List Value} {v : Value} (s : SiteG K pc ci j) (hcell : h[a]? = some (.inr (ci, fs))) (hv : fs[j]? = some v) (kk : V l G K h0 (pc + 3) ls (v :: st) h r h') : V l G K h0 pc ls (.ref (a + 1) :: st) h r h' := by
  obtain ⟨ix, N, C, ref, T, s1, s2, s3, s4, s5, s6⟩ := s
  exact V_get s1 s2 s3 s4 hcell s5 s6 hv kk
def SiteP (K : Kt) (pc ci j : Nat) (ty : FieldType) : Prop := ∃ (ix N : Nat) (C ref : String) (T : u_T) (tyf : Nat → FieldType), (∀ k, k < N → parseFieldDescriptor (T k).2.2.1 = some (tyf k)) ∧ (∀ a, a < N → ∀ b, b < N → a ≠ b → (T a).2.1 ≠ (T b).2.1) ∧ decode K.code pc = .ok (.putfield ix, 3) ∧ Cond.fieldLink K.y.cls ix ref (T j).2.1 (T j).2.2.1 ∈ tw ∧ (∀ w ∈ u_ws C T N, w ∈ tw) ∧ (T j).1 = ref ∧ ((T j).2.2.2 = false ∨ ((T j).2.2.2 = true ∧ K.y.name = "<init>" ∧ (T j).1 = K.y.cls)) ∧ cls[ci]? = some (C, T, N) ∧ j < N ∧ tyf j = ty
theorem V_pf {a ci j : Nat} {fs : List Value} {v : Value} {ty : FieldType} (s : SiteP K pc ci j ty) (hcell : h[a]? = some (.inr (ci, fs))) (hl' : j < fs.length) (hn : narrow ty (sv G v) = sv G v) (hf : fits ty (sv G v) = true) (kk : V l G K h0 (pc + 3) ls st (h.set a (.inr (ci, fs.set j v))) r h') : V l G K h0 pc ls (v :: .ref (a + 1) :: st) h r h' := by
  obtain ⟨ix, N, C, ref, T, tyf, s1, s2, s3, s4, s5, s6, s7, s8, s9, s10⟩ := s
  subst s10
  rcases s7 with q | ⟨q1, q2, q3⟩
  · exact V_put tyf s1 s2 s3 s4 s5 s6 q hcell s8 s9 hn hf hl' kk
  · exact V_putF tyf s1 s2 s3 s4 s5 s6 q1 q2 q3 hcell s8 s9 hn hf hl' kk
def SiteN (K : Kt) (pc ci : Nat) (fs : List Value) : Prop := ∃ (ix N : Nat) (C : String) (T : u_T) (tyf : Nat → FieldType), (∀ k, k < N → parseFieldDescriptor (T k).2.2.1 = some (tyf k)) ∧ decode K.code pc = .ok (.new ix, 3) ∧ Cond.classLink K.y.cls ix C ∈ tw ∧ Cond.instantiable C (csz ci) ∈ tw ∧ Cond.initialized C ∈ tw ∧ (∀ w ∈ u_ws C T N, w ∈ tw) ∧ cls[ci]? = some (C, T, N) ∧ (List.range N).map (fun j => defaultValue (tyf j)) = fs
theorem V_nw {ci : Nat} {fs : List Value} (s : SiteN K pc ci fs) (kk : V l G K h0 (pc + 3) ls (.ref (h.length + 1) :: st) (h ++ [.inr (ci, fs)]) r h') : V l G K h0 pc ls st h r h' := by
  obtain ⟨ix, N, C, T, tyf, s1, s2, s3, s4, s5, s6, s7, s8⟩ := s
  exact V_new tyf s1 s2 s3 s4 s5 s6 s7 s8 kk
def nMH (j : Kt) : Prop := j.y.cls ≠ "java/lang/invoke/MethodHandle" ∧ j.y.cls ≠ "java/lang/invoke/VarHandle"
def nPar (j : Kt) (n : Nat) : Prop := ∀ sig, parseMethodDescriptor j.y.desc = some sig → n = sig.parameters.length
def SiteV (K j : Kt) (pc ci n : Nat) : Prop := ∃ (ix : Nat) (q : vw_C), decode K.code pc = .ok (.invokevirtual ix, 3) ∧ Fit K j ∧ Cond.methodLink K.y.cls ix j.y ∈ tw ∧ Cond.instanceMethod j.y ∈ tw ∧ Cond.selects q.1 j.y j.y ∈ tw ∧ cls[ci]? = some q ∧ nMH j ∧ nPar j n
theorem V_cV {j : Kt} {a ci n : Nat} {fs As rest : List Value} {v : Option Value} {h1 : List Ce} (s : SiteV K j pc ci n) (hD : Do l G j (.ref (a + 1) :: As) h (.inl v) h1) (hcell : h[a]? = some (.inr (ci, fs))) (hn : As.length = n) (hst : st = As.reverse ++ .ref (a + 1) :: rest) (hrest : (rest.map fun v => v.category).sum ≤ 8) (kk : V l G K h0 (pc + 3) ls (v.toList ++ rest) h1 r h') : V l G K h0 pc ls st h r h' := by
  obtain ⟨ix, q, s1, s2, s3, s4, s5, s6, s7, s8⟩ := s
  exact V_call s1 s2 (lkV s1 s2.1 s3 s4 s5 s7 hcell s6 (fun sig hs => hn.trans (s8 sig hs)) hst) hrest hD kk
theorem V_cVt {j : Kt} {a ci n x : Nat} {fs As rest : List Value} {h1 : List Ce} (s : SiteV K j pc ci n) (hD : Do l G j (.ref (a + 1) :: As) h (.inr x) h1) (hcell : h[a]? = some (.inr (ci, fs))) (hn : As.length = n) (hst : st = As.reverse ++ .ref (a + 1) :: rest) (hrest : (rest.map fun v => v.category).sum ≤ 8) (hout : K.hd.all (fun x => !(decide (x.1 ≤ pc) && decide (pc < x.2.1))) = true) : V l G K h0 pc ls st h (.inr x) h1 := by
  obtain ⟨ix, q, s1, s2, s3, s4, s5, s6, s7, s8⟩ := s
  exact V_callThr s1 s2 (lkV s1 s2.1 s3 s4 s5 s7 hcell s6 (fun sig hs => hn.trans (s8 sig hs)) hst) hrest hout hD
def SiteS (K j : Kt) (pc n : Nat) : Prop := ∃ (ix : Nat), decode K.code pc = .ok (.invokestatic ix, 3) ∧ Fit K j ∧ (Cond.methodLink K.y.cls ix j.y ∈ tw ∨ ∃ host, Cond.methodLinkNest K.y.cls ix j.y host ∈ tw) ∧ Cond.static j.y ∈ tw ∧ nMH j ∧ nPar j n
theorem lkSS {j : Kt} {n : Nat} {As rest : List Value} (s : SiteS K j pc n) (hn : As.length = n) (hst : st = As.reverse ++ rest) : ∃ ix, decode K.code pc = .ok (.invokestatic ix, 3) ∧ Link l G K j pc h As rest st := by
  obtain ⟨ix, s1, s2, s3, s4, s5, s6⟩ := s
  rcases s3 with q | ⟨host, q⟩
  · exact ⟨ix, s1, lkS s1 s2.1 s2.2.1 q s4 s5 (fun sig hs => hn.trans (s6 sig hs)) hst⟩
  · exact ⟨ix, s1, lkSN s1 s2.1 s2.2.1 q s4 s5 (fun sig hs => hn.trans (s6 sig hs)) hst⟩
theorem SiteS.fit {j : Kt} {n : Nat} (s : SiteS K j pc n) : Fit K j := by
  obtain ⟨ix, s1, s2, s3, s4, s5, s6⟩ := s
  exact s2
theorem V_cS {j : Kt} {n : Nat} {As rest : List Value} {v : Option Value} {h1 : List Ce} (s : SiteS K j pc n) (hD : Do l G j As h (.inl v) h1) (hn : As.length = n) (hst : st = As.reverse ++ rest) (hrest : (rest.map fun v => v.category).sum ≤ 8) (kk : V l G K h0 (pc + 3) ls (v.toList ++ rest) h1 r h') : V l G K h0 pc ls st h r h' := by
  obtain ⟨ix, s1, lk⟩ := lkSS (l := l) (G := G) (h := h) s hn hst
  exact V_call s1 s.fit lk hrest hD kk
theorem V_cSt {j : Kt} {n x : Nat} {As rest : List Value} {h1 : List Ce} (s : SiteS K j pc n) (hD : Do l G j As h (.inr x) h1) (hn : As.length = n) (hst : st = As.reverse ++ rest) (hrest : (rest.map fun v => v.category).sum ≤ 8) (hout : K.hd.all (fun x => !(decide (x.1 ≤ pc) && decide (pc < x.2.1))) = true) : V l G K h0 pc ls st h (.inr x) h1 := by
  obtain ⟨ix, s1, lk⟩ := lkSS (l := l) (G := G) (h := h) s hn hst
  exact V_callThr s1 s.fit lk hrest hout hD
theorem lkIN {j : Kt} {ix a : Nat} {host : String} {As rest : List Value} (hd : decode K.code pc = .ok (.invokespecial ix, 3)) (hini : j.y.name = "<init>") (hret : j.ret = none) (hhd : j.hd = []) (hw : j.w ∈ tw) (hl : Cond.methodLinkNest K.y.cls ix j.y host ∈ tw) (hs : Cond.instanceMethod j.y ∈ tw) (hy : j.y.cls ≠ "java/lang/invoke/MethodHandle" ∧ j.y.cls ≠ "java/lang/invoke/VarHandle") (hn : ∀ sig, parseMethodDescriptor j.y.desc = some sig → As.length = sig.parameters.length) (hst : st = As.reverse ++ .ref (a + 1) :: rest) : Link l G K j pc h (.ref (a + 1) :: As) rest st := by
  intro p e R s m args below meth c T locs cells slots lsA X0 X hP hz
  have hpl : e.platform.magicAccessors = ({} : Platform).magicAccessors := by rw [X.admits.platform]
  have hcode : (Cond.code j.y j.code j.maxL none).before args s = true := by
    have := X0.tw _ hw
    obtain ⟨y, code, maxL, ret, fr, lo, hd⟩ := j
    cases hhd
    cases hret
    exact this
  obtain ⟨mk, methM, cM, kP, vm₁, hnamed, hmethM, hcodeM, -, hlocalsM, -, hkP, -, hW₁, hstep₁⟩ := Steps.initColdArgsNest (e := e) X.here X0.1 X.warmed hpl X0.own hini hy (X0.tw _ hl) (X0.tw _ hs) hcode (f := F0 m pc lsA (st.map (sv G))) rfl (a := G.b + a) (argsL := As.map (sv G)) (rest := rest.map (sv G)) (fun sig hsig => by rw [List.length_map]; exact hn _ hsig) (by rw [hst]; simp [sv]) (by rw [X0.2.1]; exact hd)
  exact ⟨mk, vm₁, hnamed, X.noted hW₁, hstep₁⟩
def SiteI (K j : Kt) (pc n : Nat) : Prop := ∃ (ix : Nat), decode K.code pc = .ok (.invokespecial ix, 3) ∧ Fit K j ∧ j.y.name = "<init>" ∧ j.ret = none ∧ j.hd = [] ∧ (Cond.methodLink K.y.cls ix j.y ∈ tw ∨ ∃ host, Cond.methodLinkNest K.y.cls ix j.y host ∈ tw) ∧ Cond.instanceMethod j.y ∈ tw ∧ nMH j ∧ nPar j n
theorem V_cI {j : Kt} {a n : Nat} {As rest : List Value} {v : Option Value} {h1 : List Ce} (s : SiteI K j pc n) (hD : Do l G j (.ref (a + 1) :: As) h (.inl v) h1) (hn : As.length = n) (hst : st = As.reverse ++ .ref (a + 1) :: rest) (hrest : (rest.map fun v => v.category).sum ≤ 8) (kk : V l G K h0 (pc + 3) ls (v.toList ++ rest) h1 r h') : V l G K h0 pc ls st h r h' := by
  obtain ⟨ix, s1, s2, s3, s4, s5, s6, s7, s8, s9⟩ := s
  rcases s6 with q | ⟨host, q⟩
  · exact V_call s1 s2 (lkI s1 s3 s4 s5 s2.1 q s7 s8 (fun sig hs => hn.trans (s9 sig hs)) hst) hrest hD kk
  · exact V_call s1 s2 (lkIN s1 s3 s4 s5 s2.1 q s7 s8 (fun sig hs => hn.trans (s9 sig hs)) hst) hrest hD kk
def SiteO (K : Kt) (pc : Nat) : Prop := ∃ ix, decode K.code pc = .ok (.invokespecial ix, 3) ∧ Cond.methodLink K.y.cls ix Lib.objectInit ∈ tw ∧ Cond.instanceMethod Lib.objectInit ∈ tw ∧ Cond.code Lib.objectInit ⟨#[0xb1]⟩ 1 none ∈ tw ∧ 1 ≤ K.fr ∧ 20 ≤ K.lo
theorem V_ob {a : Nat} (s : SiteO K pc) (hst : (st.map fun v => v.category).sum ≤ 8) (kk : V l G K h0 (pc + 3) ls st h r h') : V l G K h0 pc ls (.ref (a + 1) :: st) h r h' := by
  obtain ⟨ix, s1, s2, s3, s4, s5, s6⟩ := s
  exact V_objInit s1 s2 s3 s4 s5 (by omega) kk
def SiteM (K : Kt) (pc : Nat) (nm : MethodName) (cd : ByteArray) (n : Nat) : Prop := ∃ ix, decode K.code pc = .ok (.invokestatic ix, 3) ∧ Cond.methodLink K.y.cls ix nm ∈ tw ∧ Cond.static nm ∈ tw ∧ Cond.initialized "java/lang/Math" ∈ tw ∧ Cond.code nm cd n (some .int) ∈ tw ∧ 1 ≤ K.fr ∧ 21 ≤ K.lo
theorem V_max {x y : Int32} (s : SiteM K pc Lib.Math.max.name Lib.Math.max.code 2) (hst : (st.map fun v => v.category).sum ≤ 8) (kk : V l G K h0 (pc + 3) ls (.int (if x < y then y else x) :: st) h r h') : V l G K h0 pc ls (.int y :: .int x :: st) h r h' := by
  obtain ⟨ix, s1, s2, s3, s4, s5, s6, s7⟩ := s
  exact V_mmax s1 s2 s3 s4 s5 s6 (by omega) kk
theorem V_min {x y : Int32} (s : SiteM K pc Lib.Math.min.name Lib.Math.min.code 2) (hst : (st.map fun v => v.category).sum ≤ 8) (kk : V l G K h0 (pc + 3) ls (.int (if y < x then y else x) :: st) h r h') : V l G K h0 pc ls (.int y :: .int x :: st) h r h' := by
  obtain ⟨ix, s1, s2, s3, s4, s5, s6, s7⟩ := s
  exact V_mmin s1 s2 s3 s4 s5 s6 (by omega) kk
theorem V_abs {x : Int32} (s : SiteM K pc Lib.Math.abs.name Lib.Math.abs.code 1) (hst : (st.map fun v => v.category).sum ≤ 8) (kk : V l G K h0 (pc + 3) ls (.int (if 0 ≤ x then x else 0 - x) :: st) h r h') : V l G K h0 pc ls (.int x :: st) h r h' := by
  obtain ⟨ix, s1, s2, s3, s4, s5, s6, s7⟩ := s
  exact V_mabs s1 s2 s3 s4 s5 s6 (by omega) kk
def SiteC (K : Kt) (pc : Nat) : Prop := ∃ ix, decode K.code pc = .ok (.invokestatic ix, 3) ∧ Cond.methodLink K.y.cls ix arraycopyName ∈ tw ∧ Cond.native arraycopyName ∈ tw ∧ Cond.static arraycopyName ∈ tw ∧ Cond.initialized "java/lang/System" ∈ tw ∧ 1 ≤ K.fr ∧ 8 + (nativeFrameWords "java/lang/System" "arraycopy" 5 + 11) ≤ K.lo
theorem V_cpy {a b n0 n1 : Nat} {f g : Nat → Int32} {sp dp n : Int32} (s : SiteC K pc) (ha : h[a]? = some (.inl (.int, n0, .inl f))) (hb : h[b]? = some (.inl (.int, n1, .inl g))) (h1 : ¬ sp < 0) (h2 : ¬ dp < 0) (h3 : ¬ n < 0) (h4 : sp.toNatClampNeg + n.toNatClampNeg ≤ n0) (h5 : dp.toNatClampNeg + n.toNatClampNeg ≤ n1) (hst : (st.map fun v => v.category).sum ≤ 8) (kk : V l G K h0 (pc + 3) ls st (h.set b (.inl (.int, n1, .inl (va_cpy f g sp.toNatClampNeg dp.toNatClampNeg n.toNatClampNeg)))) r h') : V l G K h0 pc ls (.int n :: .int dp :: .ref (b + 1) :: .int sp :: .ref (a + 1) :: st) h r h' := by
  obtain ⟨ix, s1, s2, s3, s4, s5, s6, s7⟩ := s
  exact V_copyi s1 s2 s3 s4 s5 ha hb h1 h2 h3 h4 h5 s6 (by omega) kk
end R6
