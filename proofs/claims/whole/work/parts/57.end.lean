section P57
theorem tl2 {w : Cond} (i : Nat) (h : tables_1_2[i]? = some w) : w ∈ lw_tbl := List.mem_append_right _ (List.mem_append_right _ (List.mem_append_left _ (List.mem_of_getElem? h)))
theorem nt_flags {l : Launch} (hfl : l.flags = flags0) : NoTr l := by
  intro e he
  rw [he.platform]
  show l.stackTraces = false
  unfold Launch.stackTraces
  rw [hfl]
  decide +kernel
theorem room_le {s : State} {pl : Platform} {r r' : Room} (h : s.hasRoom pl r = true) (h1 : r'.frames ≤ r.frames) (h2 : r'.cells ≤ r.cells) (h3 : r'.slots ≤ r.slots) (h4 : r'.locals ≤ r.locals) : s.hasRoom pl r' = true := by
  simp only [State.hasRoom, Bool.and_eq_true, decide_eq_true_eq] at h ⊢
  obtain ⟨⟨⟨⟨a1, a2, a3, a4, a5, a6⟩, a7⟩, a8⟩, a9⟩ := h
  exact ⟨⟨⟨⟨by omega, by omega, by omega, by omega, by omega, a6⟩, by omega⟩, by omega⟩, a9⟩
theorem ev_f {s : State} {A0 : Array Value} {O n d : String} (hl : (Cond.laysStatic O n d).before A0 s = true) (hr : (Cond.isRef (.static O n d)).before A0 s = true) : ∃ (c : ClassId) (k : Class) (a : Nat) (cell : Cell), s.vm.findClass O = some c ∧ s.vm.classes[c]? = some k ∧ k.statics = some a ∧ s.heap[a]? = some cell ∧ ∀ (S : State) (A : Array Value), s.WarmedH S.vm → S.heap[a]? = some cell → (Cond.laysStatic O n d).before A S = true ∧ (Cond.isRef (.static O n d)).before A S = true := by
  obtain ⟨c, k, i, f, a, cell, hc, hi, hst, ha, hcell, hs, hcls, hlt, hty⟩ := Cond.laysStatic_spec hl
  have hv : cell.slots[f.slot]? = some cell.slots[f.slot] := Array.getElem?_eq_getElem hlt
  obtain ⟨v, e1, e2⟩ := Cond.isRef_spec hr
  have hev := Term.static_eval (args := A0) (first := s) (o := none) (idx := []) hi hst ha hcell hs hv
  cases hev.symm.trans e1
  refine ⟨c, k, a, cell, hc, (State.fieldFound?_spec hi).1, ha, hcell, fun S A hW hcS => ?_⟩
  obtain ⟨k', hi', hek⟩ := State.fieldFound?_setVm hW.alike hi
  have hi2 : S.fieldFound? O n d = some (c, k', i, f) := hi'
  have hcS2 : S.vm.findClass O = some c := by rw [hW.alike.findClass]; exact hc
  have hak : k'.statics = some a := by rw [hek]; exact ha
  refine ⟨Cond.laysStatic_of hcS2 hi2 hst hak hcS hs hcls hlt (by rw [hek]; exact hty), ?_⟩
  have he : (Term.static O n d).eval A S none [] S = some cell.slots[f.slot] := Term.static_eval hi2 hst hak hcS hs hv
  simp only [Cond.before, Cond.holds, Cond.value, he]
  revert e2
  generalize cell.slots[f.slot] = v9
  intro e2
  cases v9 <;> first | rfl | (simp [Value.isRef] at e2)
theorem evS_of {G : Gb} {s : State} {A0 : Array Value} (hb : G.b = s.heap.size) (l1 : (Cond.laysStatic "java/lang/Throwable" "UNASSIGNED_STACK" "[Ljava/lang/StackTraceElement;").before A0 s = true) (l2 : (Cond.laysStatic "java/lang/Throwable" "SUPPRESSED_SENTINEL" "Ljava/util/List;").before A0 s = true) (r1 : (Cond.isRef (.static "java/lang/Throwable" "UNASSIGNED_STACK" "[Ljava/lang/StackTraceElement;")).before A0 s = true) (r2 : (Cond.isRef (.static "java/lang/Throwable" "SUPPRESSED_SENTINEL" "Ljava/util/List;")).before A0 s = true) : EvS G s s.heap := by
  obtain ⟨c, k, a, cell, h1, h2, h3, h4, h5⟩ := ev_f l1 r1
  obtain ⟨c', k', a', cell', g1, g2, g3, g4, g5⟩ := ev_f l2 r2
  cases h1.symm.trans g1
  cases h2.symm.trans g2
  cases h3.symm.trans g3
  cases h4.symm.trans g4
  refine ⟨a, cell, by rw [hb]; exact (Array.getElem?_eq_some_iff.mp h4).1, h4, fun S A hW hc w hw => ?_⟩
  obtain ⟨x1, x2⟩ := h5 S A hW hc
  obtain ⟨y1, y2⟩ := g5 S A hW hc
  simp only [evw, List.mem_cons, List.not_mem_nil, or_false] at hw
  rcases hw with rfl | rfl | rfl | rfl
  · exact x1
  · exact y1
  · exact x2
  · exact y2
theorem kn_site {K : Kt} {pc ci : Nat} {fs : List Value} (st : SiteN K pc ci fs) {s : State} {A0 : Array Value} (hts : ∀ w ∈ tw, w.before A0 s = true) : ∃ (cC : ClassId) (iS : Nat → Nat), ∀ q, cls[ci]? = some q → u_Kn s q.1 q.2.1 q.2.2 cC iS := by
  obtain ⟨ix, N, C, T, tyf, s1, s2, s3, s4, s5, s6, s7, s8⟩ := st
  obtain ⟨cC, iS, hk⟩ := u_known hts s6 (hts _ s4)
  refine ⟨cC, iS, fun q hq => ?_⟩
  cases s7.symm.trans hq
  exact hk
theorem kn_ex {ci : Nat} {C : String} {T : u_T} (hc : cls[ci]? = some (C, T, 0)) (hi : Cond.instantiable C 6 ∈ tw) {s : State} {A0 : Array Value} (hts : ∀ w ∈ tw, w.before A0 s = true) : ∃ (cC : ClassId) (iS : Nat → Nat), ∀ q, cls[ci]? = some q → u_Kn s q.1 q.2.1 q.2.2 cC iS := by
  obtain ⟨cC, iS, hk⟩ := u_known (T := T) (N := 0) hts (fun w hw => by simp [u_ws] at hw) (hts _ hi)
  refine ⟨cC, iS, fun q hq => ?_⟩
  cases hc.symm.trans hq
  exact hk
theorem kn_all {s : State} {A0 : Array Value} (hts : ∀ w ∈ tw, w.before A0 s = true) : ∀ c : Nat, ∃ (cC : ClassId) (iS : Nat → Nat), ∀ q, cls[c]? = some q → u_Kn s q.1 q.2.1 q.2.2 cC iS
  | 0 => kn_site n_Pm_init_84 hts
  | 1 => kn_site n_Pm_init_66 hts
  | 2 => kn_site n_Pm_init_95 hts
  | 3 => kn_site n_Pm_init_25 hts
  | 4 => kn_site n_Pm_init_55 hts
  | 5 => kn_site n_Pm_init_106 hts
  | 6 => kn_site n_Pm_init_40 hts
  | 7 => kn_site n_La_law_0 hts
  | 8 => kn_site n_La_law_23 hts
  | 9 => kn_ex rfl (tx2 54 rfl rfl) hts
  | 10 => kn_ex rfl (tx2 125 rfl rfl) hts
  | 11 => kn_ex rfl (tx2 197 rfl rfl) hts
  | n + 12 => ⟨0, fun _ => 0, fun q hq => by cases hq⟩
theorem arr_ex {s : State} {A0 : Array Value} {ty : FieldType} (h : (Cond.arrayClass ty).before A0 s = true) : ∃ cA : ClassId, ArrOfT s cA ty ∧ s.vm.findClass ("[" ++ ty.toString) = some cA := by
  obtain ⟨c, k, comp, h1, h2, h3⟩ := Cond.arrayClass_spec h
  exact ⟨c, fun n z => ⟨fun k h => (by cases h), k, h2, comp, h3⟩, h1⟩
def R_law : String := "PhotoModelsLaw"
def lw_P (b : Addr) (xs : List Int32) (args : Array Value) (s : State) : Prop := args = #[.ref b] ∧ s.IntsAt b xs ∧ xs.length ≤ 2563 ∧ (Jvm.Cond.and given_1 narrow_1).before args s = true
def lw_Q (_ : Array Value) (s : State) (o : Outcome) (t : State) : Prop := o = .returned (some (.int 1)) ∧ Framed s o t [] 601024 7292999
set_option maxHeartbeats 4000000 in
theorem lw_walk (l : Launch) (hNT : NoTr l) (b : Addr) (xs : List Int32) : MetFree l x (headSpec (Jvm.Cond.code x code maxLocals ret :: tables_1) room_1) (lw_P b xs) (fun _ _ _ _ _ => True) lw_Q := by
  refine MetFree.of_bodyS (code := code) (maxLocals := maxLocals) (ret := ret) (by decide) ?_ ?_
  · intro args s m h hn
    obtain ⟨meth, c, h1, h2, h3, h4, h5, h6, -, -⟩ := Cond.code_spec hn (atoms_spec (ws := Jvm.Cond.code x code maxLocals ret :: tables_1) h _ List.mem_cons_self)
    exact ⟨meth, c, h1, h2, h3, h4, h5, h6⟩
  · intro p e s m args below meth c s₁ B hml0 hP _
    obtain ⟨rfl, hx, hbd, hgv⟩ := hP
    obtain ⟨scr, harrAt, hlist, hof, hsmall⟩ := hx
    obtain ⟨hcb, hkn, -, -⟩ := State.arrayAt?_spec harrAt
    have hown : s.vm.findClass R_law = some m.cls := findClass_of_methodNamed B.named
    have hts0 : ∀ c ∈ (Jvm.Cond.code x code maxLocals ret :: tables_1), c.before #[Value.ref b] s = true := atoms_spec (ws := Jvm.Cond.code x code maxLocals ret :: tables_1) B.pre
    have hts : ∀ w ∈ lw_tbl, w.before #[Value.ref b] s = true := k2_hts_sels lw_privs (fun w hw => hts0 w (List.mem_cons_of_mem _ hw)) lw_privs_ok
    have htw : ∀ w ∈ tw, w.before #[Value.ref b] s = true := fun w hw => hts w (tw_sub w hw)
    have hml : c.maxLocals = 8 := B.maxLocals_eq (hts0 _ List.mem_cons_self)
    have X₀ : Stand p l e room_1 s m #[Value.ref b] below meth c s₁ [] 0 0 := Stand.of_body B
    have hh0 : s₁.heap = s.heap := by rw [B.state]; rfl
    have hsz : scr.slots.size = xs.length := by rw [← Array.length_toList, hlist, List.length_map]
    have hval : ∀ j : Nat, j < xs.length → scr.slots[j]? = some (.int (xs.getD j 0)) := fun j hj => by
      rw [← Array.getElem?_toList, hlist]
      simp [hj]
    have hbl : b < s.heap.size := (Array.getElem?_eq_some_iff.mp hcb).1
    have hX : va_X b xs.length (fun j => xs.getD j 0) s s.heap := ⟨scr, hcb, hof, hkn, hsz, hval⟩
    have hfl := flat_of_before _ hgv
    have kn := kn_all htw
    obtain ⟨cI, aI, fI⟩ := arr_ex (htw _ tw_ai)
    obtain ⟨cZ, aZ, fZ⟩ := arr_ex (htw _ tw_az)
    obtain ⟨cJ, aJ, fJ⟩ := arr_ex (htw _ tw_al)
    have hdl' : hdl c = k_La_law.hd := by
      obtain ⟨meth', c', h1, h2, h3, h4, h5, h6, h7, -⟩ := Cond.code_spec B.named (hts0 _ List.mem_cons_self)
      cases B.method.symm.trans h1
      cases X₀.code.symm.trans h2
      have : c.exceptionTable.toList = [] := by simpa using h7
      simp [hdl, this]
      rfl
    obtain ⟨G, hG⟩ : ∃ G : Gb, G = (s.heap.size, b, xs.length, fun j => xs.getD j 0, (fun c => Classical.choose (kn c), fun c => Classical.choose (Classical.choose_spec (kn c))), fun ty => match ty with | .int => cI | .boolean => cZ | .long => cJ | _ => 0) := ⟨_, rfl⟩
    have hK : va_K G.D cls (tyl G) s := by
      subst hG
      refine ⟨fun c q hq => Classical.choose_spec (Classical.choose_spec (kn c)) q hq, fun k q hq => ?_⟩
      match k, hq with
      | 0, hq => cases hq; exact ⟨aI, fI⟩
      | 1, hq => cases hq; exact ⟨aZ, fZ⟩
      | 2, hq => cases hq; exact ⟨aJ, fJ⟩
      | n + 3, hq => cases hq
    have hE : Ev G s s.heap := ⟨evS_of (by subst hG; rfl) (hts _ (tl2 80 rfl)) (hts _ (tl2 82 rfl)) (hfl _ (by decide +kernel)) (hfl _ (by decide +kernel)), va_Nc.of (hfl _ (by decide +kernel)), va_Nc.of (hfl _ (by decide +kernel)), va_Nc.of (hfl _ (by decide +kernel))⟩
    have gb : G.b = s.heap.size := by subst hG; rfl
    have gs : G.scr = b := by subst hG; rfl
    have gX : va_X G.scr G.L G.xs s s.heap := by subst hG; exact hX
    have gL : G.L ≤ 2563 := by subst hG; exact hbd
    obtain ⟨h', hl7, hs7, kk⟩ := do_law (l := l) (G := G) hNT gL
    have C : Cx G k_La_law p s m #[Value.ref b] meth c := ⟨B.exec, B.bytes, hml, B.returns, B.notSynchronized, hown, (name_of_methodNamed B.named B.method).1, hdl', htw, hK, hE, gX, by rw [gs, gb]; exact hbl, by rw [gb]; exact Nat.le_refl _⟩
    have hl := lv_entry ([Value.ref 0].map (sv G)) (n := k_La_law.maxL) (by rw [lg_sl_mv]; exact Nat.le_of_ble_eq_true rfl)
    rw [lv_args_mv] at hl
    have w := kk.2.2 (e := e) (below := below) (locs := []) C (fun k q h => by cases h) (by rw [gb]; rfl) (Nat.le_refl _) (Nat.le_refl _) va_S.rf hl
    rw [Nat.sub_self, Nat.sub_self] at w
    have X1 : Stand p l e (rmK k_La_law [] h') s m #[Value.ref b] below meth c s₁ [] 0 0 := ⟨X₀.admits, X₀.cas, X₀.clock, X₀.frames, room_le X₀.room (by show 9 ≤ 11; omega) (by show h'.length - 0 ≤ 601024; omega) (by show sl h' - 0 ≤ 7292999; omega) (by show 192 ≤ 390; omega), X₀.hears, X₀.method, X₀.code, X₀.here, X₀.tail, X₀.warmed, X₀.limits, X₀.bytes, X₀.same⟩
    obtain ⟨t, a1, b1, b2, b3, b4, Ls, b5, b6⟩ := w s₁ hh0 X1
    refine ⟨t, .returned (some (.int 1)), ?_, b1, b2, rfl, ⟨_, rfl⟩, b4, ?_⟩
    · have ea : (#[Value.ref b] : Array Value) = ([Value.ref 0].map (sv G)).toArray := by rw [← gs]; rfl
      rw [ea, lg_entry_eq]
      exact a1
    · have b7 := State.sameButNew.drop_fresh (L := []) (J := Ls) b5 (fun q hq => by rw [← gb]; exact b6 q hq)
      exact b7.mono (by show h'.length - 0 ≤ 601024; omega) (by show sl h' - 0 ≤ 7292999; omega)
theorem lw_pre_spec {args : Array Value} {s : State} (h : (Jvm.Cond.and given_1 narrow_1).before args s = true) (hr : rest_1_c.before args s = true) : ∃ (b : Addr) (xs : List Int32), lw_P b xs args s := by
  have hs := flat_of_before _ h
  have hq := flat_of_before _ hr
  have hc : (Cond.count 1).before args s = true := hs _ (by decide +kernel)
  have harr : (Cond.arrayOf (.arg 0) .int).before args s = true := hs _ (by decide +kernel)
  have hle : (Cond.le (.length (.arg 0)) (.int 2563)).before args s = true := hs _ (by decide +kernel)
  have hlen : (Cond.isInt (.length (.arg 0))).before args s = true := hq _ (by decide +kernel)
  have hall : (Cond.all (.arg 0) (.isInt (.elem (.arg 0) (.index 0)))).before args s = true := hq _ (by decide +kernel)
  obtain ⟨b, xs, hb, hx⟩ := State.ints_of_pre rfl harr hlen hall
  have hsm : xs.length < 2 ^ 31 := hx.choose_spec.2.2.2
  have hev : (Term.length (.arg 0)).eval args s none [] s = some (.int xs.length.toInt32) := hx.length_eval hb
  have hv := Cond.le_ints hev (show (Term.int 2563).eval args s none [] s = some (.int 2563) from rfl)
  have hd : xs.length.toInt32 ≤ 2563 := by
    simpa [Cond.before, Cond.holds, hv] using hle
  have hN : xs.length ≤ 2563 := (Int32.ofNat_le_ofNat hsm (by decide)).mp (show Int32.ofNat xs.length ≤ Int32.ofNat 2563 from hd)
  exact ⟨b, xs, Cond.one_arg hc (show args[0]? = some (.ref b) from hb), hx, hN, h⟩
theorem lw_comes (l : Launch) (hNT : NoTr l) : Comes l x (Jvm.Cond.code x code maxLocals ret :: tables_1) room_1 (fun tb e args s => Calls_1 tb e args s ∧ rest_1 tb e args s ∧ Pre_1 tb e args s)
    (fun _ _ args s o t => lw_Q args s o t) := by
  intro p e ha hc hk s m args below hf hfit hheap happ hpre
  obtain ⟨b, xs, hP⟩ := lw_pre_spec hpre.2.2 hpre.2.1
  obtain ⟨k, o, h1, h2, h3, hQ⟩ := lw_walk l hNT b xs p e ha hc hk s m args below hf ((Spec.applies_iff_loose hf).mp happ).1 hP trivial
  exact ⟨k, o, h1, h2, h3, hQ⟩
theorem lw_frame {s t : State} {o : Outcome} {args : Array Value} (h : Framed s o t [] 601024 7292999) :
    Framed s o t (fieldLocs frame_1_writes args s ++ arrayLocs frame_1_arrays args s ++ staticLocs frame_1_statics s) 601024 7292999 := h
theorem lw_limb (L : Cond) (hL : ∀ (args : Array Value) (s t : State), L.after args s (.returned (some (.int 1))) t = true) :
    ArmFor flags0 classFile x code maxLocals ret World_1 tables_1 room_1 Calls_1 rest_1 Pre_1
      (fun tb e a s o t => postC L tb e a s o t ∧ Framed s o t (fieldLocs frame_1_writes a s ++ arrayLocs frame_1_arrays a s ++ staticLocs frame_1_statics s) 601024 7292999) := by
  intro l hfl _ _ p e ha hc hk s m args below hf hfit hheap happ hpre
  obtain ⟨k, o, h1, h2, h3, rfl, hF⟩ := lw_comes l (nt_flags hfl) p e ha hc hk s m args below hf hfit hheap happ hpre
  exact ⟨k, _, h1, h2, h3, hL args s _, lw_frame hF⟩
theorem i_vc : Claimed_1_1 ∧ Claimed_1_2 := ⟨lw_limb limb_1_1 (fun args s t => by simp [limb_1_1, Cond.after, Cond.holds, Cond.value]), lw_limb limb_1_2 (fun args s t => Cond.after_iff.mpr (by
  first | (rw [show limb_1_2 = Cond.eq .result (.int 1) from rfl, Cond.eq_ints (x := 1) (y := 1) rfl rfl]; simp; done) | (simp [limb_1_2, Cond.value, Term.eval]; done)))⟩
end P57
