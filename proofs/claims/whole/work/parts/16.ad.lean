section P16
variable {l : Launch} {G : Gb} {h : List Ce} {n : Nat} {sp : Int32} {As Bn : Nat → Bool} {wh P O PB OB : Nat → Int32}
abbrev AdO : Ce := .inr (0, [.ref 14, .ref 15, .ref 16, .ref 17])
theorem do_Ad_position (c_Ad : h[12]? = some AdO) (a_Ad_positions : h[13]? = some (IA 24 P)) (p x : Nat) (hp : p < 12) (hx : x < 2) : Do l G k_Ad_position [.ref 13, .int (nI p), .int (nI x)] h (ri (P (p * 2 + x))) h := by
  refine Do.of (by decide) (Nat.le_of_ble_eq_true rfl) kw_Ad_position ?_
  refine V_aload_n d_Ad_position_0 rfl ?_
  refine V_gf g_Ad_position_1 c_Ad rfl ?_
  refine V_iload_n d_Ad_position_4 rfl ?_
  refine V_iconst (v := 2) d_Ad_position_5 (by decide) ?_
  refine V_imul d_Ad_position_6 ?_
  refine V_iload_n d_Ad_position_7 rfl ?_
  refine V_iadd d_Ad_position_8 ?_
  refine V_ialdN d_Ad_position_9 a_Ad_positions (⟨by rw [show (2 : Int32) = nI 2 from rfl, pk_mul, nI_add], by omega, by decide⟩) ?_
  exact V_iret d_Ad_position_10 rfl rfl
theorem do_Ad_moved (c_Ad : h[12]? = some AdO) (a_Ad_offsets : h[14]? = some (IA 8 O)) (q x : Nat) (hq : q < 4) (hx : x < 2) : Do l G k_Ad_moved [.ref 13, .int (nI q), .int (nI x)] h (ri (O (q * 2 + x))) h := by
  refine Do.of (by decide) (Nat.le_of_ble_eq_true rfl) kw_Ad_moved ?_
  refine V_aload_n d_Ad_moved_0 rfl ?_
  refine V_gf g_Ad_moved_1 c_Ad rfl ?_
  refine V_iload_n d_Ad_moved_4 rfl ?_
  refine V_iconst (v := 2) d_Ad_moved_5 (by decide) ?_
  refine V_imul d_Ad_moved_6 ?_
  refine V_iload_n d_Ad_moved_7 rfl ?_
  refine V_iadd d_Ad_moved_8 ?_
  refine V_ialdN d_Ad_moved_9 a_Ad_offsets (⟨by rw [show (2 : Int32) = nI 2 from rfl, pk_mul, nI_add], by omega, by decide⟩) ?_
  exact V_iret d_Ad_moved_10 rfl rfl
/-- the same for a method of a class of the JDK that has natives too -/
theorem Do.ofF {l : Launch} {G : Gb} {K : Kt} {vs : List Value} {h : List Ce} {r : Rs} {h' : List Ce} (hy : plainFor K.y = true) (hn : (lg_sl vs).length ≤ K.maxL) (hw : K.w ∈ tw) (kk : V l G K h 0 (lv_args 0 vs) [] h r h') : Do l G K vs h r h' := by
  refine ⟨kk.1, kk.2.1, MetFree.of_bodySF (code := K.code) (maxLocals := K.maxL) (ret := K.ret) hy ?_ ?_⟩
  · intro args s m hp hnm
    have hk := atoms_spec (ws := K.w :: tw) hp _ List.mem_cons_self
    obtain ⟨y, code, maxL, ret, fr, lo, hd⟩ := K
    cases hd with
    | nil =>
      obtain ⟨meth, c, h1, h2, h3, h4, h5, h6, -, -⟩ := Cond.code_spec hnm hk
      exact ⟨meth, c, h1, h2, h3, h4, h5, h6⟩
    | cons q t =>
      obtain ⟨m', meth, c, hn', h1, h2, h3, h4, -, h5, h6, -⟩ := Cond.codeWith_spec hk
      cases hnm.symm.trans hn'
      exact ⟨meth, c, h1, h2, h3, h4, h5, h6⟩
  · intro p e s m args below meth c s₁ B hml hP _
    obtain ⟨rfl, hP, hz, hX, hb, hK, hE⟩ := hP
    have hh0 : s₁.heap = s.heap := by rw [B.state]; rfl
    have hall := atoms_spec (ws := K.w :: tw) B.pre
    have hcode : meth.code = some c := (Stand.of_body B).code
    have hdl' : hdl c = K.hd := by
      have hk := hall _ List.mem_cons_self
      obtain ⟨y, code, maxL, ret, fr, lo, hd⟩ := K
      cases hd with
      | nil =>
        obtain ⟨meth', c', h1, h2, h3, h4, h5, h6, h7, -⟩ := Cond.code_spec B.named hk
        cases B.method.symm.trans h1
        cases hcode.symm.trans h2
        have : c.exceptionTable.toList = [] := by simpa using h7
        simp [hdl, this]
      | cons q t =>
        obtain ⟨m', meth', c', hn', h1, h2, h3, h4, h5, -, -, -⟩ := Cond.codeWith_spec hk
        cases B.named.symm.trans hn'
        cases B.method.symm.trans h1
        cases hcode.symm.trans h2
        exact h5
    have C : Cx G K p s m (vs.map (sv G)).toArray meth c := ⟨B.exec, B.bytes, hml, B.returns, B.notSynchronized, findClass_of_methodNamed B.named, (name_of_methodNamed B.named B.method).1, hdl', fun w hw => hall w (List.mem_cons_of_mem _ hw), hK, hE, hX, hb, by omega⟩
    have hl := lv_entry (vs.map (sv G)) (n := K.maxL) (by rw [lg_sl_mv]; exact hn)
    rw [lv_args_mv] at hl
    have w := kk.2.2 (e := e) (below := below) (locs := []) C hP hz (Nat.le_refl _) (Nat.le_refl _) va_S.rf hl
    rw [Nat.sub_self, Nat.sub_self] at w
    obtain ⟨t, a1, b1, b2, b3, b4, b5⟩ := w s₁ hh0 (Stand.of_body B)
    refine ⟨t, oc G r, ?_, b1, b2, rfl, b3, b4, b5⟩
    rw [lg_entry_eq]
    exact a1
/-- Math.floorDiv, as it is written -/
def fdR (x y : Int64) : Int64 := if 0 ≤ lg_cmp (x ^^^ y) 0 then x / y else if lg_cmp (x / y * y) x = 0 then x / y else x / y - 1
theorem do_floorDiv (x y : Int64) (hy : ¬ y = 0) : Do l G k_Math_floorDiv [.long x, .long y] h (rl (fdR x y)) h := by
  refine Do.ofF (by decide +kernel) (Nat.le_of_ble_eq_true rfl) kw_Math_floorDiv ?_
  refine V_lload_n d_Math_floorDiv_0 rfl ?_
  refine V_lload_n d_Math_floorDiv_1 rfl ?_
  refine V_ldiv d_Math_floorDiv_2 (hy) ?_
  refine V_lstore d_Math_floorDiv_3 (by decide) rfl ?_
  refine V_lload_n d_Math_floorDiv_5 rfl ?_
  refine V_lload_n d_Math_floorDiv_6 rfl ?_
  refine V_lxor d_Math_floorDiv_7 ?_
  refine V_lconst (v := 0) d_Math_floorDiv_8 (by decide) ?_
  refine V_lcmp d_Math_floorDiv_9 ?_
  refine V_if_ge (tgt := 27) d_Math_floorDiv_10 (by decide) (fun c1 => ?_) (fun c1 => ?_)
  · rw [rl, fdR, if_pos c1]
    refine V_lload d_Math_floorDiv_27 rfl ?_
    exact V_lret d_Math_floorDiv_29 rfl
  · refine V_lload d_Math_floorDiv_13 rfl ?_
    refine V_lload_n d_Math_floorDiv_15 rfl ?_
    refine V_lmul d_Math_floorDiv_16 ?_
    refine V_lload_n d_Math_floorDiv_17 rfl ?_
    refine V_lcmp d_Math_floorDiv_18 ?_
    refine V_if_eq (tgt := 27) d_Math_floorDiv_19 (by decide) (fun c2 => ?_) (fun c2 => ?_)
    · rw [rl, fdR, if_neg c1, if_pos c2]
      refine V_lload d_Math_floorDiv_27 rfl ?_
      exact V_lret d_Math_floorDiv_29 rfl
    · rw [rl, fdR, if_neg c1, if_neg c2]
      refine V_lload d_Math_floorDiv_22 rfl ?_
      refine V_lconst (v := 1) d_Math_floorDiv_24 (by decide) ?_
      refine V_lsub d_Math_floorDiv_25 ?_
      exact V_lret d_Math_floorDiv_26 rfl
def meanR (t : Int64) (c : Nat) (d : Int32) : Int32 := if c = 0 then d else (fdR t (nI c).toInt64).toInt32
theorem do_Ad_mean (t : Int64) (c : Nat) (hc : c < 2 ^ 31) (d : Int32) : Do l G k_Ad_mean [.long t, .int (nI c), .int d] h (ri (meanR t c d)) h := by
  refine Do.of (by decide) (Nat.le_of_ble_eq_true rfl) kw_Ad_mean ?_
  refine V_iload_n d_Ad_mean_0 rfl ?_
  rcases Nat.eq_zero_or_pos c with q | q
  · subst q
    rw [meanR, if_pos rfl]
    refine V_if_ne (tgt := 8) d_Ad_mean_1 (by decide) (fun c9 => absurd ((rfl : nI 0 = 0)) c9) (fun _ => ?_)
    refine V_iload_n d_Ad_mean_4 rfl ?_
    refine V_goto (tgt := 15) d_Ad_mean_5 (by decide) ?_
    exact V_iret d_Ad_mean_15 rfl rfl
  · rw [meanR, if_neg (by omega)]
    refine V_if_ne (tgt := 8) d_Ad_mean_1 (by decide) (fun _ => ?_) (fun c9 => absurd (c9 : _) ((nI_ne0 q hc)))
    refine V_lload_n d_Ad_mean_8 rfl ?_
    refine V_iload_n d_Ad_mean_9 rfl ?_
    refine V_i2l d_Ad_mean_10 ?_
    refine V_cS s_Ad_mean_11 (do_floorDiv t (nI c).toInt64 (by rw [nI_l hc, show (0 : Int64) = lN 0 from rfl, lN_eq hc (by decide)]; omega)) rfl rfl (Nat.le_of_ble_eq_true rfl) ?_
    refine V_l2i d_Ad_mean_14 ?_
    exact V_iret d_Ad_mean_15 rfl rfl
theorem do_fill {a N : Nat} {f : Nat → Int32} (ha : h[a]? = some (IA N f)) (hN : N < 2 ^ 31) (v : Int32) : Do l G k_Arr_fill [.ref (a + 1), .int v] h rv (h.set a (IA N (fori (fun i f => upd f i v) N 0 f))) := by
  refine Do.of (by decide) (Nat.le_of_ble_eq_true rfl) kw_Arr_fill ?_
  have hlen : a < h.length := (List.getElem?_eq_some_iff.mp ha).1
  have loop : ∀ (m i : Nat) (g : Nat → Int32), i + m = N → fori (fun i f => upd f i v) N 0 f = fori (fun i f => upd f i v) m i g → V l G k_Arr_fill h 5 [(0, .ref (a + 1)), (1, .int v), (2, .int (nI i)), (3, .int (nI N))] [] (h.set a (IA N g)) rv (h.set a (IA N (fori (fun i f => upd f i v) N 0 f))) := by
    intro m
    induction m with
    | zero =>
      intro i g hi e
      rw [e]
      refine V_iload_n d_Arr_fill_5 rfl ?_
      refine V_iload_n d_Arr_fill_6 rfl ?_
      refine V_icmp_ge (tgt := 20) d_Arr_fill_7 (by decide) (fun _ => ?_) (fun c9 => absurd ((nI_le (by omega) (by omega) : nI N ≤ nI i)) c9)
      exact V_vret d_Arr_fill_20 rfl
    | succ m ih =>
      intro i g hi e
      refine V_iload_n d_Arr_fill_5 rfl ?_
      refine V_iload_n d_Arr_fill_6 rfl ?_
      refine V_icmp_ge (tgt := 20) d_Arr_fill_7 (by decide) (fun c9 => absurd c9 ((nI_ge (by omega) (by omega) : ¬ nI N ≤ nI i))) (fun _ => ?_)
      refine V_aload_n d_Arr_fill_10 rfl ?_
      refine V_iload_n d_Arr_fill_11 rfl ?_
      refine V_iload_n d_Arr_fill_12 rfl ?_
      refine V_iastN d_Arr_fill_13 (List.getElem?_set_self hlen) (Ix.of (show i < N by omega) hN) ?_
      rw [List.set_set]
      refine V_iinc1 d_Arr_fill_14 rfl (by decide) rfl ?_
      refine V_goto (tgt := 5) d_Arr_fill_17 (by decide) ?_
      rw [nI_1]
      exact ih (i + 1) _ (by omega) e
  refine V_iconst (v := 0) d_Arr_fill_0 (by decide) ?_
  refine V_istore_n d_Arr_fill_1 (by decide) rfl ?_
  refine V_aload_n d_Arr_fill_2 rfl ?_
  refine V_ialen d_Arr_fill_3 ha ?_
  refine V_istore_n d_Arr_fill_4 (by decide) rfl ?_
  have e0 : h = h.set a (IA N f) := by
    apply List.ext_getElem?
    intro i
    rw [List.getElem?_set]
    by_cases q : a = i
    · subst q; rw [if_pos rfl, if_pos hlen]; exact ha
    · simp [q]
  refine V_eqh e0 ?_
  exact loop N 0 f (by omega) rfl
abbrev adH (h : List Ce) (n : Nat) (sp : Int32) (As Bn : Nat → Bool) (wh P O PB OB : Nat → Int32) : List Ce := hS h [(5, PlO n sp), (6, ZA 12 As), (7, ZA 48 Bn), (8, IA 96 wh), (12, AdO), (13, IA 24 P), (14, IA 8 O), (15, IA 24 PB), (16, IA 8 OB)]
/-- how far a place lies off, as the class counts it -/
def offL (w p o : Int32) : Int64 := 1000 * w.toInt64 - p.toInt64 - o.toInt64
def shS (wh P O : Nat → Int32) (p q x : Nat) (t : Int64) : Int64 := t + offL (wh ((p * 4 + q) * 2 + x)) (P (p * 2 + x)) (O (q * 2 + x)) * offL (wh ((p * 4 + q) * 2 + x)) (P (p * 2 + x)) (O (q * 2 + x))
def shQ (Bn : Nat → Bool) (wh P O : Nat → Int32) (p q : Nat) (t : Int64) : Int64 := if Bn (p * 4 + q) then fori (shS wh P O p q) 2 0 t else t
def shR (Bn : Nat → Bool) (wh P O : Nat → Int32) (p : Nat) : Int64 := fori (shQ Bn wh P O p) 4 0 0
theorem do_Ad_share (hL : 27 ≤ h.length) (p : Nat) (hp : p < 12) : Do l G k_Ad_share [.ref 13, .ref 6, .int (nI p)] (adH h n sp As Bn wh P O PB OB) (rl (shR Bn wh P O p)) (adH h n sp As Bn wh P O PB OB) := by
  refine Do.of (by decide) (Nat.le_of_ble_eq_true rfl) kw_Ad_share ?_
  have inner : ∀ (H0 : List Ce) (q : Nat), q < 4 → ∀ (m x : Nat) (t : Int64), x + m = 2 → V l G k_Ad_share H0 79 [(0, .ref 13), (1, .ref 6), (2, .int (nI p)), (3, .long (fori (shS wh P O p q) m x t)), (5, .int (nI q))] [] (adH h n sp As Bn wh P O PB OB) (rl (shR Bn wh P O p)) (adH h n sp As Bn wh P O PB OB) → V l G k_Ad_share H0 24 [(0, .ref 13), (1, .ref 6), (2, .int (nI p)), (3, .long t), (5, .int (nI q)), (6, .int (nI x))] [] (adH h n sp As Bn wh P O PB OB) (rl (shR Bn wh P O p)) (adH h n sp As Bn wh P O PB OB) := by
    intro H0 q hq m
    induction m with
    | zero =>
      intro x t hx kk
      obtain rfl : x = 2 := by omega
      refine V_iload d_Ad_share_24 rfl ?_
      refine V_iconst (v := 2) d_Ad_share_26 (by decide) ?_
      refine V_icmp_ge (tgt := 79) d_Ad_share_27 (by decide) (fun _ => ?_) (fun c9 => absurd ((by decide : (2 : Int32) ≤ nI 2)) c9)
      exact V_keep [0, 1, 2, 3, 5] kk
    | succ m ih =>
      intro x t hx kk
      refine V_iload d_Ad_share_24 rfl ?_
      refine V_iconst (v := 2) d_Ad_share_26 (by decide) ?_
      refine V_icmp_ge (tgt := 79) d_Ad_share_27 (by decide) (fun c9 => absurd c9 ((nI_ge (b := 2) (by omega) (by decide) : ¬ (2 : Int32) ≤ nI x))) (fun _ => ?_)
      refine V_ldc2 d_Ad_share_30 c_Ad_share_30 ?_
      refine V_aload_n d_Ad_share_33 rfl ?_
      refine V_iload_n d_Ad_share_34 rfl ?_
      refine V_iload d_Ad_share_35 rfl ?_
      refine V_iload d_Ad_share_37 rfl ?_
      refine V_cV s_Ad_share_39 (do_Pl_where (rd hL rfl rfl) (rd hL rfl rfl) hp hq (show x < 2 by omega)) (rd hL rfl rfl) rfl rfl (Nat.le_of_ble_eq_true rfl) ?_
      refine V_i2l d_Ad_share_42 ?_
      refine V_lmul d_Ad_share_43 ?_
      refine V_aload_n d_Ad_share_44 rfl ?_
      refine V_iload_n d_Ad_share_45 rfl ?_
      refine V_iload d_Ad_share_46 rfl ?_
      refine V_cV s_Ad_share_48 (do_Ad_position (rd hL rfl rfl) (rd hL rfl rfl) p x hp (by omega)) (rd hL rfl rfl) rfl rfl (Nat.le_of_ble_eq_true rfl) ?_
      refine V_i2l d_Ad_share_51 ?_
      refine V_lsub d_Ad_share_52 ?_
      refine V_aload_n d_Ad_share_53 rfl ?_
      refine V_iload d_Ad_share_54 rfl ?_
      refine V_iload d_Ad_share_56 rfl ?_
      refine V_cV s_Ad_share_58 (do_Ad_moved (rd hL rfl rfl) (rd hL rfl rfl) q x hq (by omega)) (rd hL rfl rfl) rfl rfl (Nat.le_of_ble_eq_true rfl) ?_
      refine V_i2l d_Ad_share_61 ?_
      refine V_lsub d_Ad_share_62 ?_
      refine V_lstore d_Ad_share_63 (by decide) rfl ?_
      refine V_lload_n d_Ad_share_65 rfl ?_
      refine V_lload d_Ad_share_66 rfl ?_
      refine V_lload d_Ad_share_68 rfl ?_
      refine V_lmul d_Ad_share_70 ?_
      refine V_ladd d_Ad_share_71 ?_
      refine V_lstore_n d_Ad_share_72 (by decide) rfl ?_
      refine V_iinc1 d_Ad_share_73 rfl (by decide) rfl ?_
      refine V_goto (tgt := 24) d_Ad_share_76 (by decide) ?_
      rw [nI_1]
      refine V_keep [0, 1, 2, 3, 5, 6] ?_
      exact ih (x + 1) _ (by omega) kk
  have outer : ∀ (H0 : List Ce) (m q : Nat) (t : Int64), q + m = 4 → shR Bn wh P O p = fori (shQ Bn wh P O p) m q t → V l G k_Ad_share H0 5 [(0, .ref 13), (1, .ref 6), (2, .int (nI p)), (3, .long t), (5, .int (nI q))] [] (adH h n sp As Bn wh P O PB OB) (rl (shR Bn wh P O p)) (adH h n sp As Bn wh P O PB OB) := by
    intro H0 m
    induction m with
    | zero =>
      intro q t hq e
      obtain rfl : q = 4 := by omega
      rw [e]
      refine V_iload d_Ad_share_5 rfl ?_
      refine V_iconst (v := 4) d_Ad_share_7 (by decide) ?_
      refine V_icmp_ge (tgt := 85) d_Ad_share_8 (by decide) (fun _ => ?_) (fun c9 => absurd ((by decide : (4 : Int32) ≤ nI 4)) c9)
      refine V_lload_n d_Ad_share_85 rfl ?_
      exact V_lret d_Ad_share_86 rfl
    | succ m ih =>
      intro q t hq e
      have next : ∀ t' : Int64, t' = shQ Bn wh P O p q t → V l G k_Ad_share H0 79 [(0, .ref 13), (1, .ref 6), (2, .int (nI p)), (3, .long t'), (5, .int (nI q))] [] (adH h n sp As Bn wh P O PB OB) (rl (shR Bn wh P O p)) (adH h n sp As Bn wh P O PB OB) := by
        intro t' e'
        refine V_iinc1 d_Ad_share_79 rfl (by decide) rfl ?_
        refine V_goto (tgt := 5) d_Ad_share_82 (by decide) ?_
        rw [nI_1]
        exact ih (q + 1) t' (by omega) (by rw [e']; exact e)
      refine V_iload d_Ad_share_5 rfl ?_
      refine V_iconst (v := 4) d_Ad_share_7 (by decide) ?_
      refine V_icmp_ge (tgt := 85) d_Ad_share_8 (by decide) (fun c9 => absurd c9 ((nI_ge (b := 4) (by omega) (by decide) : ¬ (4 : Int32) ≤ nI q))) (fun _ => ?_)
      refine V_aload_n d_Ad_share_11 rfl ?_
      refine V_iload_n d_Ad_share_12 rfl ?_
      refine V_iload d_Ad_share_13 rfl ?_
      refine V_cV s_Ad_share_15 (do_Pl_isNoted (rd hL rfl rfl) (rd hL rfl rfl) hp (show q < 4 by omega)) (rd hL rfl rfl) rfl rfl (Nat.le_of_ble_eq_true rfl) ?_
      refine V_if_eq (tgt := 79) d_Ad_share_18 (by decide) (fun c1 => ?_) (fun c1 => ?_)
      · exact next t (by simp [shQ, (bI_0 _).mp c1])
      · have c1' : Bn (p * 4 + q) = true := by simpa [bI_0] using c1
        refine V_iconst (v := 0) d_Ad_share_21 (by decide) ?_
        refine V_istore d_Ad_share_22 (by decide) rfl ?_
        exact inner H0 q (by omega) 2 0 t (by omega) (next _ (by simp [shQ, c1']))
  refine V_lconst (v := 0) d_Ad_share_0 (by decide) ?_
  refine V_lstore_n d_Ad_share_1 (by decide) rfl ?_
  refine V_iconst (v := 0) d_Ad_share_2 (by decide) ?_
  refine V_istore d_Ad_share_3 (by decide) rfl ?_
  exact outer _ 4 0 0 (by omega) rfl
def toR (As Bn : Nat → Bool) (wh P O : Nat → Int32) (n : Nat) : Int64 := fori (fun p t => if As p then t else t + shR Bn wh P O p) n 0 0
theorem do_Ad_total (hL : 27 ≤ h.length) (hn : n ≤ 12) : Do l G k_Ad_total [.ref 13, .ref 6] (adH h n sp As Bn wh P O PB OB) (rl (toR As Bn wh P O n)) (adH h n sp As Bn wh P O PB OB) := by
  refine Do.of (by decide) (Nat.le_of_ble_eq_true rfl) kw_Ad_total ?_
  have loop : ∀ (H0 : List Ce) (m p : Nat) (t : Int64), p + m = n → toR As Bn wh P O n = fori (fun p t => if As p then t else t + shR Bn wh P O p) m p t → V l G k_Ad_total H0 5 [(0, .ref 13), (1, .ref 6), (2, .long t), (4, .int (nI p))] [] (adH h n sp As Bn wh P O PB OB) (rl (toR As Bn wh P O n)) (adH h n sp As Bn wh P O PB OB) := by
    intro H0 m
    induction m with
    | zero =>
      intro p t hp e
      obtain rfl : p = n := by omega
      rw [e]
      refine V_iload d_Ad_total_5 rfl ?_
      refine V_aload_n d_Ad_total_7 rfl ?_
      refine V_cV s_Ad_total_8 (do_Pl_number (rd hL rfl rfl)) (rd hL rfl rfl) rfl rfl (Nat.le_of_ble_eq_true rfl) ?_
      refine V_icmp_ge (tgt := 39) d_Ad_total_11 (by decide) (fun _ => ?_) (fun c9 => absurd ((nI_le (Nat.le_refl _) (by omega))) c9)
      refine V_lload_n d_Ad_total_39 rfl ?_
      exact V_lret d_Ad_total_40 rfl
    | succ m ih =>
      intro p t hp e
      have next : ∀ t' : Int64, t' = (if As p then t else t + shR Bn wh P O p) → V l G k_Ad_total H0 33 [(0, .ref 13), (1, .ref 6), (2, .long t'), (4, .int (nI p))] [] (adH h n sp As Bn wh P O PB OB) (rl (toR As Bn wh P O n)) (adH h n sp As Bn wh P O PB OB) := by
        intro t' e'
        refine V_iinc1 d_Ad_total_33 rfl (by decide) rfl ?_
        refine V_goto (tgt := 5) d_Ad_total_36 (by decide) ?_
        rw [nI_1]
        exact ih (p + 1) t' (by omega) (by rw [e']; exact e)
      refine V_iload d_Ad_total_5 rfl ?_
      refine V_aload_n d_Ad_total_7 rfl ?_
      refine V_cV s_Ad_total_8 (do_Pl_number (rd hL rfl rfl)) (rd hL rfl rfl) rfl rfl (Nat.le_of_ble_eq_true rfl) ?_
      refine V_icmp_ge (tgt := 39) d_Ad_total_11 (by decide) (fun c9 => absurd c9 ((nI_ge (by omega) (by omega) : ¬ nI n ≤ nI p))) (fun _ => ?_)
      refine V_aload_n d_Ad_total_14 rfl ?_
      refine V_iload d_Ad_total_15 rfl ?_
      refine V_cV s_Ad_total_17 (do_Pl_isSpare (rd hL rfl rfl) (rd hL rfl rfl) (show p < 12 by omega)) (rd hL rfl rfl) rfl rfl (Nat.le_of_ble_eq_true rfl) ?_
      refine V_if_ne (tgt := 33) d_Ad_total_20 (by decide) (fun c1 => ?_) (fun c1 => ?_)
      · have c1' : As p = true := by simpa [bI_0] using c1
        exact next t (by simp [c1'])
      · refine V_lload_n d_Ad_total_23 rfl ?_
        refine V_aload_n d_Ad_total_24 rfl ?_
        refine V_aload_n d_Ad_total_25 rfl ?_
        refine V_iload d_Ad_total_26 rfl ?_
        refine V_cV s_Ad_total_28 (do_Ad_share hL p (by omega)) (rd hL rfl rfl) rfl rfl (Nat.le_of_ble_eq_true rfl) ?_
        refine V_ladd d_Ad_total_31 ?_
        refine V_lstore_n d_Ad_total_32 (by decide) rfl ?_
        exact next _ (by simp [(bI_0 _).mp c1])
  refine V_lconst (v := 0) d_Ad_total_0 (by decide) ?_
  refine V_lstore_n d_Ad_total_1 (by decide) rfl ?_
  refine V_iconst (v := 0) d_Ad_total_2 (by decide) ?_
  refine V_istore d_Ad_total_3 (by decide) rfl ?_
  exact loop _ n 0 0 (by omega) rfl
end P16
