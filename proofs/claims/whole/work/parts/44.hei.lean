section P44
/-- rows and cells that are traced already are the same on both sides -/
def RD (w ht y x : Nat) (dD dF : Nat → Int32) (Dp : Nat → Nat) (Df : Nat → Int32) : Prop := ∀ y' x', x' < w → y' < ht → (y' < y ∨ (y' = y ∧ x ≤ x')) → dD (20 * y' + x') = nI (Dp (y' * w + x')) ∧ dF (20 * y' + x') = Df (y' * w + x')
theorem RD_step {w ht y x v : Nat} {dD dF : Nat → Int32} {Dp : Nat → Nat} {Df : Nat → Int32} {u : Int32} (hw : w ≤ 20) (hx : x < w) (h : RD w ht y (x + 1) dD dF Dp Df) : RD w ht y x (upd dD (20 * y + x) (nI v)) (upd dF (20 * y + x) u) (updN Dp (y * w + x) v) (upd Df (y * w + x) u) := by
  intro y' x' hx' hy' hc
  unfold upd updN
  by_cases e : y' = y ∧ x' = x
  · obtain ⟨rfl, rfl⟩ := e
    rw [if_pos rfl, if_pos rfl, if_pos rfl, if_pos rfl]
    exact ⟨rfl, rfl⟩
  · have n1 : ¬ 20 * y' + x' = 20 * y + x := by omega
    have n2 : ¬ y' * w + x' = y * w + x := fun q => e (rc_inj hx hx' q)
    rw [if_neg n1, if_neg n1, if_neg n2, if_neg n2]
    exact h y' x' hx' hy' (by omega)
theorem RD_next {w ht y : Nat} {dD dF : Nat → Int32} {Dp : Nat → Nat} {Df : Nat → Int32} (h : RD w ht y 0 dD dF Dp Df) : RD w ht (y + 1) w dD dF Dp Df := fun y' x' hx' hy' hc => h y' x' hx' hy' (by omega)
/-- what the class's row of costs is like -/
def CC (w : Nat) (g : Nat → Nat → Nat) (pn : Nat) (C : Nat → Int32) : Prop := ∀ x d, x < w → d < dAt x → C (x * 6 + d) = nI (Kc g pn x d)
theorem ba_C {w : Nat} {g : Nat → Nat → Nat} {pn : Nat} {C : Nat → Int32} (hw : w ≤ 20) (hg : ∀ x d, g x d ≤ 255) (hp : pn ≤ 100) (hC : CC w g pn C) {x d : Nat} (hx : x < w) (hd : d < 6) : baR C (nI pn) (x + 1) d = ((bst (fnK g pn x d) (dAt x)).1, nI (bst (fnK g pn x d) (dAt x)).2) :=
  ba_bst (fun e he => fnK_le hg hp (by omega) hd he) (fun e he => ca_n hd (by have := (dAt_le x).2.1; omega) (hC x e hx he) pn)
theorem ba_0 {w : Nat} {g : Nat → Nat → Nat} {pn : Nat} {C : Nat → Int32} (hw : 6 ≤ w ∧ w ≤ 20) (hg : ∀ x d, g x d ≤ 255) (hp : pn ≤ 100) (hC : CC w g pn C) : (baR C 0 w 0).1 = (bst (Kc g pn (w - 1)) 6).1 ∧ tbC C w = nI (bst (Kc g pn (w - 1)) 6).2 := by
  have h6 : dAt (w - 1) = 6 := by unfold dAt; rw [if_neg (by omega)]
  have hc : ∀ e, e < dAt (w - 1) → caR C 0 (w - 1 + 1) e 0 = nI (Kc g pn (w - 1) e) := fun e he => by
    have := ca_n (C := C) (g := g) (pn := pn) (x := w - 1) (e := e) (d := 0) (by omega) (by omega) (hC _ _ (by omega) he) 0
    rw [Nat.zero_mul, Nat.add_zero] at this
    exact this
  have hb : ∀ e, e < 6 → Kc g pn (w - 1) e ≤ 20000 := fun e he => by
    have := Kc_le hg hp (w - 1) e he
    omega
  have e1 := ba_bst hb hc
  rw [show w - 1 + 1 = w by omega, h6] at e1
  rw [show w - 1 + 1 = w by omega] at hc
  have sp := bst_spec (Kc g pn (w - 1)) 6 (by omega)
  refine ⟨by rw [e1], ?_⟩
  unfold tbC
  rw [e1]
  show caR C 0 w (bst (Kc g pn (w - 1)) 6).1 0 = _
  rw [hc _ (by omega), sp.2.1]
variable {l : Launch} {G : Gb} {h h0 h' : List Ce} {r : Rs} {th sx sy : Int32} {w ht sd pl ln : Nat} {md sh hi : Bool} {f mf dD dF mC C : Nat → Int32} {g : Nat → Nat → Nat} {pn : Nat}
theorem ix120w {e : Nat} (hw : 1 ≤ w ∧ w ≤ 20) (he : e < 6) : Ix (6 * (nI w - 1) + nI e) ((w - 1) * 6 + e) 120 := ⟨by rw [nIm1 hw.1, show (6 : Int32) = nI 6 from rfl, pk_mul, nI_add, Nat.mul_comm], by omega, by decide⟩
theorem ix400b {x y : Nat} (hx : x < 20) (hy : y < 20) : Ix (20 * nI y + nI x) (20 * y + x) 400 := ⟨by rw [show (20 : Int32) = nI 20 from rfl, pk_mul, nI_add], by omega, by decide⟩
theorem mo_trace_s (hL : 45 ≤ h.length) (hg : ∀ x d, g x d ≤ 255) (hp : pn ≤ 100) {a b y x last i : Nat} {cost rest : Int32} (hx : x < 19) (hl : last < 6) (hM : ∀ e, e < 6 → mC (x * 6 + e) = vC g pn (x * 6 + e)) (hi9 : i = (bst (fnK g pn x last) (dAt x)).1) (hr : rest = nI (bst (fnK g pn x last) (dAt x)).2) (H0 : List Ce) (kk : V l G k_Mo_trace H0 226 [(0, .ref 28), (1, .int (nI a)), (2, .int (nI b)), (3, .int (nI y)), (4, .int (nI pn)), (5, .int (nI last)), (6, .int cost), (7, .int (nI (x + 1))), (8, .int rest), (9, .int (nI i))] [] (moR h th w ht sd md pl sh sx sy ln hi mf dD dF mC) r h') : ∀ (j e : Nat), e + j = i → V l G k_Mo_trace H0 165 [(0, .ref 28), (1, .int (nI a)), (2, .int (nI b)), (3, .int (nI y)), (4, .int (nI pn)), (5, .int (nI last)), (6, .int cost), (7, .int (nI (x + 1))), (8, .int rest), (9, .int (nI e))] [] (moR h th w ht sd md pl sh sx sy ln hi mf dD dF mC) r h' := by
  have hdA := dAt_le x
  obtain ⟨s1, s2, s3, s4⟩ := bst_spec (fnK g pn x last) (dAt x) hdA.1
  rw [← hi9] at s1 s2 s3 s4
  intro j
  induction j with
  | zero =>
    intro e he
    obtain rfl : e = i := by omega
    have h1 := (dAt_iff (show e < 6 by omega)).mp s1
    have b1 := fnK_le hg hp (show x < 20 by omega) hl (show e < 6 by omega)
    have b2 := Kc_le hg hp x e (by omega)
    have hv : mC (x * 6 + e) = nI (Kc g pn x e) := by rw [hM e (by omega), vC_n (by omega), if_pos h1]
    refine V_iload d_Mo_trace_165 rfl ?_
    refine V_if_le (tgt := 226) d_Mo_trace_167 (by decide) (fun c9 => absurd c9 ((nI_nle (show 0 < x + 1 by omega) (by omega)))) (fun _ => ?_)
    refine V_aload_n d_Mo_trace_170 rfl ?_
    refine V_gf g_Mo_trace_171 (rd hL rfl rfl) rfl ?_
    refine V_bipush (v := 6) d_Mo_trace_174 (by decide) ?_
    refine V_iload d_Mo_trace_176 rfl ?_
    refine V_iconst (v := 1) d_Mo_trace_178 (by decide) ?_
    refine V_isub d_Mo_trace_179 ?_
    refine V_imul d_Mo_trace_180 ?_
    refine V_iload d_Mo_trace_181 rfl ?_
    refine V_iadd d_Mo_trace_183 ?_
    refine V_ialdN d_Mo_trace_184 (rd hL rfl rfl) (ix120s (show x < 20 by omega) (show e < 6 by omega)) ?_
    refine V_iconst (v := (-1)) d_Mo_trace_185 (by decide) ?_
    rw [hv]
    refine V_icmp_eq (tgt := 220) d_Mo_trace_186 (by decide) (fun c9 => absurd c9 ((nIn1 (by omega)))) (fun _ => ?_)
    refine V_aload_n d_Mo_trace_189 rfl ?_
    refine V_gf g_Mo_trace_190 (rd hL rfl rfl) rfl ?_
    refine V_bipush (v := 6) d_Mo_trace_193 (by decide) ?_
    refine V_iload d_Mo_trace_195 rfl ?_
    refine V_iconst (v := 1) d_Mo_trace_197 (by decide) ?_
    refine V_isub d_Mo_trace_198 ?_
    refine V_imul d_Mo_trace_199 ?_
    refine V_iload d_Mo_trace_200 rfl ?_
    refine V_iadd d_Mo_trace_202 ?_
    refine V_ialdN d_Mo_trace_203 (rd hL rfl rfl) (ix120s (show x < 20 by omega) (show e < 6 by omega)) ?_
    refine V_iload d_Mo_trace_204 rfl ?_
    refine V_iload d_Mo_trace_206 rfl ?_
    refine V_iload d_Mo_trace_208 rfl ?_
    refine V_cS s_Mo_trace_210 (mo_apart (nI last) (nI e)) rfl rfl (Nat.le_of_ble_eq_true rfl) ?_
    rw [hv, ap_dst (by omega) (by omega)]
    refine V_imul d_Mo_trace_213 ?_
    rw [pk_mul]
    refine V_iadd d_Mo_trace_214 ?_
    rw [nI_add]
    refine V_iload d_Mo_trace_215 rfl ?_
    refine V_icmp_eq (tgt := 226) d_Mo_trace_217 (by decide) (fun _ => ?_) (fun c9 => absurd ((by rw [hr, s2]; rfl)) c9)
    exact kk
  | succ j ih =>
    intro e he
    have h1 := (dAt_iff (show e < 6 by omega)).mp (show e < dAt x by omega)
    have b1 := fnK_le hg hp (show x < 20 by omega) hl (show e < 6 by omega)
    have b2 := Kc_le hg hp x e (by omega)
    have b3 := fnK_le hg hp (show x < 20 by omega) hl (show i < 6 by omega)
    have hv : mC (x * 6 + e) = nI (Kc g pn x e) := by rw [hM e (by omega), vC_n (by omega), if_pos h1]
    have h4 := s4 e (by omega)
    have hne : ¬ nI (Kc g pn x e + pn * dst last e) = rest := fun c => by
      rw [hr, s2] at c
      have c2 := congrArg Int32.toInt c
      rw [show Kc g pn x e + pn * dst last e = fnK g pn x last e from rfl, nI_toInt (by omega), nI_toInt (by omega)] at c2
      omega
    refine V_iload d_Mo_trace_165 rfl ?_
    refine V_if_le (tgt := 226) d_Mo_trace_167 (by decide) (fun c9 => absurd c9 ((nI_nle (show 0 < x + 1 by omega) (by omega)))) (fun _ => ?_)
    refine V_aload_n d_Mo_trace_170 rfl ?_
    refine V_gf g_Mo_trace_171 (rd hL rfl rfl) rfl ?_
    refine V_bipush (v := 6) d_Mo_trace_174 (by decide) ?_
    refine V_iload d_Mo_trace_176 rfl ?_
    refine V_iconst (v := 1) d_Mo_trace_178 (by decide) ?_
    refine V_isub d_Mo_trace_179 ?_
    refine V_imul d_Mo_trace_180 ?_
    refine V_iload d_Mo_trace_181 rfl ?_
    refine V_iadd d_Mo_trace_183 ?_
    refine V_ialdN d_Mo_trace_184 (rd hL rfl rfl) (ix120s (show x < 20 by omega) (show e < 6 by omega)) ?_
    refine V_iconst (v := (-1)) d_Mo_trace_185 (by decide) ?_
    rw [hv]
    refine V_icmp_eq (tgt := 220) d_Mo_trace_186 (by decide) (fun c9 => absurd c9 ((nIn1 (by omega)))) (fun _ => ?_)
    refine V_aload_n d_Mo_trace_189 rfl ?_
    refine V_gf g_Mo_trace_190 (rd hL rfl rfl) rfl ?_
    refine V_bipush (v := 6) d_Mo_trace_193 (by decide) ?_
    refine V_iload d_Mo_trace_195 rfl ?_
    refine V_iconst (v := 1) d_Mo_trace_197 (by decide) ?_
    refine V_isub d_Mo_trace_198 ?_
    refine V_imul d_Mo_trace_199 ?_
    refine V_iload d_Mo_trace_200 rfl ?_
    refine V_iadd d_Mo_trace_202 ?_
    refine V_ialdN d_Mo_trace_203 (rd hL rfl rfl) (ix120s (show x < 20 by omega) (show e < 6 by omega)) ?_
    refine V_iload d_Mo_trace_204 rfl ?_
    refine V_iload d_Mo_trace_206 rfl ?_
    refine V_iload d_Mo_trace_208 rfl ?_
    refine V_cS s_Mo_trace_210 (mo_apart (nI last) (nI e)) rfl rfl (Nat.le_of_ble_eq_true rfl) ?_
    rw [hv, ap_dst (by omega) (by omega)]
    refine V_imul d_Mo_trace_213 ?_
    rw [pk_mul]
    refine V_iadd d_Mo_trace_214 ?_
    rw [nI_add]
    refine V_iload d_Mo_trace_215 rfl ?_
    refine V_icmp_eq (tgt := 226) d_Mo_trace_217 (by decide) (fun c9 => absurd c9 (hne)) (fun _ => ?_)
    refine V_iinc1 d_Mo_trace_220 rfl (by decide) rfl ?_
    refine V_goto (tgt := 165) d_Mo_trace_223 (by decide) ?_
    rw [nI_1]
    exact ih (e + 1) (by omega)
theorem mo_trace_l (hL : 45 ≤ h.length) (hw : w ≤ 20) (hht : ht ≤ 20) (hR : Rv w ht f mf) {a b y : Nat} (ha : a < 4) (hb : b < 4) (hy : y < ht) (hp : pn ≤ 100) (hM : ∀ j, j < 6 * w → mC j = vC (gN f w ht a b y) pn j) (hC : CC w (gN f w ht a b y) pn C) : ∀ (m last : Nat) (dD dF : Nat → Int32) (s : Tb), m ≤ w → (0 < m → s.1 = last ∧ last ≤ m - 1 ∧ last < 6) → RD w ht y m dD dF s.2.1 s.2.2 → ∃ dD' dF', RD w ht y 0 dD' dF' (ford (tbS f C w ht a b y (nI pn)) m s).2.1 (ford (tbS f C w ht a b y (nI pn)) m s).2.2 ∧ ∀ (H0 : List Ce) (cost : Int32), V l G k_Mo_trace H0 92 [(0, .ref 28), (1, .int (nI a)), (2, .int (nI b)), (3, .int (nI y)), (4, .int (nI pn)), (5, .int (nI last)), (6, .int cost), (7, .int (nI m - 1))] [] (moR h th w ht sd md pl sh sx sy ln hi mf dD dF mC) (ri cost) (moR h th w ht sd md pl sh sx sy ln hi mf dD' dF' mC) := by
  have hg : ∀ x d, gN f w ht a b y x d ≤ 255 := gN_le f w ht a b y
  intro m
  induction m with
  | zero =>
    intro last dD dF s hm hs hD
    refine ⟨dD, dF, hD, fun H0 cost => ?_⟩
    refine V_iload d_Mo_trace_92 rfl ?_
    refine V_if_lt (tgt := 236) d_Mo_trace_94 (by decide) (fun _ => ?_) (fun c9 => absurd ((by decide : nI 0 - 1 < 0)) c9)
    refine V_iload d_Mo_trace_236 rfl ?_
    exact V_iret d_Mo_trace_238 rfl rfl
  | succ x ih =>
    intro last dD dF s hm hs hD
    obtain ⟨rfl, hl1, hl2⟩ := hs (by omega)
    rw [Nat.add_sub_cancel] at hl1
    obtain ⟨g1, g2⟩ := df_g hR ha hb (show x < w by omega) hy hl1
    have hb0 : 0 < x → (baR C (nI pn) x s.1).1 = (bst (fnK (gN f w ht a b y) pn (x - 1) s.1) (dAt (x - 1))).1 := fun hx => by
      have := ba_C hw hg hp hC (show x - 1 < w by omega) hl2
      rw [show x - 1 + 1 = x by omega] at this
      rw [this]
    have sp := bst_spec (fnK (gN f w ht a b y) pn (x - 1) s.1) (dAt (x - 1)) (dAt_le _).1
    have hdA := dAt_le (x - 1)
    obtain ⟨dD', dF', i1, i2⟩ := ih (if x = 0 then 0 else (bst (fnK (gN f w ht a b y) pn (x - 1) s.1) (dAt (x - 1))).1) (upd dD (20 * y + x) (nI s.1)) (upd dF (20 * y + x) (dfR f w ht a b x y s.1)) (tbS f C w ht a b y (nI pn) x s) (by omega) (fun hx => by
      rw [if_neg (by omega)]
      refine ⟨?_, by omega, by omega⟩
      show (if 0 < x then (baR C (nI pn) x s.1).1 else s.1) = _
      rw [if_pos hx]
      exact hb0 hx) (RD_step hw (by omega) hD)
    refine ⟨dD', dF', i1, fun H0 cost => ?_⟩
    have hnx : nI (x + 1) - 1 = nI x := by rw [nIm1 (by omega), Nat.add_sub_cancel]
    rw [hnx]
    have i3 := i2 H0 cost
    have hv : mC (x * 6 + s.1) = nI (Kc (gN f w ht a b y) pn x s.1) := by rw [hM _ (by omega), vC_n (by omega), if_pos hl1]
    refine V_iload d_Mo_trace_92 rfl ?_
    refine V_if_lt (tgt := 236) d_Mo_trace_94 (by decide) (fun c9 => absurd c9 ((nI_pos (by omega)))) (fun _ => ?_)
    refine V_aload_n d_Mo_trace_97 rfl ?_
    refine V_gf g_Mo_trace_98 (rd hL rfl rfl) rfl ?_
    refine V_bipush (v := 20) d_Mo_trace_101 (by decide) ?_
    refine V_iload_n d_Mo_trace_103 rfl ?_
    refine V_imul d_Mo_trace_104 ?_
    refine V_iload d_Mo_trace_105 rfl ?_
    refine V_iadd d_Mo_trace_107 ?_
    refine V_iload d_Mo_trace_108 rfl ?_
    refine V_iastN d_Mo_trace_110 (rd hL rfl rfl) (ix400b (show x < 20 by omega) (show y < 20 by omega)) ?_
    refine V_hS rfl ?_
    refine V_aload_n d_Mo_trace_111 rfl ?_
    refine V_gf g_Mo_trace_112 (rd hL rfl rfl) rfl ?_
    refine V_bipush (v := 20) d_Mo_trace_115 (by decide) ?_
    refine V_iload_n d_Mo_trace_117 rfl ?_
    refine V_imul d_Mo_trace_118 ?_
    refine V_iload d_Mo_trace_119 rfl ?_
    refine V_iadd d_Mo_trace_121 ?_
    refine V_aload_n d_Mo_trace_122 rfl ?_
    refine V_iload_n d_Mo_trace_123 rfl ?_
    refine V_iload_n d_Mo_trace_124 rfl ?_
    refine V_iload d_Mo_trace_125 rfl ?_
    refine V_iload_n d_Mo_trace_127 rfl ?_
    refine V_iload d_Mo_trace_128 rfl ?_
    refine V_cV s_Mo_trace_130 (mo_gap (rd hL rfl rfl) (rd hL rfl rfl) hR hw hht ha hb (show x < w by omega) hy hl1) (rd hL rfl rfl) rfl rfl (Nat.le_of_ble_eq_true rfl) ?_
    refine V_iastN d_Mo_trace_133 (rd hL rfl rfl) (ix400b (show x < 20 by omega) (show y < 20 by omega)) ?_
    refine V_hS rfl ?_
    refine V_aload_n d_Mo_trace_134 rfl ?_
    refine V_gf g_Mo_trace_135 (rd hL rfl rfl) rfl ?_
    refine V_bipush (v := 6) d_Mo_trace_138 (by decide) ?_
    refine V_iload d_Mo_trace_140 rfl ?_
    refine V_imul d_Mo_trace_142 ?_
    refine V_iload d_Mo_trace_143 rfl ?_
    refine V_iadd d_Mo_trace_145 ?_
    refine V_ialdN d_Mo_trace_146 (rd hL rfl rfl) (ix120 (show x < 20 by omega) hl2) ?_
    refine V_aload_n d_Mo_trace_147 rfl ?_
    refine V_gf g_Mo_trace_148 (rd hL rfl rfl) rfl ?_
    refine V_bipush (v := 20) d_Mo_trace_151 (by decide) ?_
    refine V_iload_n d_Mo_trace_153 rfl ?_
    refine V_imul d_Mo_trace_154 ?_
    refine V_iload d_Mo_trace_155 rfl ?_
    refine V_iadd d_Mo_trace_157 ?_
    refine V_ialdN d_Mo_trace_158 (rd hL rfl rfl) (ix400b (show x < 20 by omega) (show y < 20 by omega)) ?_
    rw [hv, pk_us]
    refine V_isub d_Mo_trace_159 ?_
    refine V_istore d_Mo_trace_160 (by decide) rfl ?_
    refine V_iconst (v := 0) d_Mo_trace_162 (by decide) ?_
    refine V_istore d_Mo_trace_163 (by decide) rfl ?_
    generalize hdF9 : upd dF (20 * y + x) (dfR f w ht a b x y s.1) = dF9 at i3
    cases x with
    | zero =>
      rw [if_pos rfl] at i3
      refine V_iload d_Mo_trace_165 rfl ?_
      refine V_if_le (tgt := 226) d_Mo_trace_167 (by decide) (fun _ => ?_) (fun c9 => absurd ((by decide : nI 0 ≤ 0)) c9)
      refine V_iload d_Mo_trace_226 rfl ?_
      refine V_istore d_Mo_trace_228 (by decide) rfl ?_
      refine V_iinc d_Mo_trace_230 rfl rfl (by decide) rfl ?_
      refine V_goto (tgt := 92) d_Mo_trace_233 (by decide) ?_
      rw [nI_m1]
      refine V_keep [0, 1, 2, 3, 4, 5, 6, 7] ?_
      exact i3
    | succ x =>
      rw [if_neg (by omega), Nat.add_sub_cancel] at i3
      have hre : nI (Kc (gN f w ht a b y) pn (x + 1) s.1) - dfR f w ht a b (x + 1) y s.1 = nI (bst (fnK (gN f w ht a b y) pn x s.1) (dAt x)).2 := by
        rw [g1, Kc_s, pk_sub (by omega)]
        congr 1
        omega
      rw [hre]
      refine mo_trace_s hL hg hp (show x < 19 by omega) hl2 (fun e he => hM _ (by omega)) rfl rfl H0 ?_ (bst (fnK (gN f w ht a b y) pn x s.1) (dAt x)).1 0 (by omega)
      refine V_iload d_Mo_trace_226 rfl ?_
      refine V_istore d_Mo_trace_228 (by decide) rfl ?_
      refine V_iinc d_Mo_trace_230 rfl rfl (by decide) rfl ?_
      refine V_goto (tgt := 92) d_Mo_trace_233 (by decide) ?_
      rw [nI_m1]
      refine V_keep [0, 1, 2, 3, 4, 5, 6, 7] ?_
      exact i3
theorem mo_trace (hL : 45 ≤ h.length) (hw : 6 ≤ w ∧ w ≤ 20) (hht : ht ≤ 20) (hR : Rv w ht f mf) {a b y : Nat} (ha : a < 4) (hb : b < 4) (hy : y < ht) (hp : pn ≤ 100) (hM : ∀ j, j < 6 * w → mC j = vC (gN f w ht a b y) pn j) (hC : CC w (gN f w ht a b y) pn C) (Dp : Nat → Nat) (Df : Nat → Int32) (hD : RD w ht y w dD dF Dp Df) : ∃ dD' dF', RD w ht y 0 dD' dF' (tbR f C w ht a b y (nI pn) Dp Df).2.1 (tbR f C w ht a b y (nI pn) Dp Df).2.2 ∧ Do l G k_Mo_trace [.ref 28, .int (nI a), .int (nI b), .int (nI y), .int (nI pn)] (moR h th w ht sd md pl sh sx sy ln hi mf dD dF mC) (ri (tbC C w)) (moR h th w ht sd md pl sh sx sy ln hi mf dD' dF' mC) := by
  have hg : ∀ x d, gN f w ht a b y x d ≤ 255 := gN_le f w ht a b y
  obtain ⟨q1, q2⟩ := ba_0 hw hg hp hC
  have hb9 : ∀ e, e < 6 → Kc (gN f w ht a b y) pn (w - 1) e ≤ 20000 := fun e he => by
    have := Kc_le hg hp (w - 1) e he
    omega
  have hm9 : ∀ e, e < 6 → mC ((w - 1) * 6 + e) = nI (Kc (gN f w ht a b y) pn (w - 1) e) := fun e he => by rw [hM _ (by omega), vC_n he, if_pos (by omega)]
  have sp6 := bst_spec (Kc (gN f w ht a b y) pn (w - 1)) 6 (by omega)
  obtain ⟨dD', dF', i1, i2⟩ := mo_trace_l (l := l) (G := G) (th := th) (sd := sd) (md := md) (pl := pl) (sh := sh) (sx := sx) (sy := sy) (ln := ln) (hi := hi) hL hw.2 hht hR ha hb hy hp hM hC w (bst (Kc (gN f w ht a b y) pn (w - 1)) 6).1 dD dF ((baR C 0 w 0).1, Dp, Df) (Nat.le_refl _) (fun _ => ⟨q1, by omega, by omega⟩) hD
  refine ⟨dD', dF', i1, ?_⟩
  refine Do.of (by decide) (Nat.le_of_ble_eq_true rfl) kw_Mo_trace ?_
  have loop : ∀ (H0 : List Ce) (m d : Nat), 1 ≤ d → d + m = 6 → V l G k_Mo_trace H0 6 [(0, .ref 28), (1, .int (nI a)), (2, .int (nI b)), (3, .int (nI y)), (4, .int (nI pn)), (5, .int (nI (bst (Kc (gN f w ht a b y) pn (w - 1)) d).1)), (6, .int (nI d))] [] (moR h th w ht sd md pl sh sx sy ln hi mf dD dF mC) (ri (tbC C w)) (moR h th w ht sd md pl sh sx sy ln hi mf dD' dF' mC) := by
    intro H0 m
    induction m with
    | zero =>
      intro d h1 h2
      obtain rfl : d = 6 := by omega
      refine V_iload d_Mo_trace_6 rfl ?_
      refine V_bipush (v := 6) d_Mo_trace_8 (by decide) ?_
      refine V_icmp_ge (tgt := 65) d_Mo_trace_10 (by decide) (fun _ => ?_) (fun c9 => absurd ((by decide : (6 : Int32) ≤ nI 6)) c9)
      refine V_aload_n d_Mo_trace_65 rfl ?_
      refine V_gf g_Mo_trace_66 (rd hL rfl rfl) rfl ?_
      refine V_bipush (v := 6) d_Mo_trace_69 (by decide) ?_
      refine V_aload_n d_Mo_trace_71 rfl ?_
      refine V_gf g_Mo_trace_72 (rd hL rfl rfl) rfl ?_
      refine V_iconst (v := 1) d_Mo_trace_75 (by decide) ?_
      refine V_isub d_Mo_trace_76 ?_
      refine V_imul d_Mo_trace_77 ?_
      refine V_iload d_Mo_trace_78 rfl ?_
      refine V_iadd d_Mo_trace_80 ?_
      refine V_ialdN d_Mo_trace_81 (rd hL rfl rfl) (ix120w (by omega) sp6.1) ?_
      rw [hm9 _ sp6.1, ← sp6.2.1, ← q2]
      refine V_istore d_Mo_trace_82 (by decide) rfl ?_
      refine V_aload_n d_Mo_trace_84 rfl ?_
      refine V_gf g_Mo_trace_85 (rd hL rfl rfl) rfl ?_
      refine V_iconst (v := 1) d_Mo_trace_88 (by decide) ?_
      refine V_isub d_Mo_trace_89 ?_
      refine V_istore d_Mo_trace_90 (by decide) rfl ?_
      exact i2 H0 (tbC C w)
    | succ m ih =>
      intro d h1 h2
      have sp := bst_spec (Kc (gN f w ht a b y) pn (w - 1)) d h1
      have b1 := hb9 d (by omega)
      have b2 := hb9 (bst (Kc (gN f w ht a b y) pn (w - 1)) d).1 (by omega)
      have i9 := ih (d + 1) (by omega) (by omega)
      rw [bst_s _ h1] at i9
      refine V_iload d_Mo_trace_6 rfl ?_
      refine V_bipush (v := 6) d_Mo_trace_8 (by decide) ?_
      refine V_icmp_ge (tgt := 65) d_Mo_trace_10 (by decide) (fun c9 => absurd c9 ((nI_ge (b := 6) (by omega) (by decide) : ¬ (6 : Int32) ≤ nI d))) (fun _ => ?_)
      refine V_aload_n d_Mo_trace_13 rfl ?_
      refine V_gf g_Mo_trace_14 (rd hL rfl rfl) rfl ?_
      refine V_bipush (v := 6) d_Mo_trace_17 (by decide) ?_
      refine V_aload_n d_Mo_trace_19 rfl ?_
      refine V_gf g_Mo_trace_20 (rd hL rfl rfl) rfl ?_
      refine V_iconst (v := 1) d_Mo_trace_23 (by decide) ?_
      refine V_isub d_Mo_trace_24 ?_
      refine V_imul d_Mo_trace_25 ?_
      refine V_iload d_Mo_trace_26 rfl ?_
      refine V_iadd d_Mo_trace_28 ?_
      refine V_ialdN d_Mo_trace_29 (rd hL rfl rfl) (ix120w (by omega) (show d < 6 by omega)) ?_
      refine V_aload_n d_Mo_trace_30 rfl ?_
      refine V_gf g_Mo_trace_31 (rd hL rfl rfl) rfl ?_
      refine V_bipush (v := 6) d_Mo_trace_34 (by decide) ?_
      refine V_aload_n d_Mo_trace_36 rfl ?_
      refine V_gf g_Mo_trace_37 (rd hL rfl rfl) rfl ?_
      refine V_iconst (v := 1) d_Mo_trace_40 (by decide) ?_
      refine V_isub d_Mo_trace_41 ?_
      refine V_imul d_Mo_trace_42 ?_
      refine V_iload d_Mo_trace_43 rfl ?_
      refine V_iadd d_Mo_trace_45 ?_
      refine V_ialdN d_Mo_trace_46 (rd hL rfl rfl) (ix120w (by omega) (show (bst (Kc (gN f w ht a b y) pn (w - 1)) d).1 < 6 by omega)) ?_
      rw [hm9 _ (by omega), hm9 _ (by omega)]
      by_cases c : Kc (gN f w ht a b y) pn (w - 1) d < (bst (Kc (gN f w ht a b y) pn (w - 1)) d).2
      · rw [if_pos c] at i9
        rw [sp.2.1] at c
        refine V_icmp_ge (tgt := 55) d_Mo_trace_47 (by decide) (fun c9 => absurd c9 ((nI_ge c (by omega)))) (fun _ => ?_)
        refine V_iload d_Mo_trace_50 rfl ?_
        refine V_goto (tgt := 57) d_Mo_trace_52 (by decide) ?_
        refine V_istore d_Mo_trace_57 (by decide) rfl ?_
        refine V_iinc1 d_Mo_trace_59 rfl (by decide) rfl ?_
        refine V_goto (tgt := 6) d_Mo_trace_62 (by decide) ?_
        rw [nI_1]
        exact i9
      · rw [if_neg c] at i9
        rw [sp.2.1] at c
        refine V_icmp_ge (tgt := 55) d_Mo_trace_47 (by decide) (fun _ => ?_) (fun c9 => absurd ((nI_le (by omega) (by omega))) c9)
        refine V_iload d_Mo_trace_55 rfl ?_
        refine V_istore d_Mo_trace_57 (by decide) rfl ?_
        refine V_iinc1 d_Mo_trace_59 rfl (by decide) rfl ?_
        refine V_goto (tgt := 6) d_Mo_trace_62 (by decide) ?_
        rw [nI_1]
        exact i9
  refine V_iconst (v := 0) d_Mo_trace_0 (by decide) ?_
  refine V_istore d_Mo_trace_1 (by decide) rfl ?_
  refine V_iconst (v := 1) d_Mo_trace_3 (by decide) ?_
  refine V_istore d_Mo_trace_4 (by decide) rfl ?_
  exact loop _ 5 1 (by omega) (by omega)
theorem mo_heights_p (c_Mo : h[27]? = some (MoO th w ht sd md pl sh sx sy ln hi)) (a b t : Int32) (A : Bool) (hA : A = (wiB a 0 3 && wiB b 0 3)) (kk : V l G k_Mo_heights h0 31 [(0, .ref 28), (1, .int a), (2, .int b), (3, .int t)] [.int (bI (A && wiB t 0 100 && true))] (h.set 27 (MoO (nI (gc A (wiB t 0 100) true)) w ht sd md pl sh sx sy ln hi)) r h') : V l G k_Mo_heights h0 0 [(0, .ref 28), (1, .int a), (2, .int b), (3, .int t)] [] h r h' := by
  have mid : V l G k_Mo_heights h0 20 [(0, .ref 28), (1, .int a), (2, .int b), (3, .int t)] [.int (bI A), .ref 28] h r h' := by
    refine V_iload_n d_Mo_heights_20 rfl ?_
    refine V_iconst (v := 0) d_Mo_heights_21 (by decide) ?_
    refine V_bipush (v := 100) d_Mo_heights_22 (by decide) ?_
    refine V_cS s_Mo_heights_24 (mo_within t 0 100) rfl rfl (Nat.le_of_ble_eq_true rfl) ?_
    refine V_iconst (v := 1) d_Mo_heights_27 (by decide) ?_
    refine V_cV s_Mo_heights_28 (mo_goes c_Mo A (wiB t 0 100) true) c_Mo rfl rfl (Nat.le_of_ble_eq_true rfl) ?_
    exact kk
  refine V_aload_n d_Mo_heights_0 rfl ?_
  refine V_iload_n d_Mo_heights_1 rfl ?_
  refine V_cS s_Mo_heights_2 (mo_isPhoto a) rfl rfl (Nat.le_of_ble_eq_true rfl) ?_
  refine V_if_eq (tgt := 19) d_Mo_heights_5 (by decide) (fun c1 => ?_) (fun c1 => ?_)
  · rw [show A = false by rw [hA, (bI_0 _).mp c1]; rfl] at mid
    refine V_iconst (v := 0) d_Mo_heights_19 (by decide) ?_
    exact mid
  · rw [(show wiB a 0 3 = true by simpa [bI_0] using c1), Bool.true_and] at hA
    refine V_iload_n d_Mo_heights_8 rfl ?_
    refine V_cS s_Mo_heights_9 (mo_isPhoto b) rfl rfl (Nat.le_of_ble_eq_true rfl) ?_
    refine V_if_eq (tgt := 19) d_Mo_heights_12 (by decide) (fun c2 => ?_) (fun c2 => ?_)
    · rw [show A = false by rw [hA, (bI_0 _).mp c2]] at mid
      refine V_iconst (v := 0) d_Mo_heights_19 (by decide) ?_
      exact mid
    · rw [show A = true by rw [hA]; simpa [bI_0] using c2] at mid
      refine V_iconst (v := 1) d_Mo_heights_15 (by decide) ?_
      refine V_goto (tgt := 20) d_Mo_heights_16 (by decide) ?_
      exact mid
theorem mo_heights_e (c_Mo : h[27]? = some (MoO th w ht sd md pl sh sx sy ln hi)) (a b t : Int32) (hE : ((wiB a 0 3 && wiB b 0 3) && wiB t 0 100 && true) = false) : Do l G k_Mo_heights [.ref 28, .int a, .int b, .int t] h (ri 0) (h.set 27 (MoO (nI (gc (wiB a 0 3 && wiB b 0 3) (wiB t 0 100) true)) w ht sd md pl sh sx sy ln hi)) := by
  refine Do.of (by decide) (Nat.le_of_ble_eq_true rfl) kw_Mo_heights ?_
  refine mo_heights_p c_Mo a b t _ rfl ?_
  refine V_if_ne (tgt := 36) d_Mo_heights_31 (by decide) (fun c9 => absurd (((bI_0 _).mpr hE)) c9) (fun _ => ?_)
  refine V_iconst (v := 0) d_Mo_heights_34 (by decide) ?_
  exact V_iret d_Mo_heights_35 rfl rfl
theorem mo_heights (hL : 45 ≤ h.length) (hw : 6 ≤ w ∧ w ≤ 20) (hht : ht ≤ 20) (hR : Rv w ht f mf) (a b : Nat) (ha : a < 4) (hb : b < 4) (hp : pn ≤ 100) (Dp : Nat → Nat) (Df C : Nat → Int32) (R : Ra) (hR9 : R = raR f w ht a b (nI pn) Dp Df C) : ∃ dD' dF' mC', Do l G k_Mo_heights [.ref 28, .int (nI a), .int (nI b), .int (nI pn)] (moR h th w ht sd md pl sh sx sy ln hi mf dD dF mC) (ri R.1) (moR h 0 w ht sd md pl sh sx sy ln true mf dD' dF' mC') ∧ RD w ht ht w dD' dF' R.2.1 R.2.2.1 := by
  have loop : ∀ (m y : Nat) (s : Ra) (dD dF mC : Nat → Int32), y + m = ht → RD w ht y w dD dF s.2.1 s.2.2.1 → R = fori (raS f w ht a b (nI pn)) m y s → ∃ dD' dF' mC', RD w ht ht w dD' dF' R.2.1 R.2.2.1 ∧ ∀ H0 : List Ce, V l G k_Mo_heights H0 42 [(0, .ref 28), (1, .int (nI a)), (2, .int (nI b)), (3, .int (nI pn)), (4, .int s.1), (5, .int (nI y))] [] (moR h 0 w ht sd md pl sh sx sy ln hi mf dD dF mC) (ri R.1) (moR h 0 w ht sd md pl sh sx sy ln true mf dD' dF' mC') := by
    intro m
    induction m with
    | zero =>
      intro y s dD dF mC hy hD e
      obtain rfl : y = ht := by omega
      have e' : R = s := e
      rw [e']
      refine ⟨dD, dF, mC, hD, fun H0 => ?_⟩
      refine V_iload d_Mo_heights_42 rfl ?_
      refine V_aload_n d_Mo_heights_44 rfl ?_
      refine V_gf g_Mo_heights_45 (rd hL rfl rfl) rfl ?_
      refine V_icmp_ge (tgt := 80) d_Mo_heights_48 (by decide) (fun _ => ?_) (fun c9 => absurd ((nI_le (Nat.le_refl _) (by omega))) c9)
      refine V_aload_n d_Mo_heights_80 rfl ?_
      refine V_iconst (v := 1) d_Mo_heights_81 (by decide) ?_
      refine V_pf p_Mo_heights_82 (rd hL rfl rfl) (Nat.le_of_ble_eq_true rfl) rfl rfl ?_
      refine V_hS rfl ?_
      refine V_iload d_Mo_heights_85 rfl ?_
      exact V_iret d_Mo_heights_87 rfl rfl
    | succ m ih =>
      intro y s dD dF mC hy hD e
      rw [fori_s] at e
      have hC9 : CC w (gN f w ht a b y) pn (fcR f w ht a b y (nI pn) s.2.2.2) := fc_pt hw.2 (gN_le f w ht a b y) hp (fun x d hx hd => (df_g hR ha hb hx (by omega) (by have := (dAt_le x).2.2; omega)).1) s.2.2.2
      have hM9 : ∀ j, j < 6 * w → fori (fun k f9 => upd f9 k (vC (gN f w ht a b y) pn k)) (6 * w) 0 mC j = vC (gN f w ht a b y) pn j := fun j hj => by rw [cp_pt, if_pos hj]
      obtain ⟨dD1, dF1, t1, t2⟩ := mo_trace (l := l) (G := G) (th := 0) (sd := sd) (md := md) (pl := pl) (sh := sh) (sx := sx) (sy := sy) (ln := ln) (hi := hi) hL hw hht hR ha hb (show y < ht by omega) hp hM9 hC9 s.2.1 s.2.2.1 hD
      have cr := mo_costRow (l := l) (G := G) (th := 0) (sd := sd) (md := md) (pl := pl) (sh := sh) (sx := sx) (sy := sy) (ln := ln) (hi := hi) (dD := dD) (dF := dF) (mC := mC) hL hw.2 hht hR ha hb (show y < ht by omega) hp
      obtain ⟨dD', dF', mC', i1, i2⟩ := ih (y + 1) (raS f w ht a b (nI pn) y s) dD1 dF1 _ (by omega) (RD_next t1) e
      refine ⟨dD', dF', mC', i1, fun H0 => ?_⟩
      have i3 := i2 H0
      refine V_iload d_Mo_heights_42 rfl ?_
      refine V_aload_n d_Mo_heights_44 rfl ?_
      refine V_gf g_Mo_heights_45 (rd hL rfl rfl) rfl ?_
      refine V_icmp_ge (tgt := 80) d_Mo_heights_48 (by decide) (fun c9 => absurd c9 ((nI_ge (by omega) (by omega) : ¬ nI ht ≤ nI y))) (fun _ => ?_)
      refine V_aload_n d_Mo_heights_51 rfl ?_
      refine V_iload_n d_Mo_heights_52 rfl ?_
      refine V_iload_n d_Mo_heights_53 rfl ?_
      refine V_iload d_Mo_heights_54 rfl ?_
      refine V_iload_n d_Mo_heights_56 rfl ?_
      refine V_cV s_Mo_heights_57 cr (rd hL rfl rfl) rfl rfl (Nat.le_of_ble_eq_true rfl) ?_
      refine V_iload d_Mo_heights_60 rfl ?_
      refine V_aload_n d_Mo_heights_62 rfl ?_
      refine V_iload_n d_Mo_heights_63 rfl ?_
      refine V_iload_n d_Mo_heights_64 rfl ?_
      refine V_iload d_Mo_heights_65 rfl ?_
      refine V_iload_n d_Mo_heights_67 rfl ?_
      refine V_cV s_Mo_heights_68 t2 (rd hL rfl rfl) rfl rfl (Nat.le_of_ble_eq_true rfl) ?_
      refine V_iadd d_Mo_heights_71 ?_
      refine V_istore d_Mo_heights_72 (by decide) rfl ?_
      refine V_iinc1 d_Mo_heights_74 rfl (by decide) rfl ?_
      refine V_goto (tgt := 42) d_Mo_heights_77 (by decide) ?_
      rw [nI_1]
      exact i3
  obtain ⟨dD', dF', mC', i1, i2⟩ := loop ht 0 (0, Dp, Df, C) dD dF mC (by omega) (fun y' x' h1 h2 h3 => by omega) hR9
  refine ⟨dD', dF', mC', ?_, i1⟩
  refine Do.of (by decide) (Nat.le_of_ble_eq_true rfl) kw_Mo_heights ?_
  have e1 : wiB (nI a) 0 3 = true := wi_n (b := 3) (by omega) (by decide)
  have e2 : wiB (nI b) 0 3 = true := wi_n (b := 3) (by omega) (by decide)
  have e3 : wiB (nI pn) 0 100 = true := wi_n (b := 100) (by omega) (by decide)
  refine mo_heights_p (rd hL rfl rfl) (nI a) (nI b) (nI pn) true (by rw [e1, e2]; rfl) ?_
  rw [e3]
  refine V_hS rfl ?_
  refine V_if_ne (tgt := 36) d_Mo_heights_31 (by decide) (fun _ => ?_) (fun c9 => absurd (c9 : _) ((by decide : ¬ bI (true && true && true) = 0)))
  refine V_iconst (v := 0) d_Mo_heights_36 (by decide) ?_
  refine V_istore d_Mo_heights_37 (by decide) rfl ?_
  refine V_iconst (v := 0) d_Mo_heights_39 (by decide) ?_
  refine V_istore d_Mo_heights_40 (by decide) rfl ?_
  exact i2 _
/-- depth -/
theorem mo_depth_e (hL : 45 ≤ h.length) (x y : Int32) (A : Bool) (hA : A = (wiB x 0 (nI w - 1) && wiB y 0 (nI ht - 1))) (hE : (A && hi && true) = false) : Do l G k_Mo_depth [.ref 28, .int x, .int y] (moH h th w ht sd md pl sh sx sy ln hi) (ri 0) (moH h (nI (gc A hi true)) w ht sd md pl sh sx sy ln hi) := by
  refine Do.of (by decide) (Nat.le_of_ble_eq_true rfl) kw_Mo_depth ?_
  refine V_aload_n d_Mo_depth_0 rfl ?_
  refine V_aload_n d_Mo_depth_1 rfl ?_
  refine V_iload_n d_Mo_depth_2 rfl ?_
  refine V_iload_n d_Mo_depth_3 rfl ?_
  refine V_cV s_Mo_depth_4 (mo_isCell (rd hL rfl rfl) x y) (rd hL rfl rfl) rfl rfl (Nat.le_of_ble_eq_true rfl) ?_
  refine V_aload_n d_Mo_depth_7 rfl ?_
  refine V_gf g_Mo_depth_8 (rd hL rfl rfl) rfl ?_
  refine V_iconst (v := 1) d_Mo_depth_11 (by decide) ?_
  rw [← hA]
  refine V_cV s_Mo_depth_12 (mo_goes (rd hL rfl rfl) A hi true) (rd hL rfl rfl) rfl rfl (Nat.le_of_ble_eq_true rfl) ?_
  refine V_hS rfl ?_
  refine V_if_eq (tgt := 32) d_Mo_depth_15 (by decide) (fun _ => ?_) (fun c9 => absurd (((bI_0 _).mpr hE)) c9)
  refine V_iconst (v := 0) d_Mo_depth_32 (by decide) ?_
  exact V_iret d_Mo_depth_33 rfl rfl
theorem mo_depth (hL : 45 ≤ h.length) (hw : w ≤ 20) (hht : ht ≤ 20) {x y : Nat} (hx : x < w) (hy : y < ht) : Do l G k_Mo_depth [.ref 28, .int (nI x), .int (nI y)] (moR h th w ht sd md pl sh sx sy ln true mf dD dF mC) (ri (dD (20 * y + x))) (moR h 0 w ht sd md pl sh sx sy ln true mf dD dF mC) := by
  refine Do.of (by decide) (Nat.le_of_ble_eq_true rfl) kw_Mo_depth ?_
  refine V_aload_n d_Mo_depth_0 rfl ?_
  refine V_aload_n d_Mo_depth_1 rfl ?_
  refine V_iload_n d_Mo_depth_2 rfl ?_
  refine V_iload_n d_Mo_depth_3 rfl ?_
  refine V_cV s_Mo_depth_4 (mo_isCell (rd hL rfl rfl) (nI x) (nI y)) (rd hL rfl rfl) rfl rfl (Nat.le_of_ble_eq_true rfl) ?_
  refine V_aload_n d_Mo_depth_7 rfl ?_
  refine V_gf g_Mo_depth_8 (rd hL rfl rfl) rfl ?_
  refine V_iconst (v := 1) d_Mo_depth_11 (by decide) ?_
  have e1 : (wiB (nI x) 0 (nI w - 1) && wiB (nI y) 0 (nI ht - 1)) = true := by rw [wi_has _ (by omega), wi_has _ (by omega), has_n hx (by omega), has_n hy (by omega)]; rfl
  rw [e1]
  refine V_cV s_Mo_depth_12 (mo_goes (rd hL rfl rfl) true true true) (rd hL rfl rfl) rfl rfl (Nat.le_of_ble_eq_true rfl) ?_
  refine V_hS rfl ?_
  refine V_if_eq (tgt := 32) d_Mo_depth_15 (by decide) (fun c9 => absurd c9 ((by decide : ¬ bI (true && true && true) = 0))) (fun _ => ?_)
  refine V_aload_n d_Mo_depth_18 rfl ?_
  refine V_gf g_Mo_depth_19 (rd hL rfl rfl) rfl ?_
  refine V_bipush (v := 20) d_Mo_depth_22 (by decide) ?_
  refine V_iload_n d_Mo_depth_24 rfl ?_
  refine V_imul d_Mo_depth_25 ?_
  refine V_iload_n d_Mo_depth_26 rfl ?_
  refine V_iadd d_Mo_depth_27 ?_
  refine V_ialdN d_Mo_depth_28 (rd hL rfl rfl) (ix400b (show x < 20 by omega) (show y < 20 by omega)) ?_
  refine V_goto (tgt := 33) d_Mo_depth_29 (by decide) ?_
  exact V_iret d_Mo_depth_33 rfl rfl
end P44
