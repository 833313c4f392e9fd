section P43
def dst (d e : Nat) : Nat := if e ≤ d then d - e else e - d
theorem dst_lt {d e : Nat} (hd : d < 6) (he : e < 6) : dst d e ≤ 5 := by unfold dst; split <;> omega
theorem ap_dst {d e : Nat} (hd : d < 1000) (he : e < 1000) : apR (nI d) (nI e) = nI (dst d e) := by
  unfold apR dst
  by_cases q : e ≤ d
  · rw [if_pos q]
    by_cases z : e = d
    · subst z
      rw [if_neg (nI_nlt (Nat.le_refl _) (by omega)), pk_sub (Nat.le_refl _)]
    · rw [if_pos (nI_lt (by omega) (by omega)), pk_sub q]
  · rw [if_neg q, if_neg (nI_nlt (by omega) (by omega)), pk_sub (by omega)]
theorem ab_dst {d e : Nat} (hd : d < 1000) (he : e < 1000) : ab (nI d - nI e) = nI (dst d e) := by rw [← ap_ab (by omega) (by omega), ap_dst hd he]
/-- the first of the least of fn 0 .. fn (n - 1) -/
def bst (fn : Nat → Nat) (n : Nat) : Nat × Nat := fori (fun e s => if fn e < s.2 then (e, fn e) else s) (n - 1) 1 (0, fn 0)
theorem bst_s (fn : Nat → Nat) {n : Nat} (hn : 1 ≤ n) : bst fn (n + 1) = if fn n < (bst fn n).2 then (n, fn n) else bst fn n := by
  unfold bst
  rw [show n + 1 - 1 = (n - 1) + 1 by omega, fori_snoc, show 1 + (n - 1) = n by omega]
theorem bst_spec (fn : Nat → Nat) : ∀ n, 1 ≤ n → (bst fn n).1 < n ∧ (bst fn n).2 = fn (bst fn n).1 ∧ (∀ j, j < n → fn (bst fn n).1 ≤ fn j) ∧ (∀ j, j < (bst fn n).1 → fn (bst fn n).1 < fn j)
  | 0, h => by omega
  | 1, _ => ⟨by show 0 < 1; omega, rfl, fun j hj => by obtain rfl : j = 0 := by omega
                                                       exact Nat.le_refl _, fun j hj => absurd hj (Nat.not_lt_zero _)⟩
  | n + 2, _ => by
    obtain ⟨h1, h2, h3, h4⟩ := bst_spec fn (n + 1) (by omega)
    rw [bst_s fn (by omega)]
    by_cases q : fn (n + 1) < (bst fn (n + 1)).2
    · rw [if_pos q]
      refine ⟨by show n + 1 < n + 2; omega, rfl, fun j hj => ?_, fun j hj => ?_⟩
      · show fn (n + 1) ≤ fn j
        rcases Nat.lt_or_ge j (n + 1) with z | z
        · have := h3 j z
          omega
        · obtain rfl : j = n + 1 := by omega
          exact Nat.le_refl _
      · show fn (n + 1) < fn j
        have := h3 j hj
        omega
    · rw [if_neg q]
      refine ⟨by omega, h2, fun j hj => ?_, h4⟩
      rcases Nat.lt_or_ge j (n + 1) with z | z
      · exact h3 j z
      · obtain rfl : j = n + 1 := by omega
        omega
theorem dAt_le (x : Nat) : 1 ≤ dAt x ∧ dAt x ≤ 6 ∧ dAt x ≤ x + 1 := by unfold dAt; split <;> omega
theorem dAt_iff {x d : Nat} (hd : d < 6) : d < dAt x ↔ d ≤ x := by unfold dAt; split <;> omega
/-- the least cost of a row up to x, if x has the depth d -/
def Kc (g : Nat → Nat → Nat) (pn : Nat) : Nat → Nat → Nat
  | 0, d => g 0 d
  | x + 1, d => g (x + 1) d + (bst (fun e => Kc g pn x e + pn * dst d e) (dAt x)).2
def fnK (g : Nat → Nat → Nat) (pn x d : Nat) : Nat → Nat := fun e => Kc g pn x e + pn * dst d e
theorem Kc_s (g : Nat → Nat → Nat) (pn x d : Nat) : Kc g pn (x + 1) d = g (x + 1) d + (bst (fnK g pn x d) (dAt x)).2 := rfl
theorem Kc_le {g : Nat → Nat → Nat} {pn : Nat} (hg : ∀ x d, g x d ≤ 255) (hp : pn ≤ 100) : ∀ x d, d < 6 → Kc g pn x d ≤ (x + 1) * 755
  | 0, d, hd => by
    have := hg 0 d
    show g 0 d ≤ _
    omega
  | x + 1, d, hd => by
    have h1 := hg (x + 1) d
    have h2 := (bst_spec (fnK g pn x d) (dAt x) (dAt_le x).1).2.2.1 0 (by have := (dAt_le x).1; omega)
    have h3 := (bst_spec (fnK g pn x d) (dAt x) (dAt_le x).1).2.1
    have h4 := Kc_le hg hp x 0 (by omega)
    have h5 := dst_lt hd (show 0 < 6 by omega)
    have h6 : pn * dst d 0 ≤ 100 * 5 := Nat.mul_le_mul hp h5
    have h7 : fnK g pn x d 0 = Kc g pn x 0 + pn * dst d 0 := rfl
    rw [Kc_s]
    omega
theorem fnK_le {g : Nat → Nat → Nat} {pn : Nat} (hg : ∀ x d, g x d ≤ 255) (hp : pn ≤ 100) {x d e : Nat} (hx : x < 20) (hd : d < 6) (he : e < 6) : fnK g pn x d e ≤ 20000 := by
  have h4 := Kc_le hg hp x e he
  have h6 : pn * dst d e ≤ 100 * 5 := Nat.mul_le_mul hp (dst_lt hd he)
  show Kc g pn x e + pn * dst d e ≤ _
  omega
theorem ca_n {C : Nat → Int32} {g : Nat → Nat → Nat} {pn x e d : Nat} (hd : d < 6) (he : e < 6) (hC : C (x * 6 + e) = nI (Kc g pn x e)) (pm : Nat) : caR C (nI pm) (x + 1) e d = nI (Kc g pn x e + pm * dst d e) := by
  unfold caR
  rw [Nat.add_sub_cancel, hC, ab_dst (by omega) (by omega), pk_mul, nI_add]
theorem ba_bst {C : Nat → Int32} {fn : Nat → Nat} {pen : Int32} {x d : Nat} (hb : ∀ e, e < 6 → fn e ≤ 20000) (hc : ∀ e, e < dAt x → caR C pen (x + 1) e d = nI (fn e)) : baR C pen (x + 1) d = ((bst fn (dAt x)).1, nI (bst fn (dAt x)).2) := by
  have hd := dAt_le x
  have key : ∀ n, 1 ≤ n → n ≤ dAt x → fori (baS C pen (x + 1) d) (n - 1) 1 (0, caR C pen (x + 1) 0 d) = ((bst fn n).1, nI (bst fn n).2) := by
    intro n
    induction n with
    | zero => intro h; omega
    | succ n ih =>
      intro h1 h2
      rcases Nat.eq_zero_or_pos n with z | z
      · subst z
        show (0, caR C pen (x + 1) 0 d) = (0, nI (fn 0))
        rw [hc 0 (by omega)]
      · rw [show n + 1 - 1 = (n - 1) + 1 by omega, fori_snoc, ih z (by omega), show 1 + (n - 1) = n by omega, bst_s fn z]
        have sp := bst_spec fn n z
        have b1 := hb n (by omega)
        have b2 := hb (bst fn n).1 (by omega)
        unfold baS
        rw [hc n (by omega)]
        by_cases q : fn n < (bst fn n).2
        · rw [if_pos q, if_pos (show nI (fn n) < nI (bst fn n).2 from nI_lt q (by omega))]
        · rw [if_neg q, if_neg (show ¬ nI (fn n) < nI (bst fn n).2 from nI_nlt (by omega) (by omega))]
  have := key (dAt x) hd.1 (Nat.le_refl _)
  unfold baR
  rw [Nat.add_sub_cancel]
  exact this
/-- the costs of a row, as the class has them -/
theorem fc_pt {f : Nat → Int32} {w ht a b y pn : Nat} {g : Nat → Nat → Nat} (hw : w ≤ 20) (hg : ∀ x d, g x d ≤ 255) (hp : pn ≤ 100) (hdf : ∀ x d, x < w → d < dAt x → dfR f w ht a b x y d = nI (g x d)) (C : Nat → Int32) : ∀ x d, x < w → d < dAt x → fcR f w ht a b y (nI pn) C (x * 6 + d) = nI (Kc g pn x d) := by
  have inv := fori_inv (f := fun x C => fori (fun d C => fcS f w ht a b y (nI pn) x d C) (dAt x) 0 C) (fun x C => ∀ x' d, x' < x → d < dAt x' → C (x' * 6 + d) = nI (Kc g pn x' d)) w 0 C (fun x C _ hx hC => by
    have in2 := fori_inv (f := fun d C => fcS f w ht a b y (nI pn) x d C) (fun d C => (∀ x' d', x' < x → d' < dAt x' → C (x' * 6 + d') = nI (Kc g pn x' d')) ∧ ∀ d', d' < d → C (x * 6 + d') = nI (Kc g pn x d')) (dAt x) 0 C (fun d C _ hd hC => by
      obtain ⟨h1, h2⟩ := hC
      have hd6 : d < 6 := by have := (dAt_le x).2.1; omega
      have ev : (if 0 < x then dfR f w ht a b x y d + caR C (nI pn) x (baR C (nI pn) x d).1 d else dfR f w ht a b x y d) = nI (Kc g pn x d) := by
        rw [hdf x d (by omega) (by omega)]
        cases x with
        | zero => rw [if_neg (by omega)]; rfl
        | succ x =>
          rw [if_pos (by omega)]
          have hc : ∀ e, e < dAt x → caR C (nI pn) (x + 1) e d = nI (fnK g pn x d e) := fun e he => ca_n hd6 (by have := (dAt_le x).2.1; omega) (h1 x e (by omega) he) pn
          rw [ba_bst (fun e he => fnK_le hg hp (by omega) hd6 he) hc]
          have sp := bst_spec (fnK g pn x d) (dAt x) (dAt_le x).1
          show nI (g (x + 1) d) + caR C (nI pn) (x + 1) (bst (fnK g pn x d) (dAt x)).1 d = _
          rw [hc _ sp.1, nI_add, Kc_s, sp.2.1]
      show (∀ x' d', x' < x → d' < dAt x' → fcS f w ht a b y (nI pn) x d C (x' * 6 + d') = _) ∧ ∀ d', d' < d + 1 → fcS f w ht a b y (nI pn) x d C (x * 6 + d') = _
      unfold fcS
      rw [ev]
      unfold upd
      refine ⟨fun x' d' hx' hd' => ?_, fun d' hd' => ?_⟩
      · have := (dAt_le x').2.1
        rw [if_neg (by omega)]
        exact h1 x' d' hx' hd'
      · by_cases q : d' = d
        · subst q
          rw [if_pos rfl]
        · rw [if_neg (by omega)]
          exact h2 d' (by omega)) ⟨hC, fun d' hd' => by omega⟩
    intro x' d hx' hd
    rw [Nat.zero_add] at in2
    rcases Nat.lt_or_ge x' x with z | z
    · exact in2.1 x' d z hd
    · obtain rfl : x' = x := by omega
      exact in2.2 d hd) (fun x' d hx' => by omega)
  rw [Nat.zero_add] at inv
  exact inv
/-- the gap of two cells, as a number -/
def gN (f : Nat → Int32) (w ht a b y x d : Nat) : Nat := (dfR f w ht a b x y d).toInt.toNat % 256
theorem gN_le (f : Nat → Int32) (w ht a b y x d : Nat) : gN f w ht a b y x d ≤ 255 := by unfold gN; omega
theorem df_g {f mf : Nat → Int32} {w ht a b x y d : Nat} (hR : Rv w ht f mf) (ha : a < 4) (hb : b < 4) (hx : x < w) (hy : y < ht) (hd : d ≤ x) : dfR f w ht a b x y d = nI (gN f w ht a b y x d) ∧ apR (mf (400 * a + 20 * y + x)) (mf (400 * b + 20 * y + (x - d))) = dfR f w ht a b x y d := by
  obtain ⟨e1, i, hi, e2⟩ := hR a x y ha hx hy
  obtain ⟨e3, j, hj, e4⟩ := hR b (x - d) y hb (by omega) hy
  have e5 : dfR f w ht a b x y d = nI (dst i j) := by
    unfold dfR
    rw [e2, e4, ab_dst (by omega) (by omega)]
  have e6 : dst i j ≤ 255 := by unfold dst; split <;> omega
  refine ⟨?_, ?_⟩
  · unfold gN
    rw [e5, nI_toInt (by omega), Int.toNat_natCast, Nat.mod_eq_of_lt (by omega)]
  · rw [e5, e1, e2, e3, e4, ap_dst (by omega) (by omega)]
variable {l : Launch} {G : Gb} {h h0 h' : List Ce} {r : Rs} {th sx sy : Int32} {w ht sd pl ln : Nat} {md sh hi : Bool} {f mf dD dF mC : Nat → Int32} {g : Nat → Nat → Nat} {pn : Nat}
theorem mo_gap (c_Mo : h[27]? = some (MoO th w ht sd md pl sh sx sy ln hi)) (a_Mo_values : h[28]? = some (IA 1600 mf)) (hR : Rv w ht f mf) (hw : w ≤ 20) (hht : ht ≤ 20) {a b x y d : Nat} (ha : a < 4) (hb : b < 4) (hx : x < w) (hy : y < ht) (hd : d ≤ x) : Do l G k_Mo_gap [.ref 28, .int (nI a), .int (nI b), .int (nI x), .int (nI y), .int (nI d)] h (ri (dfR f w ht a b x y d)) h := by
  refine Do.of (by decide) (Nat.le_of_ble_eq_true rfl) kw_Mo_gap ?_
  rw [← (df_g hR ha hb hx hy hd).2]
  refine V_aload_n d_Mo_gap_0 rfl ?_
  refine V_iload_n d_Mo_gap_1 rfl ?_
  refine V_iload_n d_Mo_gap_2 rfl ?_
  refine V_iload d_Mo_gap_3 rfl ?_
  refine V_cV s_Mo_gap_5 (mo_valueOf c_Mo a_Mo_values ha (show x < 20 by omega) (show y < 20 by omega)) c_Mo rfl rfl (Nat.le_of_ble_eq_true rfl) ?_
  refine V_aload_n d_Mo_gap_8 rfl ?_
  refine V_iload_n d_Mo_gap_9 rfl ?_
  refine V_iload_n d_Mo_gap_10 rfl ?_
  refine V_iload d_Mo_gap_11 rfl ?_
  refine V_isub d_Mo_gap_13 ?_
  rw [pk_sub hd]
  refine V_iload d_Mo_gap_14 rfl ?_
  refine V_cV s_Mo_gap_16 (mo_valueOf c_Mo a_Mo_values hb (show x - d < 20 by omega) (show y < 20 by omega)) c_Mo rfl rfl (Nat.le_of_ble_eq_true rfl) ?_
  refine V_cS s_Mo_gap_19 (mo_apart _ _) rfl rfl (Nat.le_of_ble_eq_true rfl) ?_
  exact V_iret d_Mo_gap_22 rfl rfl
theorem nIn1 {n : Nat} (h : n < 2 ^ 31) : ¬ nI n = -1 := fun q => by
  have := congrArg Int32.toInt q
  rw [nI_toInt h] at this
  have e : (-1 : Int32).toInt = -1 := rfl
  omega
theorem ix120 {x e : Nat} (hx : x < 20) (he : e < 6) : Ix (6 * nI x + nI e) (x * 6 + e) 120 := ⟨by rw [show (6 : Int32) = nI 6 from rfl, pk_mul, nI_add, Nat.mul_comm], by omega, by decide⟩
theorem ix120s {x e : Nat} (hx : x < 20) (he : e < 6) : Ix (6 * (nI (x + 1) - 1) + nI e) (x * 6 + e) 120 := ⟨by rw [nIm1 (by omega), Nat.add_sub_cancel, show (6 : Int32) = nI 6 from rfl, pk_mul, nI_add, Nat.mul_comm], by omega, by decide⟩
abbrev moR (h : List Ce) (th : Int32) (w ht sd : Nat) (md : Bool) (pl : Nat) (sh : Bool) (sx sy : Int32) (ln : Nat) (hi : Bool) (mf dD dF mC : Nat → Int32) : List Ce := hS h [(27, MoO th w ht sd md pl sh sx sy ln hi), (28, IA 1600 mf), (40, IA 400 dD), (41, IA 400 dF), (42, IA 120 mC)]
/-- what the model keeps in its row of costs -/
def vC (g : Nat → Nat → Nat) (pn j : Nat) : Int32 := if j % 6 ≤ j / 6 then nI (Kc g pn (j / 6) (j % 6)) else -1
theorem vC_n {g : Nat → Nat → Nat} {pn x e : Nat} (he : e < 6) : vC g pn (x * 6 + e) = if e ≤ x then nI (Kc g pn x e) else -1 := by
  unfold vC
  rw [show (x * 6 + e) % 6 = e by omega, show (x * 6 + e) / 6 = x by omega]
theorem mo_cost_e (hL : 45 ≤ h.length) (hg : ∀ x d, g x d ≤ 255) (hp : pn ≤ 100) {a b y k x d : Nat} (hx : x < 19) (hd : d < 6) (hC : ∀ e, e < 6 → mC (x * 6 + e) = vC g pn (x * 6 + e)) (H0 : List Ce) (kk : V l G k_Mo_costRow H0 122 [(0, .ref 28), (1, .int (nI a)), (2, .int (nI b)), (3, .int (nI y)), (4, .int (nI pn)), (5, .int (nI k)), (6, .int (nI (x + 1))), (7, .int (nI d)), (8, .int (nI (bst (fnK g pn x d) (dAt x)).2))] [] (moR h th w ht sd md pl sh sx sy ln hi mf dD dF mC) r h') : ∀ (m e : Nat) (L : Int32), e + m = 6 → (e = 0 → L = -1) → (0 < e → L = nI (bst (fnK g pn x d) (min e (dAt x))).2) → V l G k_Mo_costRow H0 44 [(0, .ref 28), (1, .int (nI a)), (2, .int (nI b)), (3, .int (nI y)), (4, .int (nI pn)), (5, .int (nI k)), (6, .int (nI (x + 1))), (7, .int (nI d)), (8, .int L), (9, .int (nI e))] [] (moR h th w ht sd md pl sh sx sy ln hi mf dD dF mC) r h' := by
  have hdA := dAt_le x
  intro m
  induction m with
  | zero =>
    intro e L he h1 h2
    obtain rfl : e = 6 := by omega
    rw [h2 (by omega), show min 6 (dAt x) = dAt x by omega]
    refine V_iload d_Mo_costRow_44 rfl ?_
    refine V_bipush (v := 6) d_Mo_costRow_46 (by decide) ?_
    refine V_icmp_ge (tgt := 122) d_Mo_costRow_48 (by decide) (fun _ => ?_) (fun c9 => absurd ((by decide : (6 : Int32) ≤ nI 6)) c9)
    refine V_keep [0, 1, 2, 3, 4, 5, 6, 7, 8] ?_
    exact kk
  | succ m ih =>
    intro e L he h1 h2
    have nx : ∀ (b9 v9 L9 : Int32), L9 = nI (bst (fnK g pn x d) (min (e + 1) (dAt x))).2 → V l G k_Mo_costRow H0 114 [(0, .ref 28), (1, .int (nI a)), (2, .int (nI b)), (3, .int (nI y)), (4, .int (nI pn)), (5, .int (nI k)), (6, .int (nI (x + 1))), (7, .int (nI d)), (8, .int L), (9, .int (nI e)), (10, .int b9), (11, .int v9)] [.int L9] (moR h th w ht sd md pl sh sx sy ln hi mf dD dF mC) r h' := by
      intro b9 v9 L9 e9
      refine V_istore d_Mo_costRow_114 (by decide) rfl ?_
      refine V_iinc1 d_Mo_costRow_116 rfl (by decide) rfl ?_
      refine V_goto (tgt := 44) d_Mo_costRow_119 (by decide) ?_
      rw [nI_1]
      refine V_keep [0, 1, 2, 3, 4, 5, 6, 7, 8, 9] ?_
      exact ih (e + 1) L9 (by omega) (by omega) (fun _ => e9)
    refine V_iload d_Mo_costRow_44 rfl ?_
    refine V_bipush (v := 6) d_Mo_costRow_46 (by decide) ?_
    refine V_icmp_ge (tgt := 122) d_Mo_costRow_48 (by decide) (fun c9 => absurd c9 ((nI_ge (b := 6) (by omega) (by decide) : ¬ (6 : Int32) ≤ nI e))) (fun _ => ?_)
    refine V_iload d_Mo_costRow_51 rfl ?_
    refine V_if_le (tgt := 122) d_Mo_costRow_53 (by decide) (fun c9 => absurd c9 ((nI_nle (show 0 < x + 1 by omega) (by omega)))) (fun _ => ?_)
    refine V_aload_n d_Mo_costRow_56 rfl ?_
    refine V_gf g_Mo_costRow_57 (rd hL rfl rfl) rfl ?_
    refine V_bipush (v := 6) d_Mo_costRow_60 (by decide) ?_
    refine V_iload d_Mo_costRow_62 rfl ?_
    refine V_iconst (v := 1) d_Mo_costRow_64 (by decide) ?_
    refine V_isub d_Mo_costRow_65 ?_
    refine V_imul d_Mo_costRow_66 ?_
    refine V_iload d_Mo_costRow_67 rfl ?_
    refine V_iadd d_Mo_costRow_69 ?_
    refine V_ialdN d_Mo_costRow_70 (rd hL rfl rfl) (ix120s (show x < 20 by omega) (show e < 6 by omega)) ?_
    rw [hC e (by omega), vC_n (by omega)]
    by_cases q : e ≤ x
    · have hed : e + 1 ≤ dAt x := (dAt_iff (show e < 6 by omega)).mpr q
      have hK := fnK_le hg hp (show x < 20 by omega) hd (show e < 6 by omega)
      have hK2 := Kc_le hg hp x e (by omega)
      rw [if_pos q]
      refine V_istore d_Mo_costRow_71 (by decide) rfl ?_
      refine V_iload d_Mo_costRow_73 rfl ?_
      refine V_iload d_Mo_costRow_75 rfl ?_
      refine V_iload d_Mo_costRow_77 rfl ?_
      refine V_iload d_Mo_costRow_79 rfl ?_
      refine V_cS s_Mo_costRow_81 (mo_apart (nI d) (nI e)) rfl rfl (Nat.le_of_ble_eq_true rfl) ?_
      rw [ap_dst (by omega) (by omega)]
      refine V_imul d_Mo_costRow_84 ?_
      rw [pk_mul]
      refine V_iadd d_Mo_costRow_85 ?_
      rw [nI_add]
      refine V_istore d_Mo_costRow_86 (by decide) rfl ?_
      refine V_iload d_Mo_costRow_88 rfl ?_
      refine V_iconst (v := (-1)) d_Mo_costRow_90 (by decide) ?_
      refine V_icmp_eq (tgt := 112) d_Mo_costRow_91 (by decide) (fun c9 => absurd c9 ((nIn1 (by omega)))) (fun _ => ?_)
      refine V_iload d_Mo_costRow_94 rfl ?_
      refine V_iconst (v := (-1)) d_Mo_costRow_96 (by decide) ?_
      rcases Nat.eq_zero_or_pos e with z | z
      · subst z
        refine V_icmp_eq (tgt := 107) d_Mo_costRow_97 (by decide) (fun _ => ?_) (fun c9 => absurd ((h1 rfl)) c9)
        refine V_iload d_Mo_costRow_107 rfl ?_
        refine V_goto (tgt := 114) d_Mo_costRow_109 (by decide) ?_
        exact nx _ _ _ (by rw [show min (0 + 1) (dAt x) = 1 by omega]; rfl)
      · have eL := h2 z
        rw [show min e (dAt x) = e by omega] at eL
        have sp := bst_spec (fnK g pn x d) e z
        have b2 := fnK_le hg hp (show x < 20 by omega) hd (show (bst (fnK g pn x d) e).1 < 6 by omega)
        have eN : min (e + 1) (dAt x) = e + 1 := by omega
        rw [eL] at nx ⊢
        refine V_icmp_eq (tgt := 107) d_Mo_costRow_97 (by decide) (fun c9 => absurd c9 ((nIn1 (by omega)))) (fun _ => ?_)
        refine V_iload d_Mo_costRow_100 rfl ?_
        refine V_iload d_Mo_costRow_102 rfl ?_
        by_cases c : fnK g pn x d e < (bst (fnK g pn x d) e).2
        · refine V_icmp_ge (tgt := 112) d_Mo_costRow_104 (by decide) (fun c9 => absurd c9 ((nI_ge c (by omega)))) (fun _ => ?_)
          refine V_iload d_Mo_costRow_107 rfl ?_
          refine V_goto (tgt := 114) d_Mo_costRow_109 (by decide) ?_
          exact nx _ _ _ (by rw [eN, bst_s _ z, if_pos c]; rfl)
        · refine V_icmp_ge (tgt := 112) d_Mo_costRow_104 (by decide) (fun _ => ?_) (fun c9 => absurd ((nI_le (show (bst (fnK g pn x d) e).2 ≤ fnK g pn x d e by omega) (by omega))) c9)
          refine V_iload d_Mo_costRow_112 rfl ?_
          exact nx _ _ _ (by rw [eN, bst_s _ z, if_neg c])
    · have hed : dAt x ≤ e := by
        rcases Nat.lt_or_ge e (dAt x) with z | z
        · exact absurd ((dAt_iff (by omega)).mp z) q
        · exact z
      rw [if_neg q]
      refine V_istore d_Mo_costRow_71 (by decide) rfl ?_
      refine V_iload d_Mo_costRow_73 rfl ?_
      refine V_iload d_Mo_costRow_75 rfl ?_
      refine V_iload d_Mo_costRow_77 rfl ?_
      refine V_iload d_Mo_costRow_79 rfl ?_
      refine V_cS s_Mo_costRow_81 (mo_apart (nI d) (nI e)) rfl rfl (Nat.le_of_ble_eq_true rfl) ?_
      refine V_imul d_Mo_costRow_84 ?_
      refine V_iadd d_Mo_costRow_85 ?_
      refine V_istore d_Mo_costRow_86 (by decide) rfl ?_
      refine V_iload d_Mo_costRow_88 rfl ?_
      refine V_iconst (v := (-1)) d_Mo_costRow_90 (by decide) ?_
      refine V_icmp_eq (tgt := 112) d_Mo_costRow_91 (by decide) (fun _ => ?_) (fun c9 => absurd ((rfl : (-1 : Int32) = -1)) c9)
      refine V_iload d_Mo_costRow_112 rfl ?_
      exact nx _ _ _ (by rw [h2 (by omega), show min (e + 1) (dAt x) = min e (dAt x) by omega])
theorem mo_costRow (hL : 45 ≤ h.length) (hw : w ≤ 20) (hht : ht ≤ 20) (hR : Rv w ht f mf) {a b y : Nat} (ha : a < 4) (hb : b < 4) (hy : y < ht) (hp : pn ≤ 100) : Do l G k_Mo_costRow [.ref 28, .int (nI a), .int (nI b), .int (nI y), .int (nI pn)] (moR h th w ht sd md pl sh sx sy ln hi mf dD dF mC) rv (moR h th w ht sd md pl sh sx sy ln hi mf dD dF (fori (fun k f9 => upd f9 k (vC (gN f w ht a b y) pn k)) (6 * w) 0 mC)) := by
  refine Do.of (by decide) (Nat.le_of_ble_eq_true rfl) kw_Mo_costRow ?_
  have hg : ∀ x d, gN f w ht a b y x d ≤ 255 := gN_le f w ht a b y
  have loop : ∀ (H0 : List Ce) (m k : Nat), k + m = 6 * w → V l G k_Mo_costRow H0 3 [(0, .ref 28), (1, .int (nI a)), (2, .int (nI b)), (3, .int (nI y)), (4, .int (nI pn)), (5, .int (nI k))] [] (moR h th w ht sd md pl sh sx sy ln hi mf dD dF (fori (fun k f9 => upd f9 k (vC (gN f w ht a b y) pn k)) k 0 mC)) rv (moR h th w ht sd md pl sh sx sy ln hi mf dD dF (fori (fun k f9 => upd f9 k (vC (gN f w ht a b y) pn k)) (6 * w) 0 mC)) := by
    intro H0 m
    induction m with
    | zero =>
      intro k hk
      obtain rfl : k = 6 * w := by omega
      refine V_iload d_Mo_costRow_3 rfl ?_
      refine V_bipush (v := 6) d_Mo_costRow_5 (by decide) ?_
      refine V_aload_n d_Mo_costRow_7 rfl ?_
      refine V_gf g_Mo_costRow_8 (rd hL rfl rfl) rfl ?_
      refine V_imul d_Mo_costRow_11 ?_
      rw [show (6 : Int32) = nI 6 from rfl, pk_mul]
      refine V_icmp_ge (tgt := 160) d_Mo_costRow_12 (by decide) (fun _ => ?_) (fun c9 => absurd ((nI_le (by omega) (by omega) : nI (6 * w) ≤ nI (6 * w))) c9)
      exact V_vret d_Mo_costRow_160 rfl
    | succ m ih =>
      intro k hk
      have i2 := ih (k + 1) (by omega)
      rw [fori_snoc _ k, Nat.zero_add] at i2
      have hpt : ∀ j, j < k → fori (fun k f9 => upd f9 k (vC (gN f w ht a b y) pn k)) k 0 mC j = vC (gN f w ht a b y) pn j := fun j hj => by rw [cp_pt, if_pos hj]
      generalize fori (fun k f9 => upd f9 k (vC (gN f w ht a b y) pn k)) k 0 mC = mK at i2 hpt
      generalize fori (fun k f9 => upd f9 k (vC (gN f w ht a b y) pn k)) (6 * w) 0 mC = mE at i2
      have fin : ∀ L : Int32, (k % 6 ≤ k / 6 → L + nI (gN f w ht a b y (k / 6) (k % 6)) = nI (Kc (gN f w ht a b y) pn (k / 6) (k % 6))) → V l G k_Mo_costRow H0 122 [(0, .ref 28), (1, .int (nI a)), (2, .int (nI b)), (3, .int (nI y)), (4, .int (nI pn)), (5, .int (nI k)), (6, .int (nI (k / 6))), (7, .int (nI (k % 6))), (8, .int L)] [] (moR h th w ht sd md pl sh sx sy ln hi mf dD dF mK) rv (moR h th w ht sd md pl sh sx sy ln hi mf dD dF mE) := by
        intro L e9
        refine V_aload_n d_Mo_costRow_122 rfl ?_
        refine V_gf g_Mo_costRow_123 (rd hL rfl rfl) rfl ?_
        refine V_iload d_Mo_costRow_126 rfl ?_
        refine V_iload d_Mo_costRow_128 rfl ?_
        refine V_iload d_Mo_costRow_130 rfl ?_
        by_cases q : k % 6 ≤ k / 6
        · refine V_icmp_le (tgt := 139) d_Mo_costRow_132 (by decide) (fun _ => ?_) (fun c9 => absurd ((nI_le q (by omega))) c9)
          rw [vC, if_pos q] at i2
          refine V_iload d_Mo_costRow_139 rfl ?_
          refine V_aload_n d_Mo_costRow_141 rfl ?_
          refine V_iload_n d_Mo_costRow_142 rfl ?_
          refine V_iload_n d_Mo_costRow_143 rfl ?_
          refine V_iload d_Mo_costRow_144 rfl ?_
          refine V_iload_n d_Mo_costRow_146 rfl ?_
          refine V_iload d_Mo_costRow_147 rfl ?_
          refine V_cV s_Mo_costRow_149 (mo_gap (rd hL rfl rfl) (rd hL rfl rfl) hR hw hht ha hb (show k / 6 < w by omega) hy q) (rd hL rfl rfl) rfl rfl (Nat.le_of_ble_eq_true rfl) ?_
          rw [(df_g hR ha hb (show k / 6 < w by omega) hy q).1]
          refine V_iadd d_Mo_costRow_152 ?_
          rw [e9 q]
          refine V_iastN d_Mo_costRow_153 (rd hL rfl rfl) (Ix.of (show k < 120 by omega) (by decide)) ?_
          refine V_hS rfl ?_
          refine V_iinc1 d_Mo_costRow_154 rfl (by decide) rfl ?_
          refine V_goto (tgt := 3) d_Mo_costRow_157 (by decide) ?_
          rw [nI_1]
          refine V_keep [0, 1, 2, 3, 4, 5] ?_
          exact i2
        · refine V_icmp_le (tgt := 139) d_Mo_costRow_132 (by decide) (fun c9 => absurd c9 ((nI_ge (by omega) (by omega)))) (fun _ => ?_)
          rw [vC, if_neg q] at i2
          refine V_iconst (v := (-1)) d_Mo_costRow_135 (by decide) ?_
          refine V_goto (tgt := 153) d_Mo_costRow_136 (by decide) ?_
          refine V_iastN d_Mo_costRow_153 (rd hL rfl rfl) (Ix.of (show k < 120 by omega) (by decide)) ?_
          refine V_hS rfl ?_
          refine V_iinc1 d_Mo_costRow_154 rfl (by decide) rfl ?_
          refine V_goto (tgt := 3) d_Mo_costRow_157 (by decide) ?_
          rw [nI_1]
          refine V_keep [0, 1, 2, 3, 4, 5] ?_
          exact i2
      refine V_iload d_Mo_costRow_3 rfl ?_
      refine V_bipush (v := 6) d_Mo_costRow_5 (by decide) ?_
      refine V_aload_n d_Mo_costRow_7 rfl ?_
      refine V_gf g_Mo_costRow_8 (rd hL rfl rfl) rfl ?_
      refine V_imul d_Mo_costRow_11 ?_
      rw [show (6 : Int32) = nI 6 from rfl, pk_mul]
      refine V_icmp_ge (tgt := 160) d_Mo_costRow_12 (by decide) (fun c9 => absurd c9 ((nI_ge (by omega) (by omega) : ¬ nI (6 * w) ≤ nI k))) (fun _ => ?_)
      refine V_iload d_Mo_costRow_15 rfl ?_
      refine V_bipush (v := 6) d_Mo_costRow_17 (by decide) ?_
      refine V_idiv d_Mo_costRow_19 (by decide) ?_
      refine V_istore d_Mo_costRow_20 (by decide) rfl ?_
      refine V_iload d_Mo_costRow_22 rfl ?_
      refine V_bipush (v := 6) d_Mo_costRow_24 (by decide) ?_
      refine V_irem d_Mo_costRow_26 (by decide) ?_
      rw [show (6 : Int32) = nI 6 from rfl, pk_rem (by omega) (by decide) (by decide), pk_div (by omega) (by decide) (by decide)]
      refine V_istore d_Mo_costRow_27 (by decide) rfl ?_
      refine V_iload d_Mo_costRow_29 rfl ?_
      rcases Nat.eq_zero_or_pos (k / 6) with z | z
      · refine V_if_ne (tgt := 38) d_Mo_costRow_31 (by decide) (fun c9 => absurd ((by rw [z]; rfl)) c9) (fun _ => ?_)
        refine V_iconst (v := 0) d_Mo_costRow_34 (by decide) ?_
        refine V_goto (tgt := 39) d_Mo_costRow_35 (by decide) ?_
        refine V_istore d_Mo_costRow_39 (by decide) rfl ?_
        refine V_iconst (v := 0) d_Mo_costRow_41 (by decide) ?_
        refine V_istore d_Mo_costRow_42 (by decide) rfl ?_
        refine V_iload d_Mo_costRow_44 rfl ?_
        refine V_bipush (v := 6) d_Mo_costRow_46 (by decide) ?_
        refine V_icmp_ge (tgt := 122) d_Mo_costRow_48 (by decide) (fun c9 => absurd c9 ((by decide : ¬ (6 : Int32) ≤ 0))) (fun _ => ?_)
        refine V_iload d_Mo_costRow_51 rfl ?_
        refine V_if_le (tgt := 122) d_Mo_costRow_53 (by decide) (fun _ => ?_) (fun c9 => absurd ((by rw [z]; decide)) c9)
        refine V_keep [0, 1, 2, 3, 4, 5, 6, 7, 8] ?_
        exact fin 0 (fun q => by
          rw [show k % 6 = 0 by omega, z]
          rw [show (0 : Int32) = nI 0 from rfl, nI_add, Nat.zero_add]
          rfl)
      · obtain ⟨x, hx⟩ : ∃ x, k / 6 = x + 1 := ⟨k / 6 - 1, by omega⟩
        refine V_if_ne (tgt := 38) d_Mo_costRow_31 (by decide) (fun _ => ?_) (fun c9 => absurd (c9 : _) ((nI_ne0 z (by omega))))
        rw [hx] at fin ⊢
        have hmK : ∀ e, e < 6 → mK (x * 6 + e) = vC (gN f w ht a b y) pn (x * 6 + e) := fun e he => hpt _ (by omega)
        have ce := fun kk => mo_cost_e (l := l) (G := G) (th := th) (w := w) (ht := ht) (sd := sd) (md := md) (pl := pl) (sh := sh) (sx := sx) (sy := sy) (ln := ln) (hi := hi) (mf := mf) (dD := dD) (dF := dF) (a := a) (b := b) (y := y) (k := k) (r := rv) (h' := moR h th w ht sd md pl sh sx sy ln hi mf dD dF mE) hL hg hp (show x < 19 by omega) (show k % 6 < 6 by omega) hmK H0 kk 6 0 (-1) (by omega) (fun _ => rfl) (fun q => by omega)
        refine V_iconst (v := (-1)) d_Mo_costRow_38 (by decide) ?_
        refine V_istore d_Mo_costRow_39 (by decide) rfl ?_
        refine V_iconst (v := 0) d_Mo_costRow_41 (by decide) ?_
        refine V_istore d_Mo_costRow_42 (by decide) rfl ?_
        refine ce (fin _ (fun q => ?_))
        rw [nI_add, Nat.add_comm, Kc_s]
  refine V_iconst (v := 0) d_Mo_costRow_0 (by decide) ?_
  refine V_istore d_Mo_costRow_1 (by decide) rfl ?_
  exact loop _ (6 * w) 0 (by omega)
end P43
