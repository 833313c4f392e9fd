section P19
variable {l : Launch} {G : Gb} {h : List Ce} {w ht : Nat} {f C Df : Nat → Int32} {Dp : Nat → Nat} {op : Nat → Bool} {qu : Nat → Int32} {qd : Int32} {ra : Bool}
abbrev ReO (w ht : Nat) (qd : Int32) (ra : Bool) : Ce := .inr (5, [.int (nI w), .int (nI ht), .ref 23, .ref 24, .ref 25, .int (nI (w + 2)), .ref 26, .ref 27, .int qd, .int (bI ra)])
theorem do_Re_isRaised (c_Re : h[21]? = some (ReO w ht qd ra)) : Do l G k_Re_isRaised [.ref 22] h (rz ra) h := by
  refine Do.of (by decide) (Nat.le_of_ble_eq_true rfl) kw_Re_isRaised ?_
  refine V_aload_n d_Re_isRaised_0 rfl ?_
  refine V_gf g_Re_isRaised_1 c_Re rfl ?_
  exact V_iret d_Re_isRaised_4 rfl (by first | rfl | exact bI_n _)
theorem cell_lt {x y : Nat} (hx : x < w) (hy : y < ht) : y * w + x < w * ht := by
  have h1 : (y + 1) * w ≤ ht * w := Nat.mul_le_mul_right _ (by omega)
  have h2 : (y + 1) * w = y * w + w := by rw [Nat.add_mul, Nat.one_mul]
  have h3 : ht * w = w * ht := Nat.mul_comm _ _
  omega
theorem wh_lt (hw : w ≤ 20) (hht : ht ≤ 20) : w * ht < 2 ^ 31 := by
  have : w * ht ≤ 20 * 20 := Nat.mul_le_mul hw hht
  omega
theorem do_Re_depthOf (c_Re : h[21]? = some (ReO w ht qd ra)) (a_Re_depths : h[22]? = some (NA (w * ht) Dp)) (hw : w ≤ 20) (hht : ht ≤ 20) (x y : Nat) (hx : x < w) (hy : y < ht) : Do l G k_Re_depthOf [.ref 22, .int (nI x), .int (nI y)] h (ri (nI (Dp (y * w + x)))) h := by
  refine Do.of (by decide) (Nat.le_of_ble_eq_true rfl) kw_Re_depthOf ?_
  refine V_aload_n d_Re_depthOf_0 rfl ?_
  refine V_gf g_Re_depthOf_1 c_Re rfl ?_
  refine V_iload_n d_Re_depthOf_4 rfl ?_
  refine V_aload_n d_Re_depthOf_5 rfl ?_
  refine V_gf g_Re_depthOf_6 c_Re rfl ?_
  refine V_imul d_Re_depthOf_9 ?_
  refine V_iload_n d_Re_depthOf_10 rfl ?_
  refine V_iadd d_Re_depthOf_11 ?_
  refine V_ialdN d_Re_depthOf_12 a_Re_depths (⟨by rw [pk_mul, nI_add], cell_lt hx hy, wh_lt hw hht⟩) ?_
  exact V_iret d_Re_depthOf_13 rfl rfl
def dAt (x : Nat) : Nat := if x + 1 < 6 then x + 1 else 6
theorem do_Re_depthsAt (x : Nat) (hx : x < 1000) : Do l G k_Re_depthsAt [.int (nI x)] h (ri (nI (dAt x))) h := by
  refine Do.of (by decide) (Nat.le_of_ble_eq_true rfl) kw_Re_depthsAt ?_
  have e : (if nI x + 1 < 6 then nI x + 1 else 6) = nI (dAt x) := by
    rw [nI_1, show (6 : Int32) = nI 6 from rfl]
    unfold dAt
    by_cases q : x + 1 < 6
    · rw [if_pos q, if_pos ((nI_ltI (by omega) (by decide)).mpr q)]
    · rw [if_neg q, if_neg (fun z => q ((nI_ltI (by omega) (by decide)).mp z))]
  rw [← e]
  refine V_bipush (v := 6) d_Re_depthsAt_0 (by decide) ?_
  refine V_iload_n d_Re_depthsAt_2 rfl ?_
  refine V_iconst (v := 1) d_Re_depthsAt_3 (by decide) ?_
  refine V_iadd d_Re_depthsAt_4 ?_
  refine V_min s_Re_depthsAt_5 (Nat.le_of_ble_eq_true rfl) ?_
  exact V_iret d_Re_depthsAt_8 rfl rfl
/-- a depth's difference -/
def dfR (f : Nat → Int32) (w ht a b x y d : Nat) : Int32 := ab (f (px w ht a x y) - f (px w ht b (x - d) y))
theorem do_Re_difference (c_Ph : h[1]? = some (PhO w ht)) (a_Ph_values : h[2]? = some (IA (4 * ht * w) f)) (hw : w ≤ 20) (hht : ht ≤ 20) (a b x y d : Nat) (ha : a < 4) (hb : b < 4) (hx : x < w) (hy : y < ht) (hd : d ≤ x) : Do l G k_Re_difference [.ref 2, .int (nI a), .int (nI b), .int (nI x), .int (nI y), .int (nI d)] h (ri (dfR f w ht a b x y d)) h := by
  refine Do.of (by decide) (Nat.le_of_ble_eq_true rfl) kw_Re_difference ?_
  have hN : 4 * ht * w < 2 ^ 31 := by
    have : 4 * ht * w ≤ 4 * 20 * 20 := Nat.mul_le_mul (Nat.mul_le_mul_left _ hht) hw
    omega
  refine V_aload_n d_Re_difference_0 rfl ?_
  refine V_iload_n d_Re_difference_1 rfl ?_
  refine V_iload_n d_Re_difference_2 rfl ?_
  refine V_iload d_Re_difference_3 rfl ?_
  refine V_cV s_Re_difference_5 (do_Ph_value c_Ph a_Ph_values a x y (px_lt ha hx hy) hN) c_Ph rfl rfl (Nat.le_of_ble_eq_true rfl) ?_
  refine V_aload_n d_Re_difference_8 rfl ?_
  refine V_iload_n d_Re_difference_9 rfl ?_
  refine V_iload_n d_Re_difference_10 rfl ?_
  refine V_iload d_Re_difference_11 rfl ?_
  refine V_isub d_Re_difference_13 ?_
  rw [pk_sub hd]
  refine V_iload d_Re_difference_14 rfl ?_
  refine V_cV s_Re_difference_16 (do_Ph_value c_Ph a_Ph_values b (x - d) y (px_lt hb (by omega) hy) hN) c_Ph rfl rfl (Nat.le_of_ble_eq_true rfl) ?_
  refine V_isub d_Re_difference_19 ?_
  refine V_abs s_Re_difference_20 (Nat.le_of_ble_eq_true rfl) ?_
  exact V_iret d_Re_difference_23 rfl rfl
/-- the cost of the cell ahead, with the step to it -/
def caR (C : Nat → Int32) (pen : Int32) (x e d : Nat) : Int32 := C ((x - 1) * 6 + e) + pen * ab (nI d - nI e)
theorem do_Re_costAhead (c_Re : h[21]? = some (ReO w ht qd ra)) (a_Re_costs : h[24]? = some (IA (w * 6) C)) (hw : w ≤ 20) (x e d : Nat) (pen : Int32) (hx : 1 ≤ x ∧ x ≤ w) (he : e < 6) : Do l G k_Re_costAhead [.ref 22, .int (nI x), .int (nI e), .int (nI d), .int pen] h (ri (caR C pen x e d)) h := by
  refine Do.of (by decide) (Nat.le_of_ble_eq_true rfl) kw_Re_costAhead ?_
  refine V_aload_n d_Re_costAhead_0 rfl ?_
  refine V_gf g_Re_costAhead_1 c_Re rfl ?_
  refine V_iload_n d_Re_costAhead_4 rfl ?_
  refine V_iconst (v := 1) d_Re_costAhead_5 (by decide) ?_
  refine V_isub d_Re_costAhead_6 ?_
  rw [nIm1 hx.1]
  refine V_bipush (v := 6) d_Re_costAhead_7 (by decide) ?_
  refine V_imul d_Re_costAhead_9 ?_
  refine V_iload_n d_Re_costAhead_10 rfl ?_
  refine V_iadd d_Re_costAhead_11 ?_
  refine V_ialdN d_Re_costAhead_12 a_Re_costs (⟨by rw [show (6 : Int32) = nI 6 from rfl, pk_mul, nI_add], by omega, by omega⟩) ?_
  refine V_iload d_Re_costAhead_13 rfl ?_
  refine V_iload_n d_Re_costAhead_15 rfl ?_
  refine V_iload_n d_Re_costAhead_16 rfl ?_
  refine V_isub d_Re_costAhead_17 ?_
  refine V_abs s_Re_costAhead_18 (Nat.le_of_ble_eq_true rfl) ?_
  refine V_imul d_Re_costAhead_21 ?_
  refine V_iadd d_Re_costAhead_22 ?_
  exact V_iret d_Re_costAhead_23 rfl rfl
abbrev Ba : Type := Nat × Int32
def baS (C : Nat → Int32) (pen : Int32) (x d e : Nat) (s : Ba) : Ba := if caR C pen x e d < s.2 then (e, caR C pen x e d) else s
def baR (C : Nat → Int32) (pen : Int32) (x d : Nat) : Ba := fori (baS C pen x d) (dAt (x - 1) - 1) 1 (0, caR C pen x 0 d)
theorem do_Re_bestAhead (c_Re : h[21]? = some (ReO w ht qd ra)) (a_Re_costs : h[24]? = some (IA (w * 6) C)) (hw : w ≤ 20) (x d : Nat) (pen : Int32) (hx : 1 ≤ x ∧ x ≤ w) : Do l G k_Re_bestAhead [.ref 22, .int (nI x), .int (nI d), .int pen] h (ri (nI (baR C pen x d).1)) h := by
  refine Do.of (by decide) (Nat.le_of_ble_eq_true rfl) kw_Re_bestAhead ?_
  have hdA : dAt (x - 1) ≤ 6 ∧ 1 ≤ dAt (x - 1) := by unfold dAt; split <;> omega
  have loop : ∀ (m e : Nat) (s : Ba), e + m = dAt (x - 1) → baR C pen x d = fori (baS C pen x d) m e s → V l G k_Re_bestAhead h 16 [(0, .ref 22), (1, .int (nI x)), (2, .int (nI d)), (3, .int pen), (4, .int (nI s.1)), (5, .int s.2), (6, .int (nI e))] [] h (ri (nI (baR C pen x d).1)) h := by
    intro m
    induction m with
    | zero =>
      intro e s he e2
      rw [show baR C pen x d = s from e2]
      refine V_iload d_Re_bestAhead_16 rfl ?_
      refine V_iload_n d_Re_bestAhead_18 rfl ?_
      refine V_iconst (v := 1) d_Re_bestAhead_19 (by decide) ?_
      refine V_isub d_Re_bestAhead_20 ?_
      rw [nIm1 hx.1]
      refine V_cS s_Re_bestAhead_21 (do_Re_depthsAt (x - 1) (by omega)) rfl rfl (Nat.le_of_ble_eq_true rfl) ?_
      refine V_icmp_ge (tgt := 59) d_Re_bestAhead_24 (by decide) (fun _ => ?_) (fun c9 => absurd ((nI_le (by omega) (by omega) : nI (dAt (x - 1)) ≤ nI e)) c9)
      refine V_iload d_Re_bestAhead_59 rfl ?_
      exact V_iret d_Re_bestAhead_61 rfl rfl
    | succ m ih =>
      intro e s he e2
      rw [fori_s] at e2
      have next : ∀ s' : Ba, s' = baS C pen x d e s → V l G k_Re_bestAhead h 53 [(0, .ref 22), (1, .int (nI x)), (2, .int (nI d)), (3, .int pen), (4, .int (nI s'.1)), (5, .int s'.2), (6, .int (nI e))] [] h (ri (nI (baR C pen x d).1)) h := by
        intro s' e'
        refine V_iinc1 d_Re_bestAhead_53 rfl (by decide) rfl ?_
        refine V_goto (tgt := 16) d_Re_bestAhead_56 (by decide) ?_
        rw [nI_1]
        exact ih (e + 1) s' (by omega) (by rw [e']; exact e2)
      refine V_iload d_Re_bestAhead_16 rfl ?_
      refine V_iload_n d_Re_bestAhead_18 rfl ?_
      refine V_iconst (v := 1) d_Re_bestAhead_19 (by decide) ?_
      refine V_isub d_Re_bestAhead_20 ?_
      rw [nIm1 hx.1]
      refine V_cS s_Re_bestAhead_21 (do_Re_depthsAt (x - 1) (by omega)) rfl rfl (Nat.le_of_ble_eq_true rfl) ?_
      refine V_icmp_ge (tgt := 59) d_Re_bestAhead_24 (by decide) (fun c9 => absurd c9 ((nI_ge (by omega) (by omega) : ¬ nI (dAt (x - 1)) ≤ nI e))) (fun _ => ?_)
      refine V_aload_n d_Re_bestAhead_27 rfl ?_
      refine V_iload_n d_Re_bestAhead_28 rfl ?_
      refine V_iload d_Re_bestAhead_29 rfl ?_
      refine V_iload_n d_Re_bestAhead_31 rfl ?_
      refine V_iload_n d_Re_bestAhead_32 rfl ?_
      refine V_cV s_Re_bestAhead_33 (do_Re_costAhead c_Re a_Re_costs hw x e d pen hx (by omega)) c_Re rfl rfl (Nat.le_of_ble_eq_true rfl) ?_
      refine V_istore d_Re_bestAhead_36 (by decide) rfl ?_
      refine V_iload d_Re_bestAhead_38 rfl ?_
      refine V_iload d_Re_bestAhead_40 rfl ?_
      refine V_icmp_ge (tgt := 53) d_Re_bestAhead_42 (by decide) (fun c1 => ?_) (fun c1 => ?_)
      · refine V_keep [0, 1, 2, 3, 4, 5, 6] ?_
        exact next s (by unfold baS; rw [if_neg (nlt_iff.mpr c1)])
      · refine V_iload d_Re_bestAhead_45 rfl ?_
        refine V_istore d_Re_bestAhead_47 (by decide) rfl ?_
        refine V_iload d_Re_bestAhead_49 rfl ?_
        refine V_istore d_Re_bestAhead_51 (by decide) rfl ?_
        refine V_keep [0, 1, 2, 3, 4, 5, 6] ?_
        exact next (e, caR C pen x e d) (by unfold baS; rw [if_pos (nle_iff.mp c1)])
  refine V_iconst (v := 0) d_Re_bestAhead_0 (by decide) ?_
  refine V_istore d_Re_bestAhead_1 (by decide) rfl ?_
  refine V_aload_n d_Re_bestAhead_3 rfl ?_
  refine V_iload_n d_Re_bestAhead_4 rfl ?_
  refine V_iconst (v := 0) d_Re_bestAhead_5 (by decide) ?_
  refine V_iload_n d_Re_bestAhead_6 rfl ?_
  refine V_iload_n d_Re_bestAhead_7 rfl ?_
  refine V_cV s_Re_bestAhead_8 (do_Re_costAhead c_Re a_Re_costs hw x 0 d pen hx (by decide)) c_Re rfl rfl (Nat.le_of_ble_eq_true rfl) ?_
  refine V_istore d_Re_bestAhead_11 (by decide) rfl ?_
  refine V_iconst (v := 1) d_Re_bestAhead_13 (by decide) ?_
  refine V_istore d_Re_bestAhead_14 (by decide) rfl ?_
  exact loop (dAt (x - 1) - 1) 1 (0, caR C pen x 0 d) (by omega) rfl
theorem baR_lt (C : Nat → Int32) (pen : Int32) (x d : Nat) : ∀ (m e : Nat) (s : Ba), s.1 < e → (fori (baS C pen x d) m e s).1 < e + m
  | 0, _, _, hs => hs
  | m + 1, e, s, hs => by
    rw [fori_s]
    have h1 : (baS C pen x d e s).1 < e + 1 := by
      unfold baS
      split
      · exact Nat.lt_succ_self e
      · omega
    have := baR_lt C pen x d m (e + 1) (baS C pen x d e s) h1
    omega
theorem ba_lt (C : Nat → Int32) (pen : Int32) (x d : Nat) (hx : 1 ≤ x) : (baR C pen x d).1 < 6 ∧ (baR C pen x d).1 < x := by
  have hdA : dAt (x - 1) ≤ 6 ∧ 1 ≤ dAt (x - 1) ∧ dAt (x - 1) ≤ x := by unfold dAt; split <;> omega
  have := baR_lt C pen x d (dAt (x - 1) - 1) 1 (0, caR C pen x 0 d) (show 0 < 1 by decide)
  unfold baR
  omega
/-- one cost -/
def fcS (f : Nat → Int32) (w ht a b y : Nat) (pen : Int32) (x d : Nat) (C : Nat → Int32) : Nat → Int32 := upd C (x * 6 + d) (if 0 < x then dfR f w ht a b x y d + caR C pen x (baR C pen x d).1 d else dfR f w ht a b x y d)
def fcR (f : Nat → Int32) (w ht a b y : Nat) (pen : Int32) (C : Nat → Int32) : Nat → Int32 := fori (fun x C => fori (fun d C => fcS f w ht a b y pen x d C) (dAt x) 0 C) w 0 C
abbrev reH (h : List Ce) (w ht : Nat) (f : Nat → Int32) (qd : Int32) (ra : Bool) (Dp : Nat → Nat) (Df C : Nat → Int32) (op : Nat → Bool) (qu : Nat → Int32) : List Ce := hS h [(1, PhO w ht), (2, IA (4 * ht * w) f), (21, ReO w ht qd ra), (22, NA (w * ht) Dp), (23, IA (w * ht) Df), (24, IA (w * 6) C), (25, ZA ((w + 2) * (ht + 2)) op), (26, IA (w * ht) qu)]
theorem do_Re_fillCosts (hL : 27 ≤ h.length) (hw : w ≤ 20) (hht : ht ≤ 20) (a b y : Nat) (pen : Int32) (ha : a < 4) (hb : b < 4) (hy : y < ht) : Do l G k_Re_fillCosts [.ref 22, .ref 2, .int (nI a), .int (nI b), .int (nI y), .int pen] (reH h w ht f qd ra Dp Df C op qu) rv (reH h w ht f qd ra Dp Df (fcR f w ht a b y pen C) op qu) := by
  refine Do.of (by decide) (Nat.le_of_ble_eq_true rfl) kw_Re_fillCosts ?_
  have inner : ∀ (H0 H9 : List Ce) (x : Nat), x < w → ∀ (m d : Nat) (C : Nat → Int32), d + m = dAt x → V l G k_Re_fillCosts H0 94 [(0, .ref 22), (1, .ref 2), (2, .int (nI a)), (3, .int (nI b)), (4, .int (nI y)), (5, .int pen), (6, .int (nI x))] [] (reH h w ht f qd ra Dp Df (fori (fun d C => fcS f w ht a b y pen x d C) m d C) op qu) rv H9 → V l G k_Re_fillCosts H0 15 [(0, .ref 22), (1, .ref 2), (2, .int (nI a)), (3, .int (nI b)), (4, .int (nI y)), (5, .int pen), (6, .int (nI x)), (7, .int (nI d))] [] (reH h w ht f qd ra Dp Df C op qu) rv H9 := by
    intro H0 H9 x hx m
    have hdA : dAt x ≤ 6 ∧ dAt x ≤ x + 1 := by unfold dAt; split <;> omega
    induction m with
    | zero =>
      intro d C hd kk
      refine V_iload d_Re_fillCosts_15 rfl ?_
      refine V_iload d_Re_fillCosts_17 rfl ?_
      refine V_cS s_Re_fillCosts_19 (do_Re_depthsAt x (by omega)) rfl rfl (Nat.le_of_ble_eq_true rfl) ?_
      refine V_icmp_ge (tgt := 94) d_Re_fillCosts_22 (by decide) (fun _ => ?_) (fun c9 => absurd ((nI_le (by omega) (by omega) : nI (dAt x) ≤ nI d)) c9)
      exact V_keep [0, 1, 2, 3, 4, 5, 6] kk
    | succ m ih =>
      intro d C hd kk
      rw [fori_s] at kk
      refine V_iload d_Re_fillCosts_15 rfl ?_
      refine V_iload d_Re_fillCosts_17 rfl ?_
      refine V_cS s_Re_fillCosts_19 (do_Re_depthsAt x (by omega)) rfl rfl (Nat.le_of_ble_eq_true rfl) ?_
      refine V_icmp_ge (tgt := 94) d_Re_fillCosts_22 (by decide) (fun c9 => absurd c9 ((nI_ge (by omega) (by omega) : ¬ nI (dAt x) ≤ nI d))) (fun _ => ?_)
      refine V_aload_n d_Re_fillCosts_25 rfl ?_
      refine V_iload_n d_Re_fillCosts_26 rfl ?_
      refine V_iload_n d_Re_fillCosts_27 rfl ?_
      refine V_iload d_Re_fillCosts_28 rfl ?_
      refine V_iload d_Re_fillCosts_30 rfl ?_
      refine V_iload d_Re_fillCosts_32 rfl ?_
      refine V_cS s_Re_fillCosts_34 (do_Re_difference (rd hL rfl rfl) (rd hL rfl rfl) hw hht a b x y d ha hb hx hy (by omega)) rfl rfl (Nat.le_of_ble_eq_true rfl) ?_
      refine V_istore d_Re_fillCosts_37 (by decide) rfl ?_
      refine V_iload d_Re_fillCosts_39 rfl ?_
      have next : ∀ c : Int32, c = (if 0 < x then dfR f w ht a b x y d + caR C pen x (baR C pen x d).1 d else dfR f w ht a b x y d) → V l G k_Re_fillCosts H0 73 [(0, .ref 22), (1, .ref 2), (2, .int (nI a)), (3, .int (nI b)), (4, .int (nI y)), (5, .int pen), (6, .int (nI x)), (7, .int (nI d)), (8, .int c)] [] (reH h w ht f qd ra Dp Df C op qu) rv H9 := by
        intro c hc
        have es : fcS f w ht a b y pen x d C = upd C (x * 6 + d) c := by rw [hc]; rfl
        rw [es] at kk
        refine V_aload_n d_Re_fillCosts_73 rfl ?_
        refine V_gf g_Re_fillCosts_74 (rd hL rfl rfl) rfl ?_
        refine V_iload d_Re_fillCosts_77 rfl ?_
        refine V_bipush (v := 6) d_Re_fillCosts_79 (by decide) ?_
        refine V_imul d_Re_fillCosts_81 ?_
        refine V_iload d_Re_fillCosts_82 rfl ?_
        refine V_iadd d_Re_fillCosts_84 ?_
        refine V_iload d_Re_fillCosts_85 rfl ?_
        refine V_iastN d_Re_fillCosts_87 (rd hL rfl rfl) (⟨by rw [show (6 : Int32) = nI 6 from rfl, pk_mul, nI_add], show x * 6 + d < w * 6 by omega, by omega⟩) ?_
        refine V_hS rfl ?_
        refine V_iinc1 d_Re_fillCosts_88 rfl (by decide) rfl ?_
        refine V_goto (tgt := 15) d_Re_fillCosts_91 (by decide) ?_
        rw [nI_1]
        refine V_keep [0, 1, 2, 3, 4, 5, 6, 7] ?_
        exact ih (d + 1) _ (by omega) kk
      rcases Nat.eq_zero_or_pos x with q | q
      · refine V_if_le (tgt := 73) d_Re_fillCosts_41 (by decide) (fun _ => ?_) (fun c9 => absurd ((by subst q; decide : nI x ≤ 0)) c9)
        exact next _ (by rw [if_neg (by omega)])
      · refine V_if_le (tgt := 73) d_Re_fillCosts_41 (by decide) (fun c9 => absurd c9 ((nI_nle q (by omega) : ¬ nI x ≤ 0))) (fun _ => ?_)
        refine V_aload_n d_Re_fillCosts_44 rfl ?_
        refine V_iload d_Re_fillCosts_45 rfl ?_
        refine V_iload d_Re_fillCosts_47 rfl ?_
        refine V_iload d_Re_fillCosts_49 rfl ?_
        refine V_cV s_Re_fillCosts_51 (do_Re_bestAhead (rd hL rfl rfl) (rd hL rfl rfl) hw x d pen ⟨q, by omega⟩) (rd hL rfl rfl) rfl rfl (Nat.le_of_ble_eq_true rfl) ?_
        refine V_istore d_Re_fillCosts_54 (by decide) rfl ?_
        refine V_iload d_Re_fillCosts_56 rfl ?_
        refine V_aload_n d_Re_fillCosts_58 rfl ?_
        refine V_iload d_Re_fillCosts_59 rfl ?_
        refine V_iload d_Re_fillCosts_61 rfl ?_
        refine V_iload d_Re_fillCosts_63 rfl ?_
        refine V_iload d_Re_fillCosts_65 rfl ?_
        refine V_cV s_Re_fillCosts_67 (do_Re_costAhead (rd hL rfl rfl) (rd hL rfl rfl) hw x (baR C pen x d).1 d pen ⟨q, by omega⟩ (ba_lt C pen x d q).1) (rd hL rfl rfl) rfl rfl (Nat.le_of_ble_eq_true rfl) ?_
        refine V_iadd d_Re_fillCosts_70 ?_
        refine V_istore d_Re_fillCosts_71 (by decide) rfl ?_
        refine V_keep [0, 1, 2, 3, 4, 5, 6, 7, 8] ?_
        exact next _ (by rw [if_pos q])
  have outer : ∀ (H0 : List Ce) (m x : Nat) (C9 : Nat → Int32), x + m = w → fcR f w ht a b y pen C = fori (fun x C => fori (fun d C => fcS f w ht a b y pen x d C) (dAt x) 0 C) m x C9 → V l G k_Re_fillCosts H0 3 [(0, .ref 22), (1, .ref 2), (2, .int (nI a)), (3, .int (nI b)), (4, .int (nI y)), (5, .int pen), (6, .int (nI x))] [] (reH h w ht f qd ra Dp Df C9 op qu) rv (reH h w ht f qd ra Dp Df (fcR f w ht a b y pen C) op qu) := by
    intro H0 m
    induction m with
    | zero =>
      intro x C9 hx e
      obtain rfl : x = w := by omega
      rw [e]
      refine V_iload d_Re_fillCosts_3 rfl ?_
      refine V_aload_n d_Re_fillCosts_5 rfl ?_
      refine V_gf g_Re_fillCosts_6 (rd hL rfl rfl) rfl ?_
      refine V_icmp_ge (tgt := 100) d_Re_fillCosts_9 (by decide) (fun _ => ?_) (fun c9 => absurd ((nI_le (Nat.le_refl _) (by omega))) c9)
      exact V_vret d_Re_fillCosts_100 rfl
    | succ m ih =>
      intro x C9 hx e
      rw [fori_s] at e
      refine V_iload d_Re_fillCosts_3 rfl ?_
      refine V_aload_n d_Re_fillCosts_5 rfl ?_
      refine V_gf g_Re_fillCosts_6 (rd hL rfl rfl) rfl ?_
      refine V_icmp_ge (tgt := 100) d_Re_fillCosts_9 (by decide) (fun c9 => absurd c9 ((nI_ge (by omega) (by omega) : ¬ nI w ≤ nI x))) (fun _ => ?_)
      refine V_iconst (v := 0) d_Re_fillCosts_12 (by decide) ?_
      refine V_istore d_Re_fillCosts_13 (by decide) rfl ?_
      refine inner H0 _ x (by omega) (dAt x) 0 C9 (by omega) ?_
      refine V_iinc1 d_Re_fillCosts_94 rfl (by decide) rfl ?_
      refine V_goto (tgt := 3) d_Re_fillCosts_97 (by decide) ?_
      rw [nI_1]
      exact ih (x + 1) _ (by omega) e
  refine V_iconst (v := 0) d_Re_fillCosts_0 (by decide) ?_
  refine V_istore d_Re_fillCosts_1 (by decide) rfl ?_
  exact outer _ w 0 C (by omega) rfl
end P19
