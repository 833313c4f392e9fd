section P20
variable {l : Launch} {G : Gb} {h : List Ce} {w ht : Nat} {f C Df : Nat → Int32} {Dp : Nat → Nat} {op : Nat → Bool} {qu : Nat → Int32} {qd : Int32} {ra : Bool}
abbrev Tb : Type := Nat × (Nat → Nat) × (Nat → Int32)
/-- the way back: one cell -/
def tbS (f C : Nat → Int32) (w ht a b y : Nat) (pen : Int32) (x : Nat) (s : Tb) : Tb := (if 0 < x then (baR C pen x s.1).1 else s.1, updN s.2.1 (y * w + x) s.1, upd s.2.2 (y * w + x) (dfR f w ht a b x y s.1))
def tbR (f C : Nat → Int32) (w ht a b y : Nat) (pen : Int32) (Dp : Nat → Nat) (Df : Nat → Int32) : Tb := ford (tbS f C w ht a b y pen) w ((baR C 0 w 0).1, Dp, Df)
def tbC (C : Nat → Int32) (w : Nat) : Int32 := caR C 0 w (baR C 0 w 0).1 0
theorem do_Re_traceBack (hL : 27 ≤ h.length) (hw : 6 ≤ w ∧ w ≤ 20) (hht : ht ≤ 20) (a b y : Nat) (pen : Int32) (ha : a < 4) (hb : b < 4) (hy : y < ht) : Do l G k_Re_traceBack [.ref 22, .ref 2, .int (nI a), .int (nI b), .int (nI y), .int pen] (reH h w ht f qd ra Dp Df C op qu) (ri (tbC C w)) (reH h w ht f qd ra (tbR f C w ht a b y pen Dp Df).2.1 (tbR f C w ht a b y pen Dp Df).2.2 C op qu) := by
  refine Do.of (by decide) (Nat.le_of_ble_eq_true rfl) kw_Re_traceBack ?_
  have loop : ∀ (H0 : List Ce) (m : Nat) (s : Tb), m ≤ w → (0 < m → s.1 < m) → s.1 < 6 → tbR f C w ht a b y pen Dp Df = ford (tbS f C w ht a b y pen) m s → V l G k_Re_traceBack H0 34 [(0, .ref 22), (1, .ref 2), (2, .int (nI a)), (3, .int (nI b)), (4, .int (nI y)), (5, .int pen), (6, .int (nI s.1)), (7, .int (tbC C w)), (8, .int (nI m - 1))] [] (reH h w ht f qd ra s.2.1 s.2.2 C op qu) (ri (tbC C w)) (reH h w ht f qd ra (tbR f C w ht a b y pen Dp Df).2.1 (tbR f C w ht a b y pen Dp Df).2.2 C op qu) := by
    intro H0 m
    induction m with
    | zero =>
      intro s hm h1 h2 e
      rw [show tbR f C w ht a b y pen Dp Df = s from e]
      refine V_iload d_Re_traceBack_34 rfl ?_
      refine V_if_lt (tgt := 106) d_Re_traceBack_36 (by decide) (fun _ => ?_) (fun c9 => absurd ((by decide : nI 0 - 1 < 0)) c9)
      refine V_iload d_Re_traceBack_106 rfl ?_
      exact V_iret d_Re_traceBack_108 rfl rfl
    | succ m ih =>
      intro s hm h1 h2 e
      rw [ford_s] at e
      rw [nI_pred]
      have hs1 : s.1 < m + 1 := h1 (by omega)
      have hcl : y * w + m < w * ht := cell_lt (by omega) hy
      have hN := wh_lt hw.2 hht
      refine V_iload d_Re_traceBack_34 rfl ?_
      refine V_if_lt (tgt := 106) d_Re_traceBack_36 (by decide) (fun c9 => absurd c9 ((nI_pos (by omega) : ¬ nI m < 0))) (fun _ => ?_)
      refine V_aload_n d_Re_traceBack_39 rfl ?_
      refine V_gf g_Re_traceBack_40 (rd hL rfl rfl) rfl ?_
      refine V_iload d_Re_traceBack_43 rfl ?_
      refine V_aload_n d_Re_traceBack_45 rfl ?_
      refine V_gf g_Re_traceBack_46 (rd hL rfl rfl) rfl ?_
      refine V_imul d_Re_traceBack_49 ?_
      refine V_iload d_Re_traceBack_50 rfl ?_
      refine V_iadd d_Re_traceBack_52 ?_
      refine V_iload d_Re_traceBack_53 rfl ?_
      refine V_iastN d_Re_traceBack_55 (rd hL rfl rfl) (⟨by rw [pk_mul, nI_add], hcl, hN⟩) ?_
      refine V_hS rfl ?_
      refine V_aload_n d_Re_traceBack_56 rfl ?_
      refine V_gf g_Re_traceBack_57 (rd hL rfl rfl) rfl ?_
      refine V_iload d_Re_traceBack_60 rfl ?_
      refine V_aload_n d_Re_traceBack_62 rfl ?_
      refine V_gf g_Re_traceBack_63 (rd hL rfl rfl) rfl ?_
      refine V_imul d_Re_traceBack_66 ?_
      refine V_iload d_Re_traceBack_67 rfl ?_
      refine V_iadd d_Re_traceBack_69 ?_
      refine V_aload_n d_Re_traceBack_70 rfl ?_
      refine V_iload_n d_Re_traceBack_71 rfl ?_
      refine V_iload_n d_Re_traceBack_72 rfl ?_
      refine V_iload d_Re_traceBack_73 rfl ?_
      refine V_iload d_Re_traceBack_75 rfl ?_
      refine V_iload d_Re_traceBack_77 rfl ?_
      refine V_eqh (h2 := reH h w ht f qd ra (updN s.2.1 (y * w + m) s.1) s.2.2 C op qu) (by rw [updN_I]; rfl) ?_
      refine V_cS s_Re_traceBack_79 (do_Re_difference (rd hL rfl rfl) (rd hL rfl rfl) hw.2 hht a b m y s.1 ha hb (by omega) hy (by omega)) rfl rfl (Nat.le_of_ble_eq_true rfl) ?_
      refine V_iastN d_Re_traceBack_82 (rd hL rfl rfl) (⟨by rw [pk_mul, nI_add], hcl, hN⟩) ?_
      refine V_hS rfl ?_
      refine V_iload d_Re_traceBack_83 rfl ?_
      have next : ∀ s' : Tb, s' = tbS f C w ht a b y pen m s → (0 < m → s'.1 < m) → s'.1 < 6 → V l G k_Re_traceBack H0 100 [(0, .ref 22), (1, .ref 2), (2, .int (nI a)), (3, .int (nI b)), (4, .int (nI y)), (5, .int pen), (6, .int (nI s'.1)), (7, .int (tbC C w)), (8, .int (nI m))] [] (reH h w ht f qd ra s'.2.1 s'.2.2 C op qu) (ri (tbC C w)) (reH h w ht f qd ra (tbR f C w ht a b y pen Dp Df).2.1 (tbR f C w ht a b y pen Dp Df).2.2 C op qu) := by
        intro s' e' h3 h4
        refine V_iinc d_Re_traceBack_100 rfl rfl (by decide) rfl ?_
        refine V_goto (tgt := 34) d_Re_traceBack_103 (by decide) ?_
        rw [nI_m1]
        exact ih s' (by omega) h3 h4 (by rw [e']; exact e)
      rcases Nat.eq_zero_or_pos m with q | q
      · refine V_if_le (tgt := 100) d_Re_traceBack_85 (by decide) (fun _ => ?_) (fun c9 => absurd ((by subst q; decide : nI m ≤ 0)) c9)
        exact next (s.1, updN s.2.1 (y * w + m) s.1, upd s.2.2 (y * w + m) (dfR f w ht a b m y s.1)) (by unfold tbS; rw [if_neg (by omega)]) (by omega) h2
      · refine V_if_le (tgt := 100) d_Re_traceBack_85 (by decide) (fun c9 => absurd c9 ((nI_nle q (by omega) : ¬ nI m ≤ 0))) (fun _ => ?_)
        have hb2 := ba_lt C pen m s.1 q
        refine V_aload_n d_Re_traceBack_88 rfl ?_
        refine V_iload d_Re_traceBack_89 rfl ?_
        refine V_iload d_Re_traceBack_91 rfl ?_
        refine V_iload d_Re_traceBack_93 rfl ?_
        refine V_cV s_Re_traceBack_95 (do_Re_bestAhead (rd hL rfl rfl) (rd hL rfl rfl) hw.2 m s.1 pen ⟨q, by omega⟩) (rd hL rfl rfl) rfl rfl (Nat.le_of_ble_eq_true rfl) ?_
        refine V_istore d_Re_traceBack_98 (by decide) rfl ?_
        exact next ((baR C pen m s.1).1, updN s.2.1 (y * w + m) s.1, upd s.2.2 (y * w + m) (dfR f w ht a b m y s.1)) (by unfold tbS; rw [if_pos q]) (fun _ => hb2.2) hb2.1
  have hb0 := ba_lt C 0 w 0 (by omega)
  refine V_aload_n d_Re_traceBack_0 rfl ?_
  refine V_aload_n d_Re_traceBack_1 rfl ?_
  refine V_gf g_Re_traceBack_2 (rd hL rfl rfl) rfl ?_
  refine V_iconst (v := 0) d_Re_traceBack_5 (by decide) ?_
  refine V_iconst (v := 0) d_Re_traceBack_6 (by decide) ?_
  refine V_cV s_Re_traceBack_7 (do_Re_bestAhead (rd hL rfl rfl) (rd hL rfl rfl) hw.2 w 0 0 ⟨by omega, by omega⟩) (rd hL rfl rfl) rfl rfl (Nat.le_of_ble_eq_true rfl) ?_
  refine V_istore d_Re_traceBack_10 (by decide) rfl ?_
  refine V_aload_n d_Re_traceBack_12 rfl ?_
  refine V_aload_n d_Re_traceBack_13 rfl ?_
  refine V_gf g_Re_traceBack_14 (rd hL rfl rfl) rfl ?_
  refine V_iload d_Re_traceBack_17 rfl ?_
  refine V_iconst (v := 0) d_Re_traceBack_19 (by decide) ?_
  refine V_iconst (v := 0) d_Re_traceBack_20 (by decide) ?_
  refine V_cV s_Re_traceBack_21 (do_Re_costAhead (rd hL rfl rfl) (rd hL rfl rfl) hw.2 w (baR C 0 w 0).1 0 0 ⟨by omega, by omega⟩ hb0.1) (rd hL rfl rfl) rfl rfl (Nat.le_of_ble_eq_true rfl) ?_
  refine V_istore d_Re_traceBack_24 (by decide) rfl ?_
  refine V_aload_n d_Re_traceBack_26 rfl ?_
  refine V_gf g_Re_traceBack_27 (rd hL rfl rfl) rfl ?_
  refine V_iconst (v := 1) d_Re_traceBack_30 (by decide) ?_
  refine V_isub d_Re_traceBack_31 ?_
  refine V_istore d_Re_traceBack_32 (by decide) rfl ?_
  exact loop _ w ((baR C 0 w 0).1, Dp, Df) (Nat.le_refl _) (fun _ => hb0.2) hb0.1 rfl
abbrev Ra : Type := Int32 × (Nat → Nat) × (Nat → Int32) × (Nat → Int32)
/-- one row: sum, depths, differences, costs -/
def raS (f : Nat → Int32) (w ht a b : Nat) (pen : Int32) (y : Nat) (s : Ra) : Ra := (s.1 + tbC (fcR f w ht a b y pen s.2.2.2) w, (tbR f (fcR f w ht a b y pen s.2.2.2) w ht a b y pen s.2.1 s.2.2.1).2.1, (tbR f (fcR f w ht a b y pen s.2.2.2) w ht a b y pen s.2.1 s.2.2.1).2.2, fcR f w ht a b y pen s.2.2.2)
def raR (f : Nat → Int32) (w ht a b : Nat) (pen : Int32) (Dp : Nat → Nat) (Df C : Nat → Int32) : Ra := fori (raS f w ht a b pen) ht 0 (0, Dp, Df, C)
theorem do_Re_raise (hL : 27 ≤ h.length) (hw : 6 ≤ w ∧ w ≤ 20) (hht : ht ≤ 20) (a b : Nat) (pen : Int32) (ha : a < 4) (hb : b < 4) (R : Ra) (hR : R = raR f w ht a b pen Dp Df C) : Do l G k_Re_raise [.ref 22, .ref 2, .int (nI a), .int (nI b), .int pen] (reH h w ht f qd ra Dp Df C op qu) (ri R.1) (reH h w ht f qd true R.2.1 R.2.2.1 R.2.2.2 op qu) := by
  refine Do.of (by decide) (Nat.le_of_ble_eq_true rfl) kw_Re_raise ?_
  have loop : ∀ (H0 : List Ce) (m y : Nat) (s : Ra), y + m = ht → R = fori (raS f w ht a b pen) m y s → V l G k_Re_raise H0 6 [(0, .ref 22), (1, .ref 2), (2, .int (nI a)), (3, .int (nI b)), (4, .int pen), (5, .int s.1), (6, .int (nI y))] [] (reH h w ht f qd ra s.2.1 s.2.2.1 s.2.2.2 op qu) (ri R.1) (reH h w ht f qd true R.2.1 R.2.2.1 R.2.2.2 op qu) := by
    intro H0 m
    induction m with
    | zero =>
      intro y s hy e
      obtain rfl : y = ht := by omega
      rw [show R = s from e]
      refine V_iload d_Re_raise_6 rfl ?_
      refine V_aload_n d_Re_raise_8 rfl ?_
      refine V_gf g_Re_raise_9 (rd hL rfl rfl) rfl ?_
      refine V_icmp_ge (tgt := 48) d_Re_raise_12 (by decide) (fun _ => ?_) (fun c9 => absurd ((nI_le (Nat.le_refl _) (by omega))) c9)
      refine V_aload_n d_Re_raise_48 rfl ?_
      refine V_iconst (v := 1) d_Re_raise_49 (by decide) ?_
      refine V_pf p_Re_raise_50 (rd hL rfl rfl) (Nat.le_of_ble_eq_true rfl) rfl rfl ?_
      refine V_hS rfl ?_
      refine V_iload d_Re_raise_53 rfl ?_
      exact V_iret d_Re_raise_55 rfl rfl
    | succ m ih =>
      intro y s hy e
      rw [fori_s] at e
      refine V_iload d_Re_raise_6 rfl ?_
      refine V_aload_n d_Re_raise_8 rfl ?_
      refine V_gf g_Re_raise_9 (rd hL rfl rfl) rfl ?_
      refine V_icmp_ge (tgt := 48) d_Re_raise_12 (by decide) (fun c9 => absurd c9 ((nI_ge (by omega) (by omega) : ¬ nI ht ≤ nI y))) (fun _ => ?_)
      refine V_aload_n d_Re_raise_15 rfl ?_
      refine V_aload_n d_Re_raise_16 rfl ?_
      refine V_iload_n d_Re_raise_17 rfl ?_
      refine V_iload_n d_Re_raise_18 rfl ?_
      refine V_iload d_Re_raise_19 rfl ?_
      refine V_iload d_Re_raise_21 rfl ?_
      refine V_cV s_Re_raise_23 (do_Re_fillCosts hL hw.2 hht a b y pen ha hb (by omega)) (rd hL rfl rfl) rfl rfl (Nat.le_of_ble_eq_true rfl) ?_
      refine V_iload d_Re_raise_26 rfl ?_
      refine V_aload_n d_Re_raise_28 rfl ?_
      refine V_aload_n d_Re_raise_29 rfl ?_
      refine V_iload_n d_Re_raise_30 rfl ?_
      refine V_iload_n d_Re_raise_31 rfl ?_
      refine V_iload d_Re_raise_32 rfl ?_
      refine V_iload d_Re_raise_34 rfl ?_
      refine V_cV s_Re_raise_36 (do_Re_traceBack hL hw hht a b y pen ha hb (by omega)) (rd hL rfl rfl) rfl rfl (Nat.le_of_ble_eq_true rfl) ?_
      refine V_iadd d_Re_raise_39 ?_
      refine V_istore d_Re_raise_40 (by decide) rfl ?_
      refine V_iinc1 d_Re_raise_42 rfl (by decide) rfl ?_
      refine V_goto (tgt := 6) d_Re_raise_45 (by decide) ?_
      rw [nI_1]
      exact ih (y + 1) (raS f w ht a b pen y s) (by omega) e
  refine V_iconst (v := 0) d_Re_raise_0 (by decide) ?_
  refine V_istore d_Re_raise_1 (by decide) rfl ?_
  refine V_iconst (v := 0) d_Re_raise_3 (by decide) ?_
  refine V_istore d_Re_raise_4 (by decide) rfl ?_
  exact loop _ ht 0 (0, Dp, Df, C) (by omega) hR
end P20
