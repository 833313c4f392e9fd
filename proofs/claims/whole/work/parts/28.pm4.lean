section P28
variable {l : Launch} {G : Gb} {h : List Ce} {w ht n : Nat} {f C Df ms wh P O PB OB Ln : Nat → Int32} {Dp F T : Nat → Nat} {As Bn op : Nat → Bool} {dn rc ra : Bool} {fx fy le sp bx y9 qd : Int32} {sd nm : Nat} {qu : Nat → Int32}
/-- known -/
theorem pm_known_i (hNT : NoTr l) (c_Pm : h[0]? = some PmO) (c_Pl : h[5]? = some (PlO n sp)) (a b k : Int32) (hc : (hasB a n && hasB b n) = false) : Do l G k_Pm_known [.ref 1, .int a, .int b, .int k] h (.inr h.length) (h ++ [exI]) := by
  refine Do.of (by decide) (Nat.le_of_ble_eq_true rfl) kw_Pm_known ?_
  refine V_aload_n d_Pm_known_0 rfl ?_
  refine V_gf g_Pm_known_1 c_Pm rfl ?_
  refine V_iload_n d_Pm_known_4 rfl ?_
  refine V_cV s_Pm_known_5 (do_Pl_has c_Pl a) c_Pl rfl rfl (Nat.le_of_ble_eq_true rfl) ?_
  refine V_if_eq (tgt := 26) d_Pm_known_8 (by decide) (fun c1 => ?_) (fun c1 => ?_)
  · refine V_iconst (v := 0) d_Pm_known_26 (by decide) ?_
    exact V_cSt s_Pm_known_27 (ndI_f hNT) rfl rfl (Nat.le_of_ble_eq_true rfl) rfl
  · have c1' : hasB a n = true := by simpa [bI_0] using c1
    rw [c1', Bool.true_and] at hc
    refine V_aload_n d_Pm_known_11 rfl ?_
    refine V_gf g_Pm_known_12 c_Pm rfl ?_
    refine V_iload_n d_Pm_known_15 rfl ?_
    refine V_cV s_Pm_known_16 (do_Pl_has c_Pl b) c_Pl rfl rfl (Nat.le_of_ble_eq_true rfl) ?_
    refine V_if_eq (tgt := 26) d_Pm_known_19 (by decide) (fun _ => ?_) (fun c9 => absurd (((bI_0 _).mpr hc)) c9)
    refine V_iconst (v := 0) d_Pm_known_26 (by decide) ?_
    exact V_cSt s_Pm_known_27 (ndI_f hNT) rfl rfl (Nat.le_of_ble_eq_true rfl) rfl
theorem pm_known_a (hNT : NoTr l) (c_Pm : h[0]? = some PmO) (c_Pl : h[5]? = some (PlO n sp)) (a b k : Int32) (hc : (hasB a n && hasB b n) = true) (hs : (!decide (a = b) && wiB k 1 10000) = false) : Do l G k_Pm_known [.ref 1, .int a, .int b, .int k] h (.inr h.length) (h ++ [exA]) := by
  refine Do.of (by decide) (Nat.le_of_ble_eq_true rfl) kw_Pm_known ?_
  simp only [Bool.and_eq_true] at hc
  refine V_aload_n d_Pm_known_0 rfl ?_
  refine V_gf g_Pm_known_1 c_Pm rfl ?_
  refine V_iload_n d_Pm_known_4 rfl ?_
  refine V_cV s_Pm_known_5 (do_Pl_has c_Pl a) c_Pl rfl rfl (Nat.le_of_ble_eq_true rfl) ?_
  refine V_if_eq (tgt := 26) d_Pm_known_8 (by decide) (fun c9 => absurd c9 ((by rw [hc.1]; decide : ¬ bI (hasB a n) = 0))) (fun _ => ?_)
  refine V_aload_n d_Pm_known_11 rfl ?_
  refine V_gf g_Pm_known_12 c_Pm rfl ?_
  refine V_iload_n d_Pm_known_15 rfl ?_
  refine V_cV s_Pm_known_16 (do_Pl_has c_Pl b) c_Pl rfl rfl (Nat.le_of_ble_eq_true rfl) ?_
  refine V_if_eq (tgt := 26) d_Pm_known_19 (by decide) (fun c9 => absurd c9 ((by rw [hc.2]; decide : ¬ bI (hasB b n) = 0))) (fun _ => ?_)
  refine V_iconst (v := 1) d_Pm_known_22 (by decide) ?_
  refine V_goto (tgt := 27) d_Pm_known_23 (by decide) ?_
  refine V_cS s_Pm_known_27 ndI_t rfl rfl (Nat.le_of_ble_eq_true rfl) ?_
  refine V_iload_n d_Pm_known_30 rfl ?_
  refine V_iload_n d_Pm_known_31 rfl ?_
  refine V_icmp_eq (tgt := 50) d_Pm_known_32 (by decide) (fun c1 => ?_) (fun c1 => ?_)
  · refine V_iconst (v := 0) d_Pm_known_50 (by decide) ?_
    exact V_cSt s_Pm_known_51 (ndA_f hNT) rfl rfl (Nat.le_of_ble_eq_true rfl) rfl
  · simp only [show decide (a = b) = false from decide_eq_false c1, Bool.not_false, Bool.true_and] at hs
    refine V_iload_n d_Pm_known_35 rfl ?_
    refine V_iconst (v := 1) d_Pm_known_36 (by decide) ?_
    refine V_sipush (v := 10000) d_Pm_known_37 (by decide) ?_
    refine V_cS s_Pm_known_40 (do_isWithin k 1 10000) rfl rfl (Nat.le_of_ble_eq_true rfl) ?_
    refine V_if_eq (tgt := 50) d_Pm_known_43 (by decide) (fun _ => ?_) (fun c9 => absurd (((bI_0 _).mpr hs)) c9)
    refine V_iconst (v := 0) d_Pm_known_50 (by decide) ?_
    exact V_cSt s_Pm_known_51 (ndA_f hNT) rfl rfl (Nat.le_of_ble_eq_true rfl) rfl
theorem pm_known_s (hNT : NoTr l) (c_Pm : h[0]? = some PmO) (c_Pl : h[5]? = some (PlO n sp)) {m : Nat} (c_Le : h[17]? = some (LeO m)) (hm : m = 10) (a b k : Int32) (hc : (hasB a n && hasB b n) = true) (hs : (!decide (a = b) && wiB k 1 10000) = true) : Do l G k_Pm_known [.ref 1, .int a, .int b, .int k] h (.inr h.length) (h ++ [exS]) := by
  subst hm
  refine Do.of (by decide) (Nat.le_of_ble_eq_true rfl) kw_Pm_known ?_
  simp only [Bool.and_eq_true, Bool.not_eq_true', decide_eq_false_iff_not] at hc hs
  refine V_aload_n d_Pm_known_0 rfl ?_
  refine V_gf g_Pm_known_1 c_Pm rfl ?_
  refine V_iload_n d_Pm_known_4 rfl ?_
  refine V_cV s_Pm_known_5 (do_Pl_has c_Pl a) c_Pl rfl rfl (Nat.le_of_ble_eq_true rfl) ?_
  refine V_if_eq (tgt := 26) d_Pm_known_8 (by decide) (fun c9 => absurd c9 ((by rw [hc.1]; decide : ¬ bI (hasB a n) = 0))) (fun _ => ?_)
  refine V_aload_n d_Pm_known_11 rfl ?_
  refine V_gf g_Pm_known_12 c_Pm rfl ?_
  refine V_iload_n d_Pm_known_15 rfl ?_
  refine V_cV s_Pm_known_16 (do_Pl_has c_Pl b) c_Pl rfl rfl (Nat.le_of_ble_eq_true rfl) ?_
  refine V_if_eq (tgt := 26) d_Pm_known_19 (by decide) (fun c9 => absurd c9 ((by rw [hc.2]; decide : ¬ bI (hasB b n) = 0))) (fun _ => ?_)
  refine V_iconst (v := 1) d_Pm_known_22 (by decide) ?_
  refine V_goto (tgt := 27) d_Pm_known_23 (by decide) ?_
  refine V_cS s_Pm_known_27 ndI_t rfl rfl (Nat.le_of_ble_eq_true rfl) ?_
  refine V_iload_n d_Pm_known_30 rfl ?_
  refine V_iload_n d_Pm_known_31 rfl ?_
  refine V_icmp_eq (tgt := 50) d_Pm_known_32 (by decide) (fun c9 => absurd c9 (hs.1)) (fun _ => ?_)
  refine V_iload_n d_Pm_known_35 rfl ?_
  refine V_iconst (v := 1) d_Pm_known_36 (by decide) ?_
  refine V_sipush (v := 10000) d_Pm_known_37 (by decide) ?_
  refine V_cS s_Pm_known_40 (do_isWithin k 1 10000) rfl rfl (Nat.le_of_ble_eq_true rfl) ?_
  refine V_if_eq (tgt := 50) d_Pm_known_43 (by decide) (fun c9 => absurd c9 ((by rw [hs.2]; decide : ¬ bI (wiB k 1 10000) = 0))) (fun _ => ?_)
  refine V_iconst (v := 1) d_Pm_known_46 (by decide) ?_
  refine V_goto (tgt := 51) d_Pm_known_47 (by decide) ?_
  refine V_cS s_Pm_known_51 ndA_t rfl rfl (Nat.le_of_ble_eq_true rfl) ?_
  refine V_aload_n d_Pm_known_54 rfl ?_
  refine V_gf g_Pm_known_55 c_Pm rfl ?_
  refine V_cV s_Pm_known_58 (do_Le_number c_Le) c_Le rfl rfl (Nat.le_of_ble_eq_true rfl) ?_
  refine V_bipush (v := 10) d_Pm_known_61 (by decide) ?_
  refine V_icmp_ge (tgt := 70) d_Pm_known_63 (by decide) (fun _ => ?_) (fun c9 => absurd ((by decide : (10 : Int32) ≤ nI 10)) c9)
  refine V_iconst (v := 0) d_Pm_known_70 (by decide) ?_
  exact V_cSt s_Pm_known_71 (ndS_f hNT) rfl rfl (Nat.le_of_ble_eq_true rfl) rfl
theorem pm_known (hL : 27 ≤ h.length) (c_Pm : h[0]? = some PmO) (c_Pl : h[5]? = some (PlO n sp)) {m : Nat} (c_Le : h[17]? = some (LeO m)) (hid : leH h P m F T Ln = h) (hn : n ≤ 12) (hm : m < 10) (a b : Nat) (k : Int32) (ha : a < n) (hb : b < n) (hab : a ≠ b) (hk : wiB k 1 10000 = true) : Do l G k_Pm_known [.ref 1, .int (nI a), .int (nI b), .int k] h (ri (nI (m + 1))) (leH h P (m + 1) (updN F m a) (updN T m b) (upd Ln m k)) := by
  refine Do.of (by decide) (Nat.le_of_ble_eq_true rfl) kw_Pm_known ?_
  have e1 : hasB (nI a) n = true := has_n ha (by omega)
  have e2 : hasB (nI b) n = true := has_n hb (by omega)
  refine V_aload_n d_Pm_known_0 rfl ?_
  refine V_gf g_Pm_known_1 c_Pm rfl ?_
  refine V_iload_n d_Pm_known_4 rfl ?_
  refine V_cV s_Pm_known_5 (do_Pl_has c_Pl (nI a)) c_Pl rfl rfl (Nat.le_of_ble_eq_true rfl) ?_
  refine V_if_eq (tgt := 26) d_Pm_known_8 (by decide) (fun c9 => absurd c9 ((by rw [e1]; decide : ¬ bI (hasB (nI a) n) = 0))) (fun _ => ?_)
  refine V_aload_n d_Pm_known_11 rfl ?_
  refine V_gf g_Pm_known_12 c_Pm rfl ?_
  refine V_iload_n d_Pm_known_15 rfl ?_
  refine V_cV s_Pm_known_16 (do_Pl_has c_Pl (nI b)) c_Pl rfl rfl (Nat.le_of_ble_eq_true rfl) ?_
  refine V_if_eq (tgt := 26) d_Pm_known_19 (by decide) (fun c9 => absurd c9 ((by rw [e2]; decide : ¬ bI (hasB (nI b) n) = 0))) (fun _ => ?_)
  refine V_iconst (v := 1) d_Pm_known_22 (by decide) ?_
  refine V_goto (tgt := 27) d_Pm_known_23 (by decide) ?_
  refine V_cS s_Pm_known_27 ndI_t rfl rfl (Nat.le_of_ble_eq_true rfl) ?_
  refine V_iload_n d_Pm_known_30 rfl ?_
  refine V_iload_n d_Pm_known_31 rfl ?_
  refine V_icmp_eq (tgt := 50) d_Pm_known_32 (by decide) (fun c9 => absurd c9 ((fun q => hab ((nI_eq (by omega) (by omega)).mp q) : ¬ nI a = nI b))) (fun _ => ?_)
  refine V_iload_n d_Pm_known_35 rfl ?_
  refine V_iconst (v := 1) d_Pm_known_36 (by decide) ?_
  refine V_sipush (v := 10000) d_Pm_known_37 (by decide) ?_
  refine V_cS s_Pm_known_40 (do_isWithin k 1 10000) rfl rfl (Nat.le_of_ble_eq_true rfl) ?_
  refine V_if_eq (tgt := 50) d_Pm_known_43 (by decide) (fun c9 => absurd c9 ((by rw [hk]; decide : ¬ bI (wiB k 1 10000) = 0))) (fun _ => ?_)
  refine V_iconst (v := 1) d_Pm_known_46 (by decide) ?_
  refine V_goto (tgt := 51) d_Pm_known_47 (by decide) ?_
  refine V_cS s_Pm_known_51 ndA_t rfl rfl (Nat.le_of_ble_eq_true rfl) ?_
  refine V_aload_n d_Pm_known_54 rfl ?_
  refine V_gf g_Pm_known_55 c_Pm rfl ?_
  refine V_cV s_Pm_known_58 (do_Le_number c_Le) c_Le rfl rfl (Nat.le_of_ble_eq_true rfl) ?_
  refine V_bipush (v := 10) d_Pm_known_61 (by decide) ?_
  refine V_icmp_ge (tgt := 70) d_Pm_known_63 (by decide) (fun c9 => absurd c9 ((nI_ge (b := 10) hm (by decide) : ¬ (10 : Int32) ≤ nI m))) (fun _ => ?_)
  refine V_iconst (v := 1) d_Pm_known_66 (by decide) ?_
  refine V_goto (tgt := 71) d_Pm_known_67 (by decide) ?_
  refine V_cS s_Pm_known_71 ndS_t rfl rfl (Nat.le_of_ble_eq_true rfl) ?_
  refine V_aload_n d_Pm_known_74 rfl ?_
  refine V_gf g_Pm_known_75 c_Pm rfl ?_
  refine V_iload_n d_Pm_known_78 rfl ?_
  refine V_iload_n d_Pm_known_79 rfl ?_
  refine V_iload_n d_Pm_known_80 rfl ?_
  refine V_cV s_Pm_known_81 ((do_Le_add hL hm a b k).eqh hid rfl) c_Le rfl rfl (Nat.le_of_ble_eq_true rfl) ?_
  exact V_iret d_Pm_known_84 rfl rfl
/-- scale -/
theorem pm_scale_i (hNT : NoTr l) (x : Int32) (hc : wiB x 0 1 = false) : Do l G k_Pm_scale [.ref 1, .int x] h (.inr h.length) (h ++ [exI]) := by
  refine Do.of (by decide) (Nat.le_of_ble_eq_true rfl) kw_Pm_scale ?_
  refine V_iload_n d_Pm_scale_0 rfl ?_
  refine V_iconst (v := 0) d_Pm_scale_1 (by decide) ?_
  refine V_iconst (v := 1) d_Pm_scale_2 (by decide) ?_
  refine V_cS s_Pm_scale_3 (do_isWithin x 0 1) rfl rfl (Nat.le_of_ble_eq_true rfl) ?_
  rw [hc]
  exact V_cSt s_Pm_scale_6 (ndI_f hNT) rfl rfl (Nat.le_of_ble_eq_true rfl) rfl
theorem pm_scale (hL : 27 ≤ h.length) (c_Pm : h[0]? = some PmO) {m : Nat} (c_Le : h[17]? = some (LeO m)) (hid : leH h P m F T Ln = h) (hm : m ≤ 10) (hF : ∀ i, i < m → F i < 12 ∧ T i < 12) (x : Int32) (hc : wiB x 0 1 = true) : Do l G k_Pm_scale [.ref 1, .int x] h (rl (frA (frR P Ln F T m) x)) h := by
  refine Do.of (by decide) (Nat.le_of_ble_eq_true rfl) kw_Pm_scale ?_
  refine V_iload_n d_Pm_scale_0 rfl ?_
  refine V_iconst (v := 0) d_Pm_scale_1 (by decide) ?_
  refine V_iconst (v := 1) d_Pm_scale_2 (by decide) ?_
  refine V_cS s_Pm_scale_3 (do_isWithin x 0 1) rfl rfl (Nat.le_of_ble_eq_true rfl) ?_
  rw [hc]
  refine V_cS s_Pm_scale_6 ndI_t rfl rfl (Nat.le_of_ble_eq_true rfl) ?_
  refine V_aload_n d_Pm_scale_9 rfl ?_
  refine V_gf g_Pm_scale_10 c_Pm rfl ?_
  refine V_aload_n d_Pm_scale_13 rfl ?_
  refine V_gf g_Pm_scale_14 c_Pm rfl ?_
  refine V_iload_n d_Pm_scale_17 rfl ?_
  refine V_cV s_Pm_scale_18 ((do_Le_fraction hL hm hF x).eqh hid hid) c_Le rfl rfl (Nat.le_of_ble_eq_true rfl) ?_
  exact V_lret d_Pm_scale_21 rfl
/-- heights, depth, holes -/
theorem pm_heights_i (hNT : NoTr l) (a b k : Int32) (hc : (wiB a 0 3 && wiB b 0 3) = false) : Do l G k_Pm_heights [.ref 1, .int a, .int b, .int k] h (.inr h.length) (h ++ [exI]) := by
  refine Do.of (by decide) (Nat.le_of_ble_eq_true rfl) kw_Pm_heights ?_
  refine V_iload_n d_Pm_heights_0 rfl ?_
  refine V_cS s_Pm_heights_1 (do_isPhoto a) rfl rfl (Nat.le_of_ble_eq_true rfl) ?_
  refine V_if_eq (tgt := 18) d_Pm_heights_4 (by decide) (fun c1 => ?_) (fun c1 => ?_)
  · refine V_iconst (v := 0) d_Pm_heights_18 (by decide) ?_
    exact V_cSt s_Pm_heights_19 (ndI_f hNT) rfl rfl (Nat.le_of_ble_eq_true rfl) rfl
  · have c1' : wiB a 0 3 = true := by simpa [bI_0] using c1
    rw [c1', Bool.true_and] at hc
    refine V_iload_n d_Pm_heights_7 rfl ?_
    refine V_cS s_Pm_heights_8 (do_isPhoto b) rfl rfl (Nat.le_of_ble_eq_true rfl) ?_
    refine V_if_eq (tgt := 18) d_Pm_heights_11 (by decide) (fun _ => ?_) (fun c9 => absurd (((bI_0 _).mpr hc)) c9)
    refine V_iconst (v := 0) d_Pm_heights_18 (by decide) ?_
    exact V_cSt s_Pm_heights_19 (ndI_f hNT) rfl rfl (Nat.le_of_ble_eq_true rfl) rfl
theorem pm_heights_a (hNT : NoTr l) (a b k : Int32) (hc : (wiB a 0 3 && wiB b 0 3) = true) (hs : wiB k 0 100 = false) : Do l G k_Pm_heights [.ref 1, .int a, .int b, .int k] h (.inr h.length) (h ++ [exA]) := by
  refine Do.of (by decide) (Nat.le_of_ble_eq_true rfl) kw_Pm_heights ?_
  simp only [Bool.and_eq_true] at hc
  refine V_iload_n d_Pm_heights_0 rfl ?_
  refine V_cS s_Pm_heights_1 (do_isPhoto a) rfl rfl (Nat.le_of_ble_eq_true rfl) ?_
  refine V_if_eq (tgt := 18) d_Pm_heights_4 (by decide) (fun c9 => absurd c9 ((by rw [hc.1]; decide : ¬ bI (wiB a 0 3) = 0))) (fun _ => ?_)
  refine V_iload_n d_Pm_heights_7 rfl ?_
  refine V_cS s_Pm_heights_8 (do_isPhoto b) rfl rfl (Nat.le_of_ble_eq_true rfl) ?_
  refine V_if_eq (tgt := 18) d_Pm_heights_11 (by decide) (fun c9 => absurd c9 ((by rw [hc.2]; decide : ¬ bI (wiB b 0 3) = 0))) (fun _ => ?_)
  refine V_iconst (v := 1) d_Pm_heights_14 (by decide) ?_
  refine V_goto (tgt := 19) d_Pm_heights_15 (by decide) ?_
  refine V_cS s_Pm_heights_19 ndI_t rfl rfl (Nat.le_of_ble_eq_true rfl) ?_
  refine V_iload_n d_Pm_heights_22 rfl ?_
  refine V_iconst (v := 0) d_Pm_heights_23 (by decide) ?_
  refine V_bipush (v := 100) d_Pm_heights_24 (by decide) ?_
  refine V_cS s_Pm_heights_26 (do_isWithin k 0 100) rfl rfl (Nat.le_of_ble_eq_true rfl) ?_
  rw [hs]
  exact V_cSt s_Pm_heights_29 (ndA_f hNT) rfl rfl (Nat.le_of_ble_eq_true rfl) rfl
theorem pm_heights (hL : 27 ≤ h.length) (c_Pm : h[0]? = some PmO) (c_Re : h[21]? = some (ReO w ht qd ra)) (hid : reH h w ht f qd ra Dp Df C op qu = h) (hw : 6 ≤ w ∧ w ≤ 20) (hht : ht ≤ 20) (a b : Nat) (k : Int32) (ha : a < 4) (hb : b < 4) (hk : wiB k 0 100 = true) (R : Ra) (hR : R = raR f w ht a b k Dp Df C) : Do l G k_Pm_heights [.ref 1, .int (nI a), .int (nI b), .int k] h (ri R.1) (reH h w ht f qd true R.2.1 R.2.2.1 R.2.2.2 op qu) := by
  refine Do.of (by decide) (Nat.le_of_ble_eq_true rfl) kw_Pm_heights ?_
  have e1 : wiB (nI a) 0 3 = true := wi_n (b := 3) (by omega) (by decide)
  have e2 : wiB (nI b) 0 3 = true := wi_n (b := 3) (by omega) (by decide)
  refine V_iload_n d_Pm_heights_0 rfl ?_
  refine V_cS s_Pm_heights_1 (do_isPhoto (nI a)) rfl rfl (Nat.le_of_ble_eq_true rfl) ?_
  refine V_if_eq (tgt := 18) d_Pm_heights_4 (by decide) (fun c9 => absurd c9 ((by rw [e1]; decide : ¬ bI (wiB (nI a) 0 3) = 0))) (fun _ => ?_)
  refine V_iload_n d_Pm_heights_7 rfl ?_
  refine V_cS s_Pm_heights_8 (do_isPhoto (nI b)) rfl rfl (Nat.le_of_ble_eq_true rfl) ?_
  refine V_if_eq (tgt := 18) d_Pm_heights_11 (by decide) (fun c9 => absurd c9 ((by rw [e2]; decide : ¬ bI (wiB (nI b) 0 3) = 0))) (fun _ => ?_)
  refine V_iconst (v := 1) d_Pm_heights_14 (by decide) ?_
  refine V_goto (tgt := 19) d_Pm_heights_15 (by decide) ?_
  refine V_cS s_Pm_heights_19 ndI_t rfl rfl (Nat.le_of_ble_eq_true rfl) ?_
  refine V_iload_n d_Pm_heights_22 rfl ?_
  refine V_iconst (v := 0) d_Pm_heights_23 (by decide) ?_
  refine V_bipush (v := 100) d_Pm_heights_24 (by decide) ?_
  refine V_cS s_Pm_heights_26 (do_isWithin k 0 100) rfl rfl (Nat.le_of_ble_eq_true rfl) ?_
  rw [hk]
  refine V_cS s_Pm_heights_29 ndA_t rfl rfl (Nat.le_of_ble_eq_true rfl) ?_
  refine V_aload_n d_Pm_heights_32 rfl ?_
  refine V_gf g_Pm_heights_33 c_Pm rfl ?_
  refine V_aload_n d_Pm_heights_36 rfl ?_
  refine V_gf g_Pm_heights_37 c_Pm rfl ?_
  refine V_iload_n d_Pm_heights_40 rfl ?_
  refine V_iload_n d_Pm_heights_41 rfl ?_
  refine V_iload_n d_Pm_heights_42 rfl ?_
  refine V_cV s_Pm_heights_43 ((do_Re_raise hL hw hht a b k ha hb R hR).eqh hid rfl) c_Re rfl rfl (Nat.le_of_ble_eq_true rfl) ?_
  exact V_iret d_Pm_heights_46 rfl rfl
theorem pm_depth_i (hNT : NoTr l) (c_Pm : h[0]? = some PmO) (c_Ph : h[1]? = some (PhO w ht)) (x y : Int32) (hc : (wiB x 0 (nI w - 1) && wiB y 0 (nI ht - 1)) = false) : Do l G k_Pm_depth [.ref 1, .int x, .int y] h (.inr h.length) (h ++ [exI]) := by
  refine Do.of (by decide) (Nat.le_of_ble_eq_true rfl) kw_Pm_depth ?_
  refine V_aload_n d_Pm_depth_0 rfl ?_
  refine V_gf g_Pm_depth_1 c_Pm rfl ?_
  refine V_iload_n d_Pm_depth_4 rfl ?_
  refine V_iload_n d_Pm_depth_5 rfl ?_
  refine V_cV s_Pm_depth_6 (do_Ph_hasCell c_Ph x y) c_Ph rfl rfl (Nat.le_of_ble_eq_true rfl) ?_
  rw [hc]
  exact V_cSt s_Pm_depth_9 (ndI_f hNT) rfl rfl (Nat.le_of_ble_eq_true rfl) rfl
theorem pm_depth_s (hNT : NoTr l) (c_Pm : h[0]? = some PmO) (c_Ph : h[1]? = some (PhO w ht)) (c_Re : h[21]? = some (ReO w ht qd false)) (x y : Int32) (hc : (wiB x 0 (nI w - 1) && wiB y 0 (nI ht - 1)) = true) : Do l G k_Pm_depth [.ref 1, .int x, .int y] h (.inr h.length) (h ++ [exS]) := by
  refine Do.of (by decide) (Nat.le_of_ble_eq_true rfl) kw_Pm_depth ?_
  refine V_aload_n d_Pm_depth_0 rfl ?_
  refine V_gf g_Pm_depth_1 c_Pm rfl ?_
  refine V_iload_n d_Pm_depth_4 rfl ?_
  refine V_iload_n d_Pm_depth_5 rfl ?_
  refine V_cV s_Pm_depth_6 (do_Ph_hasCell c_Ph x y) c_Ph rfl rfl (Nat.le_of_ble_eq_true rfl) ?_
  rw [hc]
  refine V_cS s_Pm_depth_9 ndI_t rfl rfl (Nat.le_of_ble_eq_true rfl) ?_
  refine V_aload_n d_Pm_depth_12 rfl ?_
  refine V_gf g_Pm_depth_13 c_Pm rfl ?_
  refine V_cV s_Pm_depth_16 (do_Re_isRaised c_Re) c_Re rfl rfl (Nat.le_of_ble_eq_true rfl) ?_
  exact V_cSt s_Pm_depth_19 (ndS_f hNT) rfl rfl (Nat.le_of_ble_eq_true rfl) rfl
theorem pm_depth (c_Pm : h[0]? = some PmO) (c_Ph : h[1]? = some (PhO w ht)) (c_Re : h[21]? = some (ReO w ht qd true)) (a_Re_depths : h[22]? = some (NA (w * ht) Dp)) (hw : w ≤ 20) (hht : ht ≤ 20) (x y : Nat) (hx : x < w) (hy : y < ht) : Do l G k_Pm_depth [.ref 1, .int (nI x), .int (nI y)] h (ri (nI (Dp (y * w + x)))) h := by
  refine Do.of (by decide) (Nat.le_of_ble_eq_true rfl) kw_Pm_depth ?_
  have e2 : wiB (nI x) 0 (nI w - 1) = true := by rw [nIm1 (by omega)]; exact wi_n (by omega) (by omega)
  have e3 : wiB (nI y) 0 (nI ht - 1) = true := by rw [nIm1 (by omega)]; exact wi_n (by omega) (by omega)
  refine V_aload_n d_Pm_depth_0 rfl ?_
  refine V_gf g_Pm_depth_1 c_Pm rfl ?_
  refine V_iload_n d_Pm_depth_4 rfl ?_
  refine V_iload_n d_Pm_depth_5 rfl ?_
  refine V_cV s_Pm_depth_6 (do_Ph_hasCell c_Ph (nI x) (nI y)) c_Ph rfl rfl (Nat.le_of_ble_eq_true rfl) ?_
  rw [e2, e3]
  refine V_cS s_Pm_depth_9 ndI_t rfl rfl (Nat.le_of_ble_eq_true rfl) ?_
  refine V_aload_n d_Pm_depth_12 rfl ?_
  refine V_gf g_Pm_depth_13 c_Pm rfl ?_
  refine V_cV s_Pm_depth_16 (do_Re_isRaised c_Re) c_Re rfl rfl (Nat.le_of_ble_eq_true rfl) ?_
  refine V_cS s_Pm_depth_19 ndS_t rfl rfl (Nat.le_of_ble_eq_true rfl) ?_
  refine V_aload_n d_Pm_depth_22 rfl ?_
  refine V_gf g_Pm_depth_23 c_Pm rfl ?_
  refine V_iload_n d_Pm_depth_26 rfl ?_
  refine V_iload_n d_Pm_depth_27 rfl ?_
  refine V_cV s_Pm_depth_28 (do_Re_depthOf c_Re a_Re_depths hw hht x y hx hy) c_Re rfl rfl (Nat.le_of_ble_eq_true rfl) ?_
  exact V_iret d_Pm_depth_31 rfl rfl
theorem pm_holes_s (hNT : NoTr l) (c_Pm : h[0]? = some PmO) (c_Re : h[21]? = some (ReO w ht qd false)) (x : Int32) : Do l G k_Pm_holes [.ref 1, .int x] h (.inr h.length) (h ++ [exS]) := by
  refine Do.of (by decide) (Nat.le_of_ble_eq_true rfl) kw_Pm_holes ?_
  refine V_aload_n d_Pm_holes_0 rfl ?_
  refine V_gf g_Pm_holes_1 c_Pm rfl ?_
  refine V_cV s_Pm_holes_4 (do_Re_isRaised c_Re) c_Re rfl rfl (Nat.le_of_ble_eq_true rfl) ?_
  exact V_cSt s_Pm_holes_7 (ndS_f hNT) rfl rfl (Nat.le_of_ble_eq_true rfl) rfl
theorem pm_holes (hL : 27 ≤ h.length) (c_Pm : h[0]? = some PmO) (q0 : Nat) (Q : Nat → Nat) (c_Re : h[21]? = some (ReO w ht (nI q0) true)) (hid : hoH h w ht f true Dp Df C (q0, Q, op) = h) (hw : w ≤ 20) (hht : ht ≤ 20) (hop : ∀ k, op k = true → inn w ht k) (lv : Int32) (S : Ho) (hS9 : S = hoR w ht (0, q0, Q, oaR Df w ht lv op)) : Do l G k_Pm_holes [.ref 1, .int lv] h (ri (nI S.1)) (hoH h w ht f true Dp Df C S.2) := by
  refine Do.of (by decide) (Nat.le_of_ble_eq_true rfl) kw_Pm_holes ?_
  refine V_aload_n d_Pm_holes_0 rfl ?_
  refine V_gf g_Pm_holes_1 c_Pm rfl ?_
  refine V_cV s_Pm_holes_4 (do_Re_isRaised c_Re) c_Re rfl rfl (Nat.le_of_ble_eq_true rfl) ?_
  refine V_cS s_Pm_holes_7 ndS_t rfl rfl (Nat.le_of_ble_eq_true rfl) ?_
  refine V_aload_n d_Pm_holes_10 rfl ?_
  refine V_gf g_Pm_holes_11 c_Pm rfl ?_
  refine V_iload_n d_Pm_holes_14 rfl ?_
  refine V_cV s_Pm_holes_15 ((do_Re_holesAbove hL hw hht q0 Q op hop lv S hS9).eqh hid rfl) c_Re rfl rfl (Nat.le_of_ble_eq_true rfl) ?_
  exact V_iret d_Pm_holes_18 rfl rfl
/-- count -/
theorem pm_count_i (hNT : NoTr l) (x : Int32) (hc : wiB x 0 4 = false) : Do l G k_Pm_count [.ref 1, .int x] h (.inr h.length) (h ++ [exI]) := by
  refine Do.of0 (by decide) (Nat.le_of_ble_eq_true rfl) kw_Pm_count ?_
  refine V0_iload_n d_Pm_count_0 rfl ?_
  have hx : x.toInt < 0 ∨ 4 < x.toInt := by
    simp only [wiB, Bool.and_eq_false_iff, decide_eq_false_iff_not, nle_iff, Int32.lt_iff_toInt_lt] at hc
    exact hc
  refine V0_swOut (tgt := 76) d_Pm_count_1 hx (by decide) ?_
  exact V0_thr hNT (X9 := "java/lang/IndexOutOfBoundsException") (tx := "no such count") (names := ["java/lang/RuntimeException", "java/lang/Exception"]) d_Pm_count_76 d_Pm_count_79 d_Pm_count_80 d_Pm_count_82 d_Pm_count_85 rfl (tx2 53 rfl rfl) (tx2 54 rfl rfl) (tx1 14 rfl rfl) (tx4 37 rfl rfl) (by decide) (by decide) own9 rfl rfl (by decide) (by decide) (Nat.le_of_ble_eq_true rfl)
theorem pm_count (c_Pm : h[0]? = some PmO) (c_Ph : h[1]? = some (PhO w ht)) (c_Pl : h[5]? = some (PlO n sp)) {m : Nat} (c_Le : h[17]? = some (LeO m)) (x : Nat) (hx : x ≤ 4) : Do l G k_Pm_count [.ref 1, .int (nI x)] h (ri (if x = 0 then nI w else if x = 1 then nI ht else if x = 2 then nI n else if x = 3 then nI m else sp)) h := by
  refine Do.of (by decide) (Nat.le_of_ble_eq_true rfl) kw_Pm_count ?_
  refine V_iload_n d_Pm_count_0 rfl ?_
  rcases (show x = 0 ∨ x = 1 ∨ x = 2 ∨ x = 3 ∨ x = 4 by omega) with q | q | q | q | q <;> subst q
  · refine V_swIn (off := 35) (tgt := 36) d_Pm_count_1 (by decide) (by decide) (by decide) (by decide) ?_
    refine V_aload_n d_Pm_count_36 rfl ?_
    refine V_gf g_Pm_count_37 c_Pm rfl ?_
    refine V_cV s_Pm_count_40 (do_Ph_width c_Ph) c_Ph rfl rfl (Nat.le_of_ble_eq_true rfl) ?_
    exact V_iret d_Pm_count_43 rfl rfl
  · refine V_swIn (off := 43) (tgt := 44) d_Pm_count_1 (by decide) (by decide) (by decide) (by decide) ?_
    refine V_aload_n d_Pm_count_44 rfl ?_
    refine V_gf g_Pm_count_45 c_Pm rfl ?_
    refine V_cV s_Pm_count_48 (do_Ph_height c_Ph) c_Ph rfl rfl (Nat.le_of_ble_eq_true rfl) ?_
    exact V_iret d_Pm_count_51 rfl rfl
  · refine V_swIn (off := 51) (tgt := 52) d_Pm_count_1 (by decide) (by decide) (by decide) (by decide) ?_
    refine V_aload_n d_Pm_count_52 rfl ?_
    refine V_gf g_Pm_count_53 c_Pm rfl ?_
    refine V_cV s_Pm_count_56 (do_Pl_number c_Pl) c_Pl rfl rfl (Nat.le_of_ble_eq_true rfl) ?_
    exact V_iret d_Pm_count_59 rfl rfl
  · refine V_swIn (off := 59) (tgt := 60) d_Pm_count_1 (by decide) (by decide) (by decide) (by decide) ?_
    refine V_aload_n d_Pm_count_60 rfl ?_
    refine V_gf g_Pm_count_61 c_Pm rfl ?_
    refine V_cV s_Pm_count_64 (do_Le_number c_Le) c_Le rfl rfl (Nat.le_of_ble_eq_true rfl) ?_
    exact V_iret d_Pm_count_67 rfl rfl
  · refine V_swIn (off := 67) (tgt := 68) d_Pm_count_1 (by decide) (by decide) (by decide) (by decide) ?_
    refine V_aload_n d_Pm_count_68 rfl ?_
    refine V_gf g_Pm_count_69 c_Pm rfl ?_
    refine V_cV s_Pm_count_72 (do_Pl_spares c_Pl) c_Pl rfl rfl (Nat.le_of_ble_eq_true rfl) ?_
    exact V_iret d_Pm_count_75 rfl rfl
end P28
