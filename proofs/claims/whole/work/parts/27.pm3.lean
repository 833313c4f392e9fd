section P27
variable {l : Launch} {G : Gb} {h : List Ce} {w ht n : Nat} {f C Df ms wh P O PB OB Ln : Nat → Int32} {Dp F T : Nat → Nat} {As Bn op : Nat → Bool} {dn rc ra : Bool} {fx fy le sp bx y9 qd : Int32} {sd nm : Nat} {qu : Nat → Int32}
theorem has_n {k n : Nat} (h1 : k < n) (h2 : n < 2 ^ 31) : hasB (nI k) n = true := by
  simp only [hasB, Bool.and_eq_true, decide_eq_true_eq]
  exact ⟨nI_pos' (by omega), nI_lt h1 h2⟩
/-- seen: what its x and y must be -/
def seenB (x y : Int32) : Bool := decide (x < 0) || (decide (x ≤ 999) && wiB y 0 999)
theorem pm_seen_i (hNT : NoTr l) (c_Pm : h[0]? = some PmO) (c_Pl : h[5]? = some (PlO n sp)) (p q x y : Int32) (hc : (hasB p n && wiB q 0 3) = false) : Do l G k_Pm_seen [.ref 1, .int p, .int q, .int x, .int y] h (.inr h.length) (h ++ [exI]) := by
  refine Do.of (by decide) (Nat.le_of_ble_eq_true rfl) kw_Pm_seen ?_
  refine V_aload_n d_Pm_seen_0 rfl ?_
  refine V_gf g_Pm_seen_1 c_Pm rfl ?_
  refine V_iload_n d_Pm_seen_4 rfl ?_
  refine V_cV s_Pm_seen_5 (do_Pl_has c_Pl p) c_Pl rfl rfl (Nat.le_of_ble_eq_true rfl) ?_
  refine V_if_eq (tgt := 22) d_Pm_seen_8 (by decide) (fun c1 => ?_) (fun c1 => ?_)
  · refine V_iconst (v := 0) d_Pm_seen_22 (by decide) ?_
    exact V_cSt s_Pm_seen_23 (ndI_f hNT) rfl rfl (Nat.le_of_ble_eq_true rfl) rfl
  · have c1' : hasB p n = true := by simpa [bI_0] using c1
    rw [c1', Bool.true_and] at hc
    refine V_iload_n d_Pm_seen_11 rfl ?_
    refine V_cS s_Pm_seen_12 (do_isPhoto q) rfl rfl (Nat.le_of_ble_eq_true rfl) ?_
    refine V_if_eq (tgt := 22) d_Pm_seen_15 (by decide) (fun _ => ?_) (fun c9 => absurd (((bI_0 _).mpr hc)) c9)
    refine V_iconst (v := 0) d_Pm_seen_22 (by decide) ?_
    exact V_cSt s_Pm_seen_23 (ndI_f hNT) rfl rfl (Nat.le_of_ble_eq_true rfl) rfl
theorem pm_seen_a (hNT : NoTr l) (c_Pm : h[0]? = some PmO) (c_Pl : h[5]? = some (PlO n sp)) (p q x y : Int32) (hc : (hasB p n && wiB q 0 3) = true) (hs : seenB x y = false) : Do l G k_Pm_seen [.ref 1, .int p, .int q, .int x, .int y] h (.inr h.length) (h ++ [exA]) := by
  refine Do.of (by decide) (Nat.le_of_ble_eq_true rfl) kw_Pm_seen ?_
  simp only [Bool.and_eq_true] at hc
  refine V_aload_n d_Pm_seen_0 rfl ?_
  refine V_gf g_Pm_seen_1 c_Pm rfl ?_
  refine V_iload_n d_Pm_seen_4 rfl ?_
  refine V_cV s_Pm_seen_5 (do_Pl_has c_Pl p) c_Pl rfl rfl (Nat.le_of_ble_eq_true rfl) ?_
  refine V_if_eq (tgt := 22) d_Pm_seen_8 (by decide) (fun c9 => absurd c9 ((by rw [hc.1]; decide : ¬ bI (hasB p n) = 0))) (fun _ => ?_)
  refine V_iload_n d_Pm_seen_11 rfl ?_
  refine V_cS s_Pm_seen_12 (do_isPhoto q) rfl rfl (Nat.le_of_ble_eq_true rfl) ?_
  refine V_if_eq (tgt := 22) d_Pm_seen_15 (by decide) (fun c9 => absurd c9 ((by rw [hc.2]; decide : ¬ bI (wiB q 0 3) = 0))) (fun _ => ?_)
  refine V_iconst (v := 1) d_Pm_seen_18 (by decide) ?_
  refine V_goto (tgt := 23) d_Pm_seen_19 (by decide) ?_
  refine V_cS s_Pm_seen_23 ndI_t rfl rfl (Nat.le_of_ble_eq_true rfl) ?_
  simp only [seenB, Bool.or_eq_false_iff, Bool.and_eq_false_iff, decide_eq_false_iff_not] at hs
  refine V_iload_n d_Pm_seen_26 rfl ?_
  refine V_if_lt (tgt := 49) d_Pm_seen_27 (by decide) (fun c9 => absurd c9 (hs.1)) (fun _ => ?_)
  refine V_iload_n d_Pm_seen_30 rfl ?_
  refine V_sipush (v := 999) d_Pm_seen_31 (by decide) ?_
  refine V_icmp_gt (tgt := 53) d_Pm_seen_34 (by decide) (fun c2 => ?_) (fun c2 => ?_)
  · refine V_iconst (v := 0) d_Pm_seen_53 (by decide) ?_
    exact V_cSt s_Pm_seen_54 (ndA_f hNT) rfl rfl (Nat.le_of_ble_eq_true rfl) rfl
  · have hw9 : wiB y 0 999 = false := hs.2.resolve_left (fun z => z (nlt_iff.mp c2))
    refine V_iload d_Pm_seen_37 rfl ?_
    refine V_iconst (v := 0) d_Pm_seen_39 (by decide) ?_
    refine V_sipush (v := 999) d_Pm_seen_40 (by decide) ?_
    refine V_cS s_Pm_seen_43 (do_isWithin y 0 999) rfl rfl (Nat.le_of_ble_eq_true rfl) ?_
    refine V_if_eq (tgt := 53) d_Pm_seen_46 (by decide) (fun _ => ?_) (fun c9 => absurd (((bI_0 _).mpr hw9)) c9)
    refine V_iconst (v := 0) d_Pm_seen_53 (by decide) ?_
    exact V_cSt s_Pm_seen_54 (ndA_f hNT) rfl rfl (Nat.le_of_ble_eq_true rfl) rfl
theorem pm_seen_f (c_Pm : h[0]? = some PmO) (c_Pl : h[5]? = some (PlO n sp)) (a_Pl_noted : h[7]? = some (ZA 48 Bn)) (hn : n ≤ 12) (p q : Nat) (x y : Int32) (hp : p < n) (hq : q < 4) (hx : x < 0) : Do l G k_Pm_seen [.ref 1, .int (nI p), .int (nI q), .int x, .int y] h (rz (Bn (p * 4 + q))) (h.set 7 (ZA 48 (updB Bn (p * 4 + q) false))) := by
  refine Do.of (by decide) (Nat.le_of_ble_eq_true rfl) kw_Pm_seen ?_
  have e1 : hasB (nI p) n = true := has_n hp (by omega)
  have e2 : wiB (nI q) 0 3 = true := wi_n (b := 3) (by omega) (by decide)
  refine V_aload_n d_Pm_seen_0 rfl ?_
  refine V_gf g_Pm_seen_1 c_Pm rfl ?_
  refine V_iload_n d_Pm_seen_4 rfl ?_
  refine V_cV s_Pm_seen_5 (do_Pl_has c_Pl (nI p)) c_Pl rfl rfl (Nat.le_of_ble_eq_true rfl) ?_
  refine V_if_eq (tgt := 22) d_Pm_seen_8 (by decide) (fun c9 => absurd c9 ((by rw [e1]; decide : ¬ bI (hasB (nI p) n) = 0))) (fun _ => ?_)
  refine V_iload_n d_Pm_seen_11 rfl ?_
  refine V_cS s_Pm_seen_12 (do_isPhoto (nI q)) rfl rfl (Nat.le_of_ble_eq_true rfl) ?_
  refine V_if_eq (tgt := 22) d_Pm_seen_15 (by decide) (fun c9 => absurd c9 ((by rw [e2]; decide : ¬ bI (wiB (nI q) 0 3) = 0))) (fun _ => ?_)
  refine V_iconst (v := 1) d_Pm_seen_18 (by decide) ?_
  refine V_goto (tgt := 23) d_Pm_seen_19 (by decide) ?_
  refine V_cS s_Pm_seen_23 ndI_t rfl rfl (Nat.le_of_ble_eq_true rfl) ?_
  refine V_iload_n d_Pm_seen_26 rfl ?_
  refine V_if_lt (tgt := 49) d_Pm_seen_27 (by decide) (fun _ => ?_) (fun c9 => absurd (hx) c9)
  refine V_iconst (v := 1) d_Pm_seen_49 (by decide) ?_
  refine V_goto (tgt := 54) d_Pm_seen_50 (by decide) ?_
  refine V_cS s_Pm_seen_54 ndA_t rfl rfl (Nat.le_of_ble_eq_true rfl) ?_
  refine V_iload_n d_Pm_seen_57 rfl ?_
  refine V_if_ge (tgt := 73) d_Pm_seen_58 (by decide) (fun c9 => absurd c9 ((nle_iff.mpr hx))) (fun _ => ?_)
  refine V_aload_n d_Pm_seen_61 rfl ?_
  refine V_gf g_Pm_seen_62 c_Pm rfl ?_
  refine V_iload_n d_Pm_seen_65 rfl ?_
  refine V_iload_n d_Pm_seen_66 rfl ?_
  refine V_cV s_Pm_seen_67 (do_Pl_forget c_Pl a_Pl_noted (show p < 12 by omega) hq) c_Pl rfl rfl (Nat.le_of_ble_eq_true rfl) ?_
  refine V_goto (tgt := 85) d_Pm_seen_70 (by decide) ?_
  exact V_iret d_Pm_seen_85 rfl (by first | rfl | exact bI_n _)
theorem pm_seen (c_Pm : h[0]? = some PmO) (c_Pl : h[5]? = some (PlO n sp)) (a_Pl_noted : h[7]? = some (ZA 48 Bn)) (a_Pl_where : h[8]? = some (IA 96 wh)) (hn : n ≤ 12) (p q : Nat) (x y : Int32) (hp : p < n) (hq : q < 4) (hx : ¬ x < 0) (hx2 : x ≤ 999) (hy : wiB y 0 999 = true) : Do l G k_Pm_seen [.ref 1, .int (nI p), .int (nI q), .int x, .int y] h (rz (Bn (p * 4 + q))) ((h.set 7 (ZA 48 (updB Bn (p * 4 + q) true))).set 8 (IA 96 (upd (upd wh ((p * 4 + q) * 2) x) ((p * 4 + q) * 2 + 1) y))) := by
  refine Do.of (by decide) (Nat.le_of_ble_eq_true rfl) kw_Pm_seen ?_
  have e1 : hasB (nI p) n = true := has_n hp (by omega)
  have e2 : wiB (nI q) 0 3 = true := wi_n (b := 3) (by omega) (by decide)
  refine V_aload_n d_Pm_seen_0 rfl ?_
  refine V_gf g_Pm_seen_1 c_Pm rfl ?_
  refine V_iload_n d_Pm_seen_4 rfl ?_
  refine V_cV s_Pm_seen_5 (do_Pl_has c_Pl (nI p)) c_Pl rfl rfl (Nat.le_of_ble_eq_true rfl) ?_
  refine V_if_eq (tgt := 22) d_Pm_seen_8 (by decide) (fun c9 => absurd c9 ((by rw [e1]; decide : ¬ bI (hasB (nI p) n) = 0))) (fun _ => ?_)
  refine V_iload_n d_Pm_seen_11 rfl ?_
  refine V_cS s_Pm_seen_12 (do_isPhoto (nI q)) rfl rfl (Nat.le_of_ble_eq_true rfl) ?_
  refine V_if_eq (tgt := 22) d_Pm_seen_15 (by decide) (fun c9 => absurd c9 ((by rw [e2]; decide : ¬ bI (wiB (nI q) 0 3) = 0))) (fun _ => ?_)
  refine V_iconst (v := 1) d_Pm_seen_18 (by decide) ?_
  refine V_goto (tgt := 23) d_Pm_seen_19 (by decide) ?_
  refine V_cS s_Pm_seen_23 ndI_t rfl rfl (Nat.le_of_ble_eq_true rfl) ?_
  refine V_iload_n d_Pm_seen_26 rfl ?_
  refine V_if_lt (tgt := 49) d_Pm_seen_27 (by decide) (fun c9 => absurd c9 (hx)) (fun _ => ?_)
  refine V_iload_n d_Pm_seen_30 rfl ?_
  refine V_sipush (v := 999) d_Pm_seen_31 (by decide) ?_
  refine V_icmp_gt (tgt := 53) d_Pm_seen_34 (by decide) (fun c9 => absurd c9 ((nlt_iff.mpr hx2))) (fun _ => ?_)
  refine V_iload d_Pm_seen_37 rfl ?_
  refine V_iconst (v := 0) d_Pm_seen_39 (by decide) ?_
  refine V_sipush (v := 999) d_Pm_seen_40 (by decide) ?_
  refine V_cS s_Pm_seen_43 (do_isWithin y 0 999) rfl rfl (Nat.le_of_ble_eq_true rfl) ?_
  refine V_if_eq (tgt := 53) d_Pm_seen_46 (by decide) (fun c9 => absurd c9 ((by rw [hy]; decide : ¬ bI (wiB y 0 999) = 0))) (fun _ => ?_)
  refine V_iconst (v := 1) d_Pm_seen_49 (by decide) ?_
  refine V_goto (tgt := 54) d_Pm_seen_50 (by decide) ?_
  refine V_cS s_Pm_seen_54 ndA_t rfl rfl (Nat.le_of_ble_eq_true rfl) ?_
  refine V_iload_n d_Pm_seen_57 rfl ?_
  refine V_if_ge (tgt := 73) d_Pm_seen_58 (by decide) (fun _ => ?_) (fun c9 => absurd ((nlt_iff.mp hx)) c9)
  refine V_aload_n d_Pm_seen_73 rfl ?_
  refine V_gf g_Pm_seen_74 c_Pm rfl ?_
  refine V_iload_n d_Pm_seen_77 rfl ?_
  refine V_iload_n d_Pm_seen_78 rfl ?_
  refine V_iload_n d_Pm_seen_79 rfl ?_
  refine V_iload d_Pm_seen_80 rfl ?_
  refine V_cV s_Pm_seen_82 (do_Pl_note c_Pl a_Pl_noted a_Pl_where (show p < 12 by omega) hq x y) c_Pl rfl rfl (Nat.le_of_ble_eq_true rfl) ?_
  exact V_iret d_Pm_seen_85 rfl (by first | rfl | exact bI_n _)
/-- relative -/
theorem pm_relative_i (hNT : NoTr l) (a b t tol : Int32) (hc : (wiB a 0 3 && wiB b 0 3) = false) : Do l G k_Pm_relative [.ref 1, .int a, .int b, .int t, .int tol] h (.inr h.length) (h ++ [exI]) := by
  refine Do.of (by decide) (Nat.le_of_ble_eq_true rfl) kw_Pm_relative ?_
  refine V_iload_n d_Pm_relative_0 rfl ?_
  refine V_cS s_Pm_relative_1 (do_isPhoto a) rfl rfl (Nat.le_of_ble_eq_true rfl) ?_
  refine V_if_eq (tgt := 18) d_Pm_relative_4 (by decide) (fun c1 => ?_) (fun c1 => ?_)
  · refine V_iconst (v := 0) d_Pm_relative_18 (by decide) ?_
    exact V_cSt s_Pm_relative_19 (ndI_f hNT) rfl rfl (Nat.le_of_ble_eq_true rfl) rfl
  · have c1' : wiB a 0 3 = true := by simpa [bI_0] using c1
    rw [c1', Bool.true_and] at hc
    refine V_iload_n d_Pm_relative_7 rfl ?_
    refine V_cS s_Pm_relative_8 (do_isPhoto b) rfl rfl (Nat.le_of_ble_eq_true rfl) ?_
    refine V_if_eq (tgt := 18) d_Pm_relative_11 (by decide) (fun _ => ?_) (fun c9 => absurd (((bI_0 _).mpr hc)) c9)
    refine V_iconst (v := 0) d_Pm_relative_18 (by decide) ?_
    exact V_cSt s_Pm_relative_19 (ndI_f hNT) rfl rfl (Nat.le_of_ble_eq_true rfl) rfl
theorem pm_relative_a (hNT : NoTr l) (a b t tol : Int32) (hc : (wiB a 0 3 && wiB b 0 3) = true) (hs : (wiB t 1 20 && wiB tol 0 100) = false) : Do l G k_Pm_relative [.ref 1, .int a, .int b, .int t, .int tol] h (.inr h.length) (h ++ [exA]) := by
  refine Do.of (by decide) (Nat.le_of_ble_eq_true rfl) kw_Pm_relative ?_
  simp only [Bool.and_eq_true] at hc
  refine V_iload_n d_Pm_relative_0 rfl ?_
  refine V_cS s_Pm_relative_1 (do_isPhoto a) rfl rfl (Nat.le_of_ble_eq_true rfl) ?_
  refine V_if_eq (tgt := 18) d_Pm_relative_4 (by decide) (fun c9 => absurd c9 ((by rw [hc.1]; decide : ¬ bI (wiB a 0 3) = 0))) (fun _ => ?_)
  refine V_iload_n d_Pm_relative_7 rfl ?_
  refine V_cS s_Pm_relative_8 (do_isPhoto b) rfl rfl (Nat.le_of_ble_eq_true rfl) ?_
  refine V_if_eq (tgt := 18) d_Pm_relative_11 (by decide) (fun c9 => absurd c9 ((by rw [hc.2]; decide : ¬ bI (wiB b 0 3) = 0))) (fun _ => ?_)
  refine V_iconst (v := 1) d_Pm_relative_14 (by decide) ?_
  refine V_goto (tgt := 19) d_Pm_relative_15 (by decide) ?_
  refine V_cS s_Pm_relative_19 ndI_t rfl rfl (Nat.le_of_ble_eq_true rfl) ?_
  refine V_iload_n d_Pm_relative_22 rfl ?_
  refine V_iconst (v := 1) d_Pm_relative_23 (by decide) ?_
  refine V_bipush (v := 20) d_Pm_relative_24 (by decide) ?_
  refine V_cS s_Pm_relative_26 (do_isWithin t 1 20) rfl rfl (Nat.le_of_ble_eq_true rfl) ?_
  cases ht : wiB t 1 20 with
  | false => exact V_cSt s_Pm_relative_29 (ndA_f hNT) rfl rfl (Nat.le_of_ble_eq_true rfl) rfl
  | true =>
    rw [ht, Bool.true_and] at hs
    refine V_cS s_Pm_relative_29 ndA_t rfl rfl (Nat.le_of_ble_eq_true rfl) ?_
    refine V_iload d_Pm_relative_32 rfl ?_
    refine V_iconst (v := 0) d_Pm_relative_34 (by decide) ?_
    refine V_bipush (v := 100) d_Pm_relative_35 (by decide) ?_
    refine V_cS s_Pm_relative_37 (do_isWithin tol 0 100) rfl rfl (Nat.le_of_ble_eq_true rfl) ?_
    rw [hs]
    exact V_cSt s_Pm_relative_40 (ndA_f hNT) rfl rfl (Nat.le_of_ble_eq_true rfl) rfl
theorem pm_relative (hL : 27 ≤ h.length) (c_Pm : h[0]? = some PmO) (c_Pl : h[5]? = some (PlO n sp)) (a_Pl_aside : h[6]? = some (ZA 12 As)) (a_Pl_noted : h[7]? = some (ZA 48 Bn)) (a_Pl_where : h[8]? = some (IA 96 wh)) {sx sy : Nat → Int32} (c_Ag : h[9]? = some (AgO sd nm rc bx y9)) (a1 : h[10]? = some (IA 12 sx)) (a2 : h[11]? = some (IA 12 sy)) (hn : n ≤ 12) (hs : sd ≤ 65536) (a b t : Nat) (tol : Int32) (ha : a < 4) (hb : b < 4) (ht : 1 ≤ t ∧ t ≤ 20) (htol : wiB tol 0 100 = true) (g : Gt) (hg : g = gtR Bn wh a b n sx sy) (d : Dr) (hd : d = drR g sd tol t bx y9) : Do l G k_Pm_relative [.ref 1, .int (nI a), .int (nI b), .int (nI t), .int tol] h (ri (nI d.1)) (agH h n sp As Bn wh sd (decide (0 < g.1)) d.2.1 d.2.2 g) := by
  refine Do.of (by decide) (Nat.le_of_ble_eq_true rfl) kw_Pm_relative ?_
  have e1 : wiB (nI a) 0 3 = true := wi_n (b := 3) (by omega) (by decide)
  have e2 : wiB (nI b) 0 3 = true := wi_n (b := 3) (by omega) (by decide)
  have e3 : wiB (nI t) 1 20 = true := by
    simp only [wiB, Bool.and_eq_true, decide_eq_true_eq]
    exact ⟨nI_le (a := 1) ht.1 (by omega), nI_le (b := 20) ht.2 (by decide)⟩
  refine V_iload_n d_Pm_relative_0 rfl ?_
  refine V_cS s_Pm_relative_1 (do_isPhoto (nI a)) rfl rfl (Nat.le_of_ble_eq_true rfl) ?_
  refine V_if_eq (tgt := 18) d_Pm_relative_4 (by decide) (fun c9 => absurd c9 ((by rw [e1]; decide : ¬ bI (wiB (nI a) 0 3) = 0))) (fun _ => ?_)
  refine V_iload_n d_Pm_relative_7 rfl ?_
  refine V_cS s_Pm_relative_8 (do_isPhoto (nI b)) rfl rfl (Nat.le_of_ble_eq_true rfl) ?_
  refine V_if_eq (tgt := 18) d_Pm_relative_11 (by decide) (fun c9 => absurd c9 ((by rw [e2]; decide : ¬ bI (wiB (nI b) 0 3) = 0))) (fun _ => ?_)
  refine V_iconst (v := 1) d_Pm_relative_14 (by decide) ?_
  refine V_goto (tgt := 19) d_Pm_relative_15 (by decide) ?_
  refine V_cS s_Pm_relative_19 ndI_t rfl rfl (Nat.le_of_ble_eq_true rfl) ?_
  refine V_iload_n d_Pm_relative_22 rfl ?_
  refine V_iconst (v := 1) d_Pm_relative_23 (by decide) ?_
  refine V_bipush (v := 20) d_Pm_relative_24 (by decide) ?_
  refine V_cS s_Pm_relative_26 (do_isWithin (nI t) 1 20) rfl rfl (Nat.le_of_ble_eq_true rfl) ?_
  rw [e3]
  refine V_cS s_Pm_relative_29 ndA_t rfl rfl (Nat.le_of_ble_eq_true rfl) ?_
  refine V_iload d_Pm_relative_32 rfl ?_
  refine V_iconst (v := 0) d_Pm_relative_34 (by decide) ?_
  refine V_bipush (v := 100) d_Pm_relative_35 (by decide) ?_
  refine V_cS s_Pm_relative_37 (do_isWithin tol 0 100) rfl rfl (Nat.le_of_ble_eq_true rfl) ?_
  rw [htol]
  refine V_cS s_Pm_relative_40 ndA_t rfl rfl (Nat.le_of_ble_eq_true rfl) ?_
  have hid : agH h n sp As Bn wh sd rc bx y9 (nm, sx, sy) = h := hS_id (okS_cons c_Pl (okS_cons a_Pl_aside (okS_cons a_Pl_noted (okS_cons a_Pl_where (okS_cons c_Ag (okS_cons a1 (okS_cons a2 okS_nil)))))))
  refine V_aload_n d_Pm_relative_43 rfl ?_
  refine V_gf g_Pm_relative_44 c_Pm rfl ?_
  refine V_aload_n d_Pm_relative_47 rfl ?_
  refine V_gf g_Pm_relative_48 c_Pm rfl ?_
  refine V_iload_n d_Pm_relative_51 rfl ?_
  refine V_iload_n d_Pm_relative_52 rfl ?_
  refine V_iload_n d_Pm_relative_53 rfl ?_
  refine V_iload d_Pm_relative_54 rfl ?_
  refine V_cV s_Pm_relative_56 ((do_Ag_draw hL hn hs a b t tol ha hb ht.2 nm g hg d hd).eqh hid rfl) c_Ag rfl rfl (Nat.le_of_ble_eq_true rfl) ?_
  exact V_iret d_Pm_relative_59 rfl rfl
/-- shift -/
theorem pm_shift_i (hNT : NoTr l) (x : Int32) (hc : wiB x 0 1 = false) : Do l G k_Pm_shift [.ref 1, .int x] h (.inr h.length) (h ++ [exI]) := by
  refine Do.of (by decide) (Nat.le_of_ble_eq_true rfl) kw_Pm_shift ?_
  refine V_iload_n d_Pm_shift_0 rfl ?_
  refine V_cS s_Pm_shift_1 (do_isAxis x) rfl rfl (Nat.le_of_ble_eq_true rfl) ?_
  rw [hc]
  exact V_cSt s_Pm_shift_4 (ndI_f hNT) rfl rfl (Nat.le_of_ble_eq_true rfl) rfl
theorem pm_shift_s (hNT : NoTr l) (c_Pm : h[0]? = some PmO) (c_Ag : h[9]? = some (AgO sd nm false bx y9)) (x : Int32) (hc : wiB x 0 1 = true) : Do l G k_Pm_shift [.ref 1, .int x] h (.inr h.length) (h ++ [exS]) := by
  refine Do.of (by decide) (Nat.le_of_ble_eq_true rfl) kw_Pm_shift ?_
  refine V_iload_n d_Pm_shift_0 rfl ?_
  refine V_cS s_Pm_shift_1 (do_isAxis x) rfl rfl (Nat.le_of_ble_eq_true rfl) ?_
  rw [hc]
  refine V_cS s_Pm_shift_4 ndI_t rfl rfl (Nat.le_of_ble_eq_true rfl) ?_
  refine V_aload_n d_Pm_shift_7 rfl ?_
  refine V_gf g_Pm_shift_8 c_Pm rfl ?_
  refine V_cV s_Pm_shift_11 (do_Ag_isReached c_Ag) c_Ag rfl rfl (Nat.le_of_ble_eq_true rfl) ?_
  exact V_cSt s_Pm_shift_14 (ndS_f hNT) rfl rfl (Nat.le_of_ble_eq_true rfl) rfl
theorem pm_shift (c_Pm : h[0]? = some PmO) (c_Ag : h[9]? = some (AgO sd nm true bx y9)) (x : Int32) (hc : wiB x 0 1 = true) : Do l G k_Pm_shift [.ref 1, .int x] h (ri (if x = 0 then bx else y9)) h := by
  refine Do.of (by decide) (Nat.le_of_ble_eq_true rfl) kw_Pm_shift ?_
  refine V_iload_n d_Pm_shift_0 rfl ?_
  refine V_cS s_Pm_shift_1 (do_isAxis x) rfl rfl (Nat.le_of_ble_eq_true rfl) ?_
  rw [hc]
  refine V_cS s_Pm_shift_4 ndI_t rfl rfl (Nat.le_of_ble_eq_true rfl) ?_
  refine V_aload_n d_Pm_shift_7 rfl ?_
  refine V_gf g_Pm_shift_8 c_Pm rfl ?_
  refine V_cV s_Pm_shift_11 (do_Ag_isReached c_Ag) c_Ag rfl rfl (Nat.le_of_ble_eq_true rfl) ?_
  refine V_cS s_Pm_shift_14 ndS_t rfl rfl (Nat.le_of_ble_eq_true rfl) ?_
  refine V_aload_n d_Pm_shift_17 rfl ?_
  refine V_gf g_Pm_shift_18 c_Pm rfl ?_
  refine V_iload_n d_Pm_shift_21 rfl ?_
  refine V_cV s_Pm_shift_22 (do_Ag_along c_Ag x) c_Ag rfl rfl (Nat.le_of_ble_eq_true rfl) ?_
  exact V_iret d_Pm_shift_25 rfl rfl
/-- spare -/
theorem pm_spare_i (hNT : NoTr l) (c_Pm : h[0]? = some PmO) (c_Pl : h[5]? = some (PlO n sp)) (p : Int32) (b : Bool) (hc : hasB p n = false) : Do l G k_Pm_spare [.ref 1, .int p, .int (bI b)] h (.inr h.length) (h ++ [exI]) := by
  refine Do.of (by decide) (Nat.le_of_ble_eq_true rfl) kw_Pm_spare ?_
  refine V_aload_n d_Pm_spare_0 rfl ?_
  refine V_gf g_Pm_spare_1 c_Pm rfl ?_
  refine V_iload_n d_Pm_spare_4 rfl ?_
  refine V_cV s_Pm_spare_5 (do_Pl_has c_Pl p) c_Pl rfl rfl (Nat.le_of_ble_eq_true rfl) ?_
  rw [hc]
  exact V_cSt s_Pm_spare_8 (ndI_f hNT) rfl rfl (Nat.le_of_ble_eq_true rfl) rfl
theorem pm_spare (c_Pm : h[0]? = some PmO) (c_Pl : h[5]? = some (PlO n sp)) (a_Pl_aside : h[6]? = some (ZA 12 As)) (hn : n ≤ 12) (p : Nat) (hp : p < n) (b : Bool) : Do l G k_Pm_spare [.ref 1, .int (nI p), .int (bI b)] h (rz (As p != b)) (if As p = b then h else (h.set 6 (ZA 12 (updB As p b))).set 5 (PlO n (sp + if b then 1 else -1))) := by
  refine Do.of (by decide) (Nat.le_of_ble_eq_true rfl) kw_Pm_spare ?_
  have e1 : hasB (nI p) n = true := has_n hp (by omega)
  refine V_aload_n d_Pm_spare_0 rfl ?_
  refine V_gf g_Pm_spare_1 c_Pm rfl ?_
  refine V_iload_n d_Pm_spare_4 rfl ?_
  refine V_cV s_Pm_spare_5 (do_Pl_has c_Pl (nI p)) c_Pl rfl rfl (Nat.le_of_ble_eq_true rfl) ?_
  rw [e1]
  refine V_cS s_Pm_spare_8 ndI_t rfl rfl (Nat.le_of_ble_eq_true rfl) ?_
  refine V_aload_n d_Pm_spare_11 rfl ?_
  refine V_gf g_Pm_spare_12 c_Pm rfl ?_
  refine V_iload_n d_Pm_spare_15 rfl ?_
  refine V_iload_n d_Pm_spare_16 rfl ?_
  refine V_cV s_Pm_spare_17 (do_Pl_setAside c_Pl a_Pl_aside (show p < 12 by omega) b) c_Pl rfl rfl (Nat.le_of_ble_eq_true rfl) ?_
  exact V_iret d_Pm_spare_20 rfl (by first | rfl | exact bI_n _)
/-- run, sum, at, offset, miss -/
theorem pm_run_a (hNT : NoTr l) (x : Int32) (hc : wiB x 0 20 = false) : Do l G k_Pm_run [.ref 1, .int x] h (.inr h.length) (h ++ [exA]) := by
  refine Do.of (by decide) (Nat.le_of_ble_eq_true rfl) kw_Pm_run ?_
  refine V_iload_n d_Pm_run_0 rfl ?_
  refine V_iconst (v := 0) d_Pm_run_1 (by decide) ?_
  refine V_bipush (v := 20) d_Pm_run_2 (by decide) ?_
  refine V_cS s_Pm_run_4 (do_isWithin x 0 20) rfl rfl (Nat.le_of_ble_eq_true rfl) ?_
  rw [hc]
  exact V_cSt s_Pm_run_7 (ndA_f hNT) rfl rfl (Nat.le_of_ble_eq_true rfl) rfl
theorem adH_id (c_Pl : h[5]? = some (PlO n sp)) (a_Pl_aside : h[6]? = some (ZA 12 As)) (a_Pl_noted : h[7]? = some (ZA 48 Bn)) (a_Pl_where : h[8]? = some (IA 96 wh)) (c_Ad : h[12]? = some AdO) (d1 : h[13]? = some (IA 24 P)) (d2 : h[14]? = some (IA 8 O)) (d3 : h[15]? = some (IA 24 PB)) (d4 : h[16]? = some (IA 8 OB)) : adH h n sp As Bn wh P O PB OB = h := hS_id (okS_cons c_Pl (okS_cons a_Pl_aside (okS_cons a_Pl_noted (okS_cons a_Pl_where (okS_cons c_Ad (okS_cons d1 (okS_cons d2 (okS_cons d3 (okS_cons d4 okS_nil)))))))))
theorem pm_run (hL : 27 ≤ h.length) (c_Pm : h[0]? = some PmO) (c_Pl : h[5]? = some (PlO n sp)) (c_Ad : h[12]? = some AdO) (hid : adH h n sp As Bn wh P O PB OB = h) (hn : n ≤ 12) (x : Nat) (hx : x ≤ 20) (R : Aj) (hR : R = ajR As Bn wh n x 0 (toR As Bn wh (psR Bn wh (z8 O) n P) (z8 O) n) (psR Bn wh (z8 O) n P) (z8 O) PB OB) : Do l G k_Pm_run [.ref 1, .int (nI x)] h (ri (nI R.1)) (adH h n sp As Bn wh R.2.1 R.2.2.1 R.2.2.2.1 R.2.2.2.2) := by
  refine Do.of (by decide) (Nat.le_of_ble_eq_true rfl) kw_Pm_run ?_
  have e1 : wiB (nI x) 0 20 = true := wi_n (b := 20) hx (by decide)
  refine V_iload_n d_Pm_run_0 rfl ?_
  refine V_iconst (v := 0) d_Pm_run_1 (by decide) ?_
  refine V_bipush (v := 20) d_Pm_run_2 (by decide) ?_
  refine V_cS s_Pm_run_4 (do_isWithin (nI x) 0 20) rfl rfl (Nat.le_of_ble_eq_true rfl) ?_
  rw [e1]
  refine V_cS s_Pm_run_7 ndA_t rfl rfl (Nat.le_of_ble_eq_true rfl) ?_
  refine V_aload_n d_Pm_run_10 rfl ?_
  refine V_gf g_Pm_run_11 c_Pm rfl ?_
  refine V_aload_n d_Pm_run_14 rfl ?_
  refine V_gf g_Pm_run_15 c_Pm rfl ?_
  refine V_iload_n d_Pm_run_18 rfl ?_
  refine V_cV s_Pm_run_19 ((do_Ad_adjust hL hn x hx R hR).eqh hid rfl) c_Ad rfl rfl (Nat.le_of_ble_eq_true rfl) ?_
  exact V_iret d_Pm_run_22 rfl rfl
theorem pm_sum (hL : 27 ≤ h.length) (c_Pm : h[0]? = some PmO) (c_Ad : h[12]? = some AdO) (hid : adH h n sp As Bn wh P O PB OB = h) (hn : n ≤ 12) : Do l G k_Pm_sum [.ref 1] h (rl (toR As Bn wh P O n)) h := by
  refine Do.of (by decide) (Nat.le_of_ble_eq_true rfl) kw_Pm_sum ?_
  refine V_aload_n d_Pm_sum_0 rfl ?_
  refine V_gf g_Pm_sum_1 c_Pm rfl ?_
  refine V_aload_n d_Pm_sum_4 rfl ?_
  refine V_gf g_Pm_sum_5 c_Pm rfl ?_
  refine V_cV s_Pm_sum_8 ((do_Ad_total hL hn).eqh hid hid) c_Ad rfl rfl (Nat.le_of_ble_eq_true rfl) ?_
  exact V_lret d_Pm_sum_11 rfl
theorem pm_at_i (hNT : NoTr l) (c_Pm : h[0]? = some PmO) (c_Pl : h[5]? = some (PlO n sp)) (p x : Int32) (hc : (hasB p n && wiB x 0 1) = false) : Do l G k_Pm_at [.ref 1, .int p, .int x] h (.inr h.length) (h ++ [exI]) := by
  refine Do.of (by decide) (Nat.le_of_ble_eq_true rfl) kw_Pm_at ?_
  refine V_aload_n d_Pm_at_0 rfl ?_
  refine V_gf g_Pm_at_1 c_Pm rfl ?_
  refine V_iload_n d_Pm_at_4 rfl ?_
  refine V_cV s_Pm_at_5 (do_Pl_has c_Pl p) c_Pl rfl rfl (Nat.le_of_ble_eq_true rfl) ?_
  refine V_if_eq (tgt := 22) d_Pm_at_8 (by decide) (fun c1 => ?_) (fun c1 => ?_)
  · refine V_iconst (v := 0) d_Pm_at_22 (by decide) ?_
    exact V_cSt s_Pm_at_23 (ndI_f hNT) rfl rfl (Nat.le_of_ble_eq_true rfl) rfl
  · have c1' : hasB p n = true := by simpa [bI_0] using c1
    rw [c1', Bool.true_and] at hc
    refine V_iload_n d_Pm_at_11 rfl ?_
    refine V_cS s_Pm_at_12 (do_isAxis x) rfl rfl (Nat.le_of_ble_eq_true rfl) ?_
    refine V_if_eq (tgt := 22) d_Pm_at_15 (by decide) (fun _ => ?_) (fun c9 => absurd (((bI_0 _).mpr hc)) c9)
    refine V_iconst (v := 0) d_Pm_at_22 (by decide) ?_
    exact V_cSt s_Pm_at_23 (ndI_f hNT) rfl rfl (Nat.le_of_ble_eq_true rfl) rfl
theorem pm_at (c_Pm : h[0]? = some PmO) (c_Pl : h[5]? = some (PlO n sp)) (c_Ad : h[12]? = some AdO) (d1 : h[13]? = some (IA 24 P)) (hn : n ≤ 12) (p x : Nat) (hp : p < n) (hx : x < 2) : Do l G k_Pm_at [.ref 1, .int (nI p), .int (nI x)] h (ri (P (p * 2 + x))) h := by
  refine Do.of (by decide) (Nat.le_of_ble_eq_true rfl) kw_Pm_at ?_
  have e1 : hasB (nI p) n = true := has_n hp (by omega)
  have e2 : wiB (nI x) 0 1 = true := wi_n (b := 1) (by omega) (by decide)
  refine V_aload_n d_Pm_at_0 rfl ?_
  refine V_gf g_Pm_at_1 c_Pm rfl ?_
  refine V_iload_n d_Pm_at_4 rfl ?_
  refine V_cV s_Pm_at_5 (do_Pl_has c_Pl (nI p)) c_Pl rfl rfl (Nat.le_of_ble_eq_true rfl) ?_
  refine V_if_eq (tgt := 22) d_Pm_at_8 (by decide) (fun c9 => absurd c9 ((by rw [e1]; decide : ¬ bI (hasB (nI p) n) = 0))) (fun _ => ?_)
  refine V_iload_n d_Pm_at_11 rfl ?_
  refine V_cS s_Pm_at_12 (do_isAxis (nI x)) rfl rfl (Nat.le_of_ble_eq_true rfl) ?_
  refine V_if_eq (tgt := 22) d_Pm_at_15 (by decide) (fun c9 => absurd c9 ((by rw [e2]; decide : ¬ bI (wiB (nI x) 0 1) = 0))) (fun _ => ?_)
  refine V_iconst (v := 1) d_Pm_at_18 (by decide) ?_
  refine V_goto (tgt := 23) d_Pm_at_19 (by decide) ?_
  refine V_cS s_Pm_at_23 ndI_t rfl rfl (Nat.le_of_ble_eq_true rfl) ?_
  refine V_aload_n d_Pm_at_26 rfl ?_
  refine V_gf g_Pm_at_27 c_Pm rfl ?_
  refine V_iload_n d_Pm_at_30 rfl ?_
  refine V_iload_n d_Pm_at_31 rfl ?_
  refine V_cV s_Pm_at_32 (do_Ad_position c_Ad d1 p x (by omega) hx) c_Ad rfl rfl (Nat.le_of_ble_eq_true rfl) ?_
  exact V_iret d_Pm_at_35 rfl rfl
theorem pm_offset_i (hNT : NoTr l) (q x : Int32) (hc : (wiB q 0 3 && wiB x 0 1) = false) : Do l G k_Pm_offset [.ref 1, .int q, .int x] h (.inr h.length) (h ++ [exI]) := by
  refine Do.of (by decide) (Nat.le_of_ble_eq_true rfl) kw_Pm_offset ?_
  refine V_iload_n d_Pm_offset_0 rfl ?_
  refine V_cS s_Pm_offset_1 (do_isPhoto q) rfl rfl (Nat.le_of_ble_eq_true rfl) ?_
  refine V_if_eq (tgt := 18) d_Pm_offset_4 (by decide) (fun c1 => ?_) (fun c1 => ?_)
  · refine V_iconst (v := 0) d_Pm_offset_18 (by decide) ?_
    exact V_cSt s_Pm_offset_19 (ndI_f hNT) rfl rfl (Nat.le_of_ble_eq_true rfl) rfl
  · have c1' : wiB q 0 3 = true := by simpa [bI_0] using c1
    rw [c1', Bool.true_and] at hc
    refine V_iload_n d_Pm_offset_7 rfl ?_
    refine V_cS s_Pm_offset_8 (do_isAxis x) rfl rfl (Nat.le_of_ble_eq_true rfl) ?_
    refine V_if_eq (tgt := 18) d_Pm_offset_11 (by decide) (fun _ => ?_) (fun c9 => absurd (((bI_0 _).mpr hc)) c9)
    refine V_iconst (v := 0) d_Pm_offset_18 (by decide) ?_
    exact V_cSt s_Pm_offset_19 (ndI_f hNT) rfl rfl (Nat.le_of_ble_eq_true rfl) rfl
theorem pm_offset (c_Pm : h[0]? = some PmO) (c_Ad : h[12]? = some AdO) (d2 : h[14]? = some (IA 8 O)) (q x : Nat) (hq : q < 4) (hx : x < 2) : Do l G k_Pm_offset [.ref 1, .int (nI q), .int (nI x)] h (ri (O (q * 2 + x))) h := by
  refine Do.of (by decide) (Nat.le_of_ble_eq_true rfl) kw_Pm_offset ?_
  have e1 : wiB (nI q) 0 3 = true := wi_n (b := 3) (by omega) (by decide)
  have e2 : wiB (nI x) 0 1 = true := wi_n (b := 1) (by omega) (by decide)
  refine V_iload_n d_Pm_offset_0 rfl ?_
  refine V_cS s_Pm_offset_1 (do_isPhoto (nI q)) rfl rfl (Nat.le_of_ble_eq_true rfl) ?_
  refine V_if_eq (tgt := 18) d_Pm_offset_4 (by decide) (fun c9 => absurd c9 ((by rw [e1]; decide : ¬ bI (wiB (nI q) 0 3) = 0))) (fun _ => ?_)
  refine V_iload_n d_Pm_offset_7 rfl ?_
  refine V_cS s_Pm_offset_8 (do_isAxis (nI x)) rfl rfl (Nat.le_of_ble_eq_true rfl) ?_
  refine V_if_eq (tgt := 18) d_Pm_offset_11 (by decide) (fun c9 => absurd c9 ((by rw [e2]; decide : ¬ bI (wiB (nI x) 0 1) = 0))) (fun _ => ?_)
  refine V_iconst (v := 1) d_Pm_offset_14 (by decide) ?_
  refine V_goto (tgt := 19) d_Pm_offset_15 (by decide) ?_
  refine V_cS s_Pm_offset_19 ndI_t rfl rfl (Nat.le_of_ble_eq_true rfl) ?_
  refine V_aload_n d_Pm_offset_22 rfl ?_
  refine V_gf g_Pm_offset_23 c_Pm rfl ?_
  refine V_iload_n d_Pm_offset_26 rfl ?_
  refine V_iload_n d_Pm_offset_27 rfl ?_
  refine V_cV s_Pm_offset_28 (do_Ad_moved c_Ad d2 q x hq hx) c_Ad rfl rfl (Nat.le_of_ble_eq_true rfl) ?_
  exact V_iret d_Pm_offset_31 rfl rfl
theorem pm_miss_i (hNT : NoTr l) (c_Pm : h[0]? = some PmO) (c_Pl : h[5]? = some (PlO n sp)) (p : Int32) (hc : hasB p n = false) : Do l G k_Pm_miss [.ref 1, .int p] h (.inr h.length) (h ++ [exI]) := by
  refine Do.of (by decide) (Nat.le_of_ble_eq_true rfl) kw_Pm_miss ?_
  refine V_aload_n d_Pm_miss_0 rfl ?_
  refine V_gf g_Pm_miss_1 c_Pm rfl ?_
  refine V_iload_n d_Pm_miss_4 rfl ?_
  refine V_cV s_Pm_miss_5 (do_Pl_has c_Pl p) c_Pl rfl rfl (Nat.le_of_ble_eq_true rfl) ?_
  rw [hc]
  exact V_cSt s_Pm_miss_8 (ndI_f hNT) rfl rfl (Nat.le_of_ble_eq_true rfl) rfl
theorem pm_miss (hL : 27 ≤ h.length) (c_Pm : h[0]? = some PmO) (c_Pl : h[5]? = some (PlO n sp)) (c_Ad : h[12]? = some AdO) (hid : adH h n sp As Bn wh P O PB OB = h) (hn : n ≤ 12) (p : Nat) (hp : p < n) : Do l G k_Pm_miss [.ref 1, .int (nI p)] h (rl (shR Bn wh P O p)) h := by
  refine Do.of (by decide) (Nat.le_of_ble_eq_true rfl) kw_Pm_miss ?_
  have e1 : hasB (nI p) n = true := has_n hp (by omega)
  refine V_aload_n d_Pm_miss_0 rfl ?_
  refine V_gf g_Pm_miss_1 c_Pm rfl ?_
  refine V_iload_n d_Pm_miss_4 rfl ?_
  refine V_cV s_Pm_miss_5 (do_Pl_has c_Pl (nI p)) c_Pl rfl rfl (Nat.le_of_ble_eq_true rfl) ?_
  rw [e1]
  refine V_cS s_Pm_miss_8 ndI_t rfl rfl (Nat.le_of_ble_eq_true rfl) ?_
  refine V_aload_n d_Pm_miss_11 rfl ?_
  refine V_gf g_Pm_miss_12 c_Pm rfl ?_
  refine V_aload_n d_Pm_miss_15 rfl ?_
  refine V_gf g_Pm_miss_16 c_Pm rfl ?_
  refine V_iload_n d_Pm_miss_19 rfl ?_
  refine V_cV s_Pm_miss_20 ((do_Ad_share hL p (by omega)).eqh hid hid) c_Ad rfl rfl (Nat.le_of_ble_eq_true rfl) ?_
  exact V_lret d_Pm_miss_23 rfl
end P27
