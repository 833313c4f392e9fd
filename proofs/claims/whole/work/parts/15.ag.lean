section P15
theorem bI_f (b : Bool) : fits .boolean (.int (bI b)) = true := by cases b <;> decide
variable {l : Launch} {G : Gb} {h : List Ce} {sd nm : Nat} {rc : Bool} {bx y9 : Int32} {sx sy : Nat → Int32}
abbrev AgO (sd nm : Nat) (rc : Bool) (bx y9 : Int32) : Ce := .inr (1, [.int (nI sd), .ref 11, .ref 12, .int (nI nm), .int (bI rc), .int bx, .int y9])
theorem do_Ag_isReached (c_Ag : h[9]? = some (AgO sd nm rc bx y9)) : Do l G k_Ag_isReached [.ref 10] h (rz rc) h := by
  refine Do.of (by decide) (Nat.le_of_ble_eq_true rfl) kw_Ag_isReached ?_
  refine V_aload_n d_Ag_isReached_0 rfl ?_
  refine V_gf g_Ag_isReached_1 c_Ag rfl ?_
  exact V_iret d_Ag_isReached_4 rfl (by first | rfl | exact bI_n _)
theorem do_Ag_along (c_Ag : h[9]? = some (AgO sd nm rc bx y9)) (x : Int32) : Do l G k_Ag_along [.ref 10, .int x] h (ri (if x = 0 then bx else y9)) h := by
  refine Do.of (by decide) (Nat.le_of_ble_eq_true rfl) kw_Ag_along ?_
  refine V_iload_n d_Ag_along_0 rfl ?_
  refine V_if_ne (tgt := 11) d_Ag_along_1 (by decide) (fun c2 => ?_) (fun c2 => ?_)
  · rw [if_neg c2]
    refine V_aload_n d_Ag_along_11 rfl ?_
    refine V_gf g_Ag_along_12 c_Ag rfl ?_
    exact V_iret d_Ag_along_15 rfl rfl
  · rw [if_pos c2]
    refine V_aload_n d_Ag_along_4 rfl ?_
    refine V_gf g_Ag_along_5 c_Ag rfl ?_
    refine V_goto (tgt := 15) d_Ag_along_8 (by decide) ?_
    exact V_iret d_Ag_along_15 rfl rfl
/-- the drawn number t -/
def dzN (s t : Nat) : Nat := fori (fun _ z => (75 * z + 74) % 65537) 3 0 ((s + 101 * t) % 65537)
theorem do_Ag_drawnNumber (c_Ag : h[9]? = some (AgO sd nm rc bx y9)) (hs : sd ≤ 65536) (t : Nat) (ht : t ≤ 20) : Do l G k_Ag_drawnNumber [.ref 10, .int (nI t)] h (ri (nI (dzN sd t))) h := by
  refine Do.of (by decide) (Nat.le_of_ble_eq_true rfl) kw_Ag_drawnNumber ?_
  have loop : ∀ (n i z : Nat), i + n = 3 → z < 65537 → dzN sd t = fori (fun _ z => (75 * z + 74) % 65537) n i z → V l G k_Ag_drawnNumber h 15 [(0, .ref 10), (1, .int (nI t)), (2, .int (nI z)), (3, .int (nI i))] [] h (ri (nI (dzN sd t))) h := by
    intro n
    induction n with
    | zero =>
      intro i z hi hz e
      obtain rfl : i = 3 := by omega
      rw [e]
      refine V_iload_n d_Ag_drawnNumber_15 rfl ?_
      refine V_iconst (v := 3) d_Ag_drawnNumber_16 (by decide) ?_
      refine V_icmp_ge (tgt := 37) d_Ag_drawnNumber_17 (by decide) (fun _ => ?_) (fun c9 => absurd ((by decide : (3 : Int32) ≤ nI 3)) c9)
      refine V_iload_n d_Ag_drawnNumber_37 rfl ?_
      exact V_iret d_Ag_drawnNumber_38 rfl rfl
    | succ n ih =>
      intro i z hi hz e
      refine V_iload_n d_Ag_drawnNumber_15 rfl ?_
      refine V_iconst (v := 3) d_Ag_drawnNumber_16 (by decide) ?_
      refine V_icmp_ge (tgt := 37) d_Ag_drawnNumber_17 (by decide) (fun c9 => absurd c9 ((nI_ge (b := 3) (by omega) (by decide) : ¬ (3 : Int32) ≤ nI i))) (fun _ => ?_)
      refine V_bipush (v := 75) d_Ag_drawnNumber_20 (by decide) ?_
      refine V_iload_n d_Ag_drawnNumber_22 rfl ?_
      refine V_imul d_Ag_drawnNumber_23 ?_
      refine V_bipush (v := 74) d_Ag_drawnNumber_24 (by decide) ?_
      refine V_iadd d_Ag_drawnNumber_26 ?_
      refine V_ldc d_Ag_drawnNumber_27 c_Ag_drawnNumber_27 ?_
      refine V_irem d_Ag_drawnNumber_29 (by decide) ?_
      have e1 : (75 * nI z + 74) - (75 * nI z + 74) / 65537 * 65537 = nI ((75 * z + 74) % 65537) := by
        rw [show (75 : Int32) = nI 75 from rfl, show (74 : Int32) = nI 74 from rfl, show (65537 : Int32) = nI 65537 from rfl, pk_mul, nI_add]
        exact pk_rem (by omega) (by decide) (by decide)
      rw [e1]
      refine V_istore_n d_Ag_drawnNumber_30 (by decide) rfl ?_
      refine V_iinc1 d_Ag_drawnNumber_31 rfl (by decide) rfl ?_
      refine V_goto (tgt := 15) d_Ag_drawnNumber_34 (by decide) ?_
      rw [nI_1]
      exact ih (i + 1) _ (by omega) (Nat.mod_lt _ (by decide)) e
  refine V_aload_n d_Ag_drawnNumber_0 rfl ?_
  refine V_gf g_Ag_drawnNumber_1 c_Ag rfl ?_
  refine V_bipush (v := 101) d_Ag_drawnNumber_4 (by decide) ?_
  refine V_iload_n d_Ag_drawnNumber_6 rfl ?_
  refine V_imul d_Ag_drawnNumber_7 ?_
  refine V_iadd d_Ag_drawnNumber_8 ?_
  refine V_ldc d_Ag_drawnNumber_9 c_Ag_drawnNumber_9 ?_
  refine V_irem d_Ag_drawnNumber_11 (by decide) ?_
  have e1 : (nI sd + 101 * nI t) - (nI sd + 101 * nI t) / 65537 * 65537 = nI ((sd + 101 * t) % 65537) := by
    rw [show (101 : Int32) = nI 101 from rfl, show (65537 : Int32) = nI 65537 from rfl, pk_mul, nI_add]
    exact pk_rem (by omega) (by decide) (by decide)
  rw [e1]
  refine V_istore_n d_Ag_drawnNumber_12 (by decide) rfl ?_
  refine V_iconst (v := 0) d_Ag_drawnNumber_13 (by decide) ?_
  refine V_istore_n d_Ag_drawnNumber_14 (by decide) rfl ?_
  exact loop 3 0 _ (by omega) (Nat.mod_lt _ (by decide)) rfl
/-- how many of the nm shifts agree with the one at d -/
def agC (sx sy : Nat → Int32) (nm d : Nat) (tol : Int32) : Nat := fori (fun i c => if decide (ab (sx i - sx d) ≤ tol) && decide (ab (sy i - sy d) ≤ tol) then c + 1 else c) nm 0 0
theorem do_Ag_agreeingWith (c_Ag : h[9]? = some (AgO sd nm rc bx y9)) (a_Ag_shiftX : h[10]? = some (IA 12 sx)) (a_Ag_shiftY : h[11]? = some (IA 12 sy)) (hn : nm ≤ 12) (d : Nat) (hd : d < 12) (tol : Int32) : Do l G k_Ag_agreeingWith [.ref 10, .int (nI d), .int tol] h (ri (nI (agC sx sy nm d tol))) h := by
  refine Do.of (by decide) (Nat.le_of_ble_eq_true rfl) kw_Ag_agreeingWith ?_
  have loop : ∀ (n i c : Nat), i + n = nm → agC sx sy nm d tol = fori (fun i c => if decide (ab (sx i - sx d) ≤ tol) && decide (ab (sy i - sy d) ≤ tol) then c + 1 else c) n i c → V l G k_Ag_agreeingWith h 5 [(0, .ref 10), (1, .int (nI d)), (2, .int tol), (3, .int (nI c)), (4, .int (nI i))] [] h (ri (nI (agC sx sy nm d tol))) h := by
    intro n
    induction n with
    | zero =>
      intro i c hi e
      obtain rfl : i = nm := by omega
      rw [e]
      refine V_iload d_Ag_agreeingWith_5 rfl ?_
      refine V_aload_n d_Ag_agreeingWith_7 rfl ?_
      refine V_gf g_Ag_agreeingWith_8 c_Ag rfl ?_
      refine V_icmp_ge (tgt := 65) d_Ag_agreeingWith_11 (by decide) (fun _ => ?_) (fun c9 => absurd ((nI_le (Nat.le_refl _) (by omega))) c9)
      refine V_iload_n d_Ag_agreeingWith_65 rfl ?_
      exact V_iret d_Ag_agreeingWith_66 rfl rfl
    | succ n ih =>
      intro i c hi e
      refine V_iload d_Ag_agreeingWith_5 rfl ?_
      refine V_aload_n d_Ag_agreeingWith_7 rfl ?_
      refine V_gf g_Ag_agreeingWith_8 c_Ag rfl ?_
      refine V_icmp_ge (tgt := 65) d_Ag_agreeingWith_11 (by decide) (fun c9 => absurd c9 ((nI_ge (by omega) (by omega) : ¬ nI nm ≤ nI i))) (fun _ => ?_)
      have skip : ∀ c' : Nat, c' = (if decide (ab (sx i - sx d) ≤ tol) && decide (ab (sy i - sy d) ≤ tol) then c + 1 else c) → V l G k_Ag_agreeingWith h 59 [(0, .ref 10), (1, .int (nI d)), (2, .int tol), (3, .int (nI c')), (4, .int (nI i))] [] h (ri (nI (agC sx sy nm d tol))) h := by
        intro c' hc'
        refine V_iinc1 d_Ag_agreeingWith_59 rfl (by decide) rfl ?_
        refine V_goto (tgt := 5) d_Ag_agreeingWith_62 (by decide) ?_
        rw [nI_1]
        exact ih (i + 1) c' (by omega) (by rw [hc']; exact e)
      refine V_aload_n d_Ag_agreeingWith_14 rfl ?_
      refine V_gf g_Ag_agreeingWith_15 c_Ag rfl ?_
      refine V_iload d_Ag_agreeingWith_18 rfl ?_
      refine V_ialdN d_Ag_agreeingWith_20 a_Ag_shiftX (Ix.of (by omega) (by decide)) ?_
      refine V_aload_n d_Ag_agreeingWith_21 rfl ?_
      refine V_gf g_Ag_agreeingWith_22 c_Ag rfl ?_
      refine V_iload_n d_Ag_agreeingWith_25 rfl ?_
      refine V_ialdN d_Ag_agreeingWith_26 a_Ag_shiftX (Ix.of hd (by decide)) ?_
      refine V_isub d_Ag_agreeingWith_27 ?_
      refine V_abs s_Ag_agreeingWith_28 (Nat.le_of_ble_eq_true rfl) ?_
      refine V_iload_n d_Ag_agreeingWith_31 rfl ?_
      rw [show (if 0 ≤ sx i - sx d then sx i - sx d else 0 - (sx i - sx d)) = ab (sx i - sx d) from rfl]
      refine V_icmp_gt (tgt := 59) d_Ag_agreeingWith_32 (by decide) (fun c1 => ?_) (fun c1 => ?_)
      · exact skip c (by simp [nle_iff.mpr c1])
      · refine V_aload_n d_Ag_agreeingWith_35 rfl ?_
        refine V_gf g_Ag_agreeingWith_36 c_Ag rfl ?_
        refine V_iload d_Ag_agreeingWith_39 rfl ?_
        refine V_ialdN d_Ag_agreeingWith_41 a_Ag_shiftY (Ix.of (by omega) (by decide)) ?_
        refine V_aload_n d_Ag_agreeingWith_42 rfl ?_
        refine V_gf g_Ag_agreeingWith_43 c_Ag rfl ?_
        refine V_iload_n d_Ag_agreeingWith_46 rfl ?_
        refine V_ialdN d_Ag_agreeingWith_47 a_Ag_shiftY (Ix.of hd (by decide)) ?_
        refine V_isub d_Ag_agreeingWith_48 ?_
        refine V_abs s_Ag_agreeingWith_49 (Nat.le_of_ble_eq_true rfl) ?_
        refine V_iload_n d_Ag_agreeingWith_52 rfl ?_
        rw [show (if 0 ≤ sy i - sy d then sy i - sy d else 0 - (sy i - sy d)) = ab (sy i - sy d) from rfl]
        refine V_icmp_gt (tgt := 59) d_Ag_agreeingWith_53 (by decide) (fun c2 => ?_) (fun c2 => ?_)
        · exact skip c (by simp [nle_iff.mpr c2])
        · refine V_iinc1 d_Ag_agreeingWith_56 rfl (by decide) rfl ?_
          rw [nI_1]
          exact skip (c + 1) (by simp [nlt_iff.mp c1, nlt_iff.mp c2])
  refine V_iconst (v := 0) d_Ag_agreeingWith_0 (by decide) ?_
  refine V_istore_n d_Ag_agreeingWith_1 (by decide) rfl ?_
  refine V_iconst (v := 0) d_Ag_agreeingWith_2 (by decide) ?_
  refine V_istore d_Ag_agreeingWith_3 (by decide) rfl ?_
  exact loop nm 0 0 (by omega) rfl
abbrev Gt : Type := Nat × (Nat → Int32) × (Nat → Int32)
/-- one place is gathered -/
def gtS (Bn : Nat → Bool) (wh : Nat → Int32) (a b p : Nat) (s : Gt) : Gt := if Bn (p * 4 + a) && Bn (p * 4 + b) then (s.1 + 1, upd s.2.1 s.1 (wh ((p * 4 + b) * 2 + 0) - wh ((p * 4 + a) * 2 + 0)), upd s.2.2 s.1 (wh ((p * 4 + b) * 2 + 1) - wh ((p * 4 + a) * 2 + 1))) else s
def gtR (Bn : Nat → Bool) (wh : Nat → Int32) (a b n : Nat) (sx sy : Nat → Int32) : Gt := fori (gtS Bn wh a b) n 0 (0, sx, sy)
abbrev plL (n : Nat) (sp : Int32) (As Bn : Nat → Bool) (wh : Nat → Int32) : List (Nat × Ce) := [(5, PlO n sp), (6, ZA 12 As), (7, ZA 48 Bn), (8, IA 96 wh)]
abbrev agH (h : List Ce) (n : Nat) (sp : Int32) (As Bn : Nat → Bool) (wh : Nat → Int32) (sd : Nat) (rc : Bool) (bx y9 : Int32) (s : Gt) : List Ce := hS h [(5, PlO n sp), (6, ZA 12 As), (7, ZA 48 Bn), (8, IA 96 wh), (9, AgO sd s.1 rc bx y9), (10, IA 12 s.2.1), (11, IA 12 s.2.2)]
theorem do_Ag_gather (hL : 27 ≤ h.length) {n : Nat} {sp : Int32} {As Bn : Nat → Bool} {wh : Nat → Int32} (hn : n ≤ 12) (a b : Nat) (ha : a < 4) (hb : b < 4) (k0 : Nat) : Do l G k_Ag_gatherShifts [.ref 10, .ref 6, .int (nI a), .int (nI b)] (agH h n sp As Bn wh sd rc bx y9 (k0, sx, sy)) rv (agH h n sp As Bn wh sd rc bx y9 (gtR Bn wh a b n sx sy)) := by
  refine Do.of (by decide) (Nat.le_of_ble_eq_true rfl) kw_Ag_gatherShifts ?_
  have loop : ∀ (H0 : List Ce) (m p : Nat) (s : Gt), p + m = n → s.1 ≤ p → gtR Bn wh a b n sx sy = fori (gtS Bn wh a b) m p s → V l G k_Ag_gatherShifts H0 8 [(0, .ref 10), (1, .ref 6), (2, .int (nI a)), (3, .int (nI b)), (4, .int (nI p))] [] (agH h n sp As Bn wh sd rc bx y9 s) rv (agH h n sp As Bn wh sd rc bx y9 (gtR Bn wh a b n sx sy)) := by
    intro H0 m
    induction m with
    | zero =>
      intro p s hp hs e
      obtain rfl : p = n := by omega
      rw [e]
      refine V_iload d_Ag_gatherShifts_8 rfl ?_
      refine V_aload_n d_Ag_gatherShifts_10 rfl ?_
      refine V_cV s_Ag_gatherShifts_11 (do_Pl_number (rd hL rfl rfl)) (rd hL rfl rfl) rfl rfl (Nat.le_of_ble_eq_true rfl) ?_
      refine V_icmp_ge (tgt := 105) d_Ag_gatherShifts_14 (by decide) (fun _ => ?_) (fun c9 => absurd ((nI_le (Nat.le_refl _) (by omega))) c9)
      exact V_vret d_Ag_gatherShifts_105 rfl
    | succ m ih =>
      intro p s hp hs e
      refine V_iload d_Ag_gatherShifts_8 rfl ?_
      refine V_aload_n d_Ag_gatherShifts_10 rfl ?_
      refine V_cV s_Ag_gatherShifts_11 (do_Pl_number (rd hL rfl rfl)) (rd hL rfl rfl) rfl rfl (Nat.le_of_ble_eq_true rfl) ?_
      refine V_icmp_ge (tgt := 105) d_Ag_gatherShifts_14 (by decide) (fun c9 => absurd c9 ((nI_ge (by omega) (by omega) : ¬ nI n ≤ nI p))) (fun _ => ?_)
      have skip : ∀ s' : Gt, s' = gtS Bn wh a b p s → s'.1 ≤ p + 1 → V l G k_Ag_gatherShifts H0 99 [(0, .ref 10), (1, .ref 6), (2, .int (nI a)), (3, .int (nI b)), (4, .int (nI p))] [] (agH h n sp As Bn wh sd rc bx y9 s') rv (agH h n sp As Bn wh sd rc bx y9 (gtR Bn wh a b n sx sy)) := by
        intro s' hs' hb'
        refine V_iinc1 d_Ag_gatherShifts_99 rfl (by decide) rfl ?_
        refine V_goto (tgt := 8) d_Ag_gatherShifts_102 (by decide) ?_
        rw [nI_1]
        exact ih (p + 1) s' (by omega) hb' (by rw [hs']; exact e)
      refine V_aload_n d_Ag_gatherShifts_17 rfl ?_
      refine V_iload d_Ag_gatherShifts_18 rfl ?_
      refine V_iload_n d_Ag_gatherShifts_20 rfl ?_
      refine V_cV s_Ag_gatherShifts_21 (do_Pl_isNoted (rd hL rfl rfl) (rd hL rfl rfl) (p := p) (q := a) (by omega) ha) (rd hL rfl rfl) rfl rfl (Nat.le_of_ble_eq_true rfl) ?_
      refine V_if_eq (tgt := 99) d_Ag_gatherShifts_24 (by decide) (fun c1 => ?_) (fun c1 => ?_)
      · exact skip s (by simp [gtS, (bI_0 _).mp c1]) (by omega)
      · have c1' : Bn (p * 4 + a) = true := by simpa [bI_0] using c1
        refine V_aload_n d_Ag_gatherShifts_27 rfl ?_
        refine V_iload d_Ag_gatherShifts_28 rfl ?_
        refine V_iload_n d_Ag_gatherShifts_30 rfl ?_
        refine V_cV s_Ag_gatherShifts_31 (do_Pl_isNoted (rd hL rfl rfl) (rd hL rfl rfl) (p := p) (q := b) (by omega) hb) (rd hL rfl rfl) rfl rfl (Nat.le_of_ble_eq_true rfl) ?_
        refine V_if_eq (tgt := 99) d_Ag_gatherShifts_34 (by decide) (fun c2 => ?_) (fun c2 => ?_)
        · exact skip s (by simp [gtS, (bI_0 _).mp c2]) (by omega)
        · have c2' : Bn (p * 4 + b) = true := by simpa [bI_0] using c2
          refine V_aload_n d_Ag_gatherShifts_37 rfl ?_
          refine V_gf g_Ag_gatherShifts_38 (rd hL rfl rfl) rfl ?_
          refine V_aload_n d_Ag_gatherShifts_41 rfl ?_
          refine V_gf g_Ag_gatherShifts_42 (rd hL rfl rfl) rfl ?_
          refine V_aload_n d_Ag_gatherShifts_45 rfl ?_
          refine V_iload d_Ag_gatherShifts_46 rfl ?_
          refine V_iload_n d_Ag_gatherShifts_48 rfl ?_
          refine V_iconst (v := 0) d_Ag_gatherShifts_49 (by decide) ?_
          refine V_cV s_Ag_gatherShifts_50 (do_Pl_where (rd hL rfl rfl) (rd hL rfl rfl) (p := p) (q := b) (x := 0) (by omega) hb (by decide)) (rd hL rfl rfl) rfl rfl (Nat.le_of_ble_eq_true rfl) ?_
          refine V_aload_n d_Ag_gatherShifts_53 rfl ?_
          refine V_iload d_Ag_gatherShifts_54 rfl ?_
          refine V_iload_n d_Ag_gatherShifts_56 rfl ?_
          refine V_iconst (v := 0) d_Ag_gatherShifts_57 (by decide) ?_
          refine V_cV s_Ag_gatherShifts_58 (do_Pl_where (rd hL rfl rfl) (rd hL rfl rfl) (p := p) (q := a) (x := 0) (by omega) ha (by decide)) (rd hL rfl rfl) rfl rfl (Nat.le_of_ble_eq_true rfl) ?_
          refine V_isub d_Ag_gatherShifts_61 ?_
          refine V_iastN d_Ag_gatherShifts_62 (rd hL rfl rfl) (Ix.of (show s.1 < 12 by omega) (by decide)) ?_
          refine V_hS rfl ?_
          refine V_aload_n d_Ag_gatherShifts_63 rfl ?_
          refine V_gf g_Ag_gatherShifts_64 (rd hL rfl rfl) rfl ?_
          refine V_aload_n d_Ag_gatherShifts_67 rfl ?_
          refine V_gf g_Ag_gatherShifts_68 (rd hL rfl rfl) rfl ?_
          refine V_aload_n d_Ag_gatherShifts_71 rfl ?_
          refine V_iload d_Ag_gatherShifts_72 rfl ?_
          refine V_iload_n d_Ag_gatherShifts_74 rfl ?_
          refine V_iconst (v := 1) d_Ag_gatherShifts_75 (by decide) ?_
          refine V_cV s_Ag_gatherShifts_76 (do_Pl_where (rd hL rfl rfl) (rd hL rfl rfl) (p := p) (q := b) (x := 1) (by omega) hb (by decide)) (rd hL rfl rfl) rfl rfl (Nat.le_of_ble_eq_true rfl) ?_
          refine V_aload_n d_Ag_gatherShifts_79 rfl ?_
          refine V_iload d_Ag_gatherShifts_80 rfl ?_
          refine V_iload_n d_Ag_gatherShifts_82 rfl ?_
          refine V_iconst (v := 1) d_Ag_gatherShifts_83 (by decide) ?_
          refine V_cV s_Ag_gatherShifts_84 (do_Pl_where (rd hL rfl rfl) (rd hL rfl rfl) (p := p) (q := a) (x := 1) (by omega) ha (by decide)) (rd hL rfl rfl) rfl rfl (Nat.le_of_ble_eq_true rfl) ?_
          refine V_isub d_Ag_gatherShifts_87 ?_
          refine V_iastN d_Ag_gatherShifts_88 (rd hL rfl rfl) (Ix.of (show s.1 < 12 by omega) (by decide)) ?_
          refine V_hS rfl ?_
          refine V_aload_n d_Ag_gatherShifts_89 rfl ?_
          refine V_dup d_Ag_gatherShifts_90 rfl ?_
          refine V_gf g_Ag_gatherShifts_91 (rd hL rfl rfl) rfl ?_
          refine V_iconst (v := 1) d_Ag_gatherShifts_94 (by decide) ?_
          refine V_iadd d_Ag_gatherShifts_95 ?_
          rw [nI_1]
          refine V_pf p_Ag_gatherShifts_96 (rd hL rfl rfl) (Nat.le_of_ble_eq_true rfl) rfl rfl ?_
          refine V_hS rfl ?_
          exact skip (s.1 + 1, upd s.2.1 s.1 (wh ((p * 4 + b) * 2 + 0) - wh ((p * 4 + a) * 2 + 0)), upd s.2.2 s.1 (wh ((p * 4 + b) * 2 + 1) - wh ((p * 4 + a) * 2 + 1))) (by simp [gtS, c1', c2']) (by show s.1 + 1 ≤ p + 1; omega)
  refine V_aload_n d_Ag_gatherShifts_0 rfl ?_
  refine V_iconst (v := 0) d_Ag_gatherShifts_1 (by decide) ?_
  refine V_pf p_Ag_gatherShifts_2 (rd hL rfl rfl) (Nat.le_of_ble_eq_true rfl) rfl rfl ?_
  refine V_hS rfl ?_
  refine V_iconst (v := 0) d_Ag_gatherShifts_5 (by decide) ?_
  refine V_istore d_Ag_gatherShifts_6 (by decide) rfl ?_
  exact loop _ n 0 (0, sx, sy) (by omega) (Nat.le_refl _) rfl
theorem gtR_le (Bn : Nat → Bool) (wh : Nat → Int32) (a b : Nat) : ∀ (m p : Nat) (s : Gt), (fori (gtS Bn wh a b) m p s).1 ≤ s.1 + m
  | 0, _, _ => Nat.le_refl _
  | m + 1, p, s => by
    have h1 := gtR_le Bn wh a b m (p + 1) (gtS Bn wh a b p s)
    have h2 : (gtS Bn wh a b p s).1 ≤ s.1 + 1 := by
      unfold gtS
      by_cases q : (Bn (p * 4 + a) && Bn (p * 4 + b)) = true
      · rw [if_pos q]; exact Nat.le_refl _
      · rw [if_neg q]; omega
    show (fori (gtS Bn wh a b) m (p + 1) (gtS Bn wh a b p s)).1 ≤ s.1 + (m + 1)
    omega
abbrev Dr : Type := Nat × Int32 × Int32
/-- one drawn number -/
def drS (sx sy : Nat → Int32) (nm sd : Nat) (tol : Int32) (t : Nat) (s : Dr) : Dr := if s.1 < agC sx sy nm (dzN sd t % nm) tol then (agC sx sy nm (dzN sd t % nm) tol, sx (dzN sd t % nm), sy (dzN sd t % nm)) else s
def drR (g : Gt) (sd : Nat) (tol : Int32) (tries : Nat) (bx y9 : Int32) : Dr := if g.1 = 0 then (0, bx, y9) else fori (drS g.2.1 g.2.2 g.1 sd tol) tries 0 (0, bx, y9)
theorem agC_le (sx sy : Nat → Int32) (d : Nat) (tol : Int32) : ∀ (n i c : Nat), fori (fun i c => if decide (ab (sx i - sx d) ≤ tol) && decide (ab (sy i - sy d) ≤ tol) then c + 1 else c) n i c ≤ c + n
  | 0, _, _ => Nat.le_refl _
  | n + 1, i, c => by
    have h1 := agC_le sx sy d tol n (i + 1) (if decide (ab (sx i - sx d) ≤ tol) && decide (ab (sy i - sy d) ≤ tol) then c + 1 else c)
    have h2 : (if decide (ab (sx i - sx d) ≤ tol) && decide (ab (sy i - sy d) ≤ tol) then c + 1 else c) ≤ c + 1 := by split <;> omega
    show fori _ n (i + 1) (if decide (ab (sx i - sx d) ≤ tol) && decide (ab (sy i - sy d) ≤ tol) then c + 1 else c) ≤ c + (n + 1)
    omega
theorem do_Ag_draw (hL : 27 ≤ h.length) {n : Nat} {sp : Int32} {As Bn : Nat → Bool} {wh : Nat → Int32} (hn : n ≤ 12) (hs : sd ≤ 65536) (a b tries : Nat) (tol : Int32) (ha : a < 4) (hb : b < 4) (ht : tries ≤ 20) (k0 : Nat) (g : Gt) (hg : g = gtR Bn wh a b n sx sy) (d : Dr) (hd : d = drR g sd tol tries bx y9) : Do l G k_Ag_draw [.ref 10, .ref 6, .int (nI a), .int (nI b), .int (nI tries), .int tol] (agH h n sp As Bn wh sd rc bx y9 (k0, sx, sy)) (ri (nI d.1)) (agH h n sp As Bn wh sd (decide (0 < g.1)) d.2.1 d.2.2 g) := by
  refine Do.of (by decide) (Nat.le_of_ble_eq_true rfl) kw_Ag_draw ?_
  have hg12 : g.1 ≤ 12 := by
    have := gtR_le Bn wh a b n 0 (0, sx, sy)
    rw [hg]
    show (fori (gtS Bn wh a b) n 0 (0, sx, sy)).1 ≤ 12
    simp at this
    omega
  have loop : ∀ (H0 : List Ce) (m t : Nat) (s : Dr), 0 < g.1 → t + m = tries → s.1 ≤ 12 → d = fori (drS g.2.1 g.2.2 g.1 sd tol) m t s → V l G k_Ag_draw H0 29 [(0, .ref 10), (1, .ref 6), (2, .int (nI a)), (3, .int (nI b)), (4, .int (nI tries)), (5, .int tol), (6, .int (nI s.1)), (7, .int (nI t))] [] (agH h n sp As Bn wh sd (decide (0 < g.1)) s.2.1 s.2.2 g) (ri (nI d.1)) (agH h n sp As Bn wh sd (decide (0 < g.1)) d.2.1 d.2.2 g) := by
    intro H0 m
    induction m with
    | zero =>
      intro t s h1 h2 h3 e
      rw [show d = s from e]
      refine V_iload d_Ag_draw_29 rfl ?_
      refine V_iload d_Ag_draw_31 rfl ?_
      refine V_icmp_ge (tgt := 105) d_Ag_draw_33 (by decide) (fun _ => ?_) (fun c9 => absurd ((nI_le (by omega) (by omega) : nI tries ≤ nI t)) c9)
      refine V_iload d_Ag_draw_105 rfl ?_
      exact V_iret d_Ag_draw_107 rfl rfl
    | succ m ih =>
      intro t s h1 h2 h3 e
      refine V_iload d_Ag_draw_29 rfl ?_
      refine V_iload d_Ag_draw_31 rfl ?_
      refine V_icmp_ge (tgt := 105) d_Ag_draw_33 (by decide) (fun c9 => absurd c9 ((nI_ge (by omega) (by omega) : ¬ nI tries ≤ nI t))) (fun _ => ?_)
      refine V_aload_n d_Ag_draw_36 rfl ?_
      refine V_gf g_Ag_draw_37 (rd hL rfl rfl) rfl ?_
      refine V_if_le (tgt := 105) d_Ag_draw_40 (by decide) (fun c9 => absurd c9 ((nI_nle h1 (by omega) : ¬ nI g.1 ≤ 0))) (fun _ => ?_)
      refine V_aload_n d_Ag_draw_43 rfl ?_
      refine V_iload d_Ag_draw_44 rfl ?_
      refine V_cV s_Ag_draw_46 (do_Ag_drawnNumber (rd hL rfl rfl) hs t (by omega)) (rd hL rfl rfl) rfl rfl (Nat.le_of_ble_eq_true rfl) ?_
      refine V_aload_n d_Ag_draw_49 rfl ?_
      refine V_gf g_Ag_draw_50 (rd hL rfl rfl) rfl ?_
      refine V_irem d_Ag_draw_53 (nI_ne0 h1 (by omega)) ?_
      have hz : dzN sd t < 65537 := Nat.mod_lt _ (by decide)
      rw [pk_rem (by omega) h1 (by omega)]
      have hdl : dzN sd t % g.1 < g.1 := Nat.mod_lt _ h1
      refine V_istore d_Ag_draw_54 (by decide) rfl ?_
      refine V_aload_n d_Ag_draw_56 rfl ?_
      refine V_iload d_Ag_draw_57 rfl ?_
      refine V_iload d_Ag_draw_59 rfl ?_
      refine V_cV s_Ag_draw_61 (do_Ag_agreeingWith (rd hL rfl rfl) (rd hL rfl rfl) (rd hL rfl rfl) hg12 (dzN sd t % g.1) (by omega) tol) (rd hL rfl rfl) rfl rfl (Nat.le_of_ble_eq_true rfl) ?_
      refine V_istore d_Ag_draw_64 (by decide) rfl ?_
      refine V_iload d_Ag_draw_66 rfl ?_
      refine V_iload d_Ag_draw_68 rfl ?_
      have hac : agC g.2.1 g.2.2 g.1 (dzN sd t % g.1) tol ≤ 12 := by
        have := agC_le g.2.1 g.2.2 (dzN sd t % g.1) tol g.1 0 0
        unfold agC
        omega
      have skip : ∀ s' : Dr, s' = drS g.2.1 g.2.2 g.1 sd tol t s → s'.1 ≤ 12 → V l G k_Ag_draw H0 99 [(0, .ref 10), (1, .ref 6), (2, .int (nI a)), (3, .int (nI b)), (4, .int (nI tries)), (5, .int tol), (6, .int (nI s'.1)), (7, .int (nI t))] [] (agH h n sp As Bn wh sd (decide (0 < g.1)) s'.2.1 s'.2.2 g) (ri (nI d.1)) (agH h n sp As Bn wh sd (decide (0 < g.1)) d.2.1 d.2.2 g) := by
        intro s' e' h4
        refine V_iinc1 d_Ag_draw_99 rfl (by decide) rfl ?_
        refine V_goto (tgt := 29) d_Ag_draw_102 (by decide) ?_
        rw [nI_1]
        exact ih (t + 1) s' h1 (by omega) h4 (by rw [e']; exact e)
      refine V_icmp_le (tgt := 99) d_Ag_draw_70 (by decide) (fun c1 => ?_) (fun c1 => ?_)
      · refine V_keep [0, 1, 2, 3, 4, 5, 6, 7] ?_
        exact skip s (by unfold drS; rw [if_neg (by rw [nI_leI (by omega) (by omega)] at c1; omega)]) h3
      · refine V_iload d_Ag_draw_73 rfl ?_
        refine V_istore d_Ag_draw_75 (by decide) rfl ?_
        refine V_aload_n d_Ag_draw_77 rfl ?_
        refine V_aload_n d_Ag_draw_78 rfl ?_
        refine V_gf g_Ag_draw_79 (rd hL rfl rfl) rfl ?_
        refine V_iload d_Ag_draw_82 rfl ?_
        refine V_ialdN d_Ag_draw_84 (rd hL rfl rfl) (Ix.of (show dzN sd t % g.1 < 12 by omega) (by decide)) ?_
        refine V_pf p_Ag_draw_85 (rd hL rfl rfl) (Nat.le_of_ble_eq_true rfl) rfl rfl ?_
        refine V_hS rfl ?_
        refine V_aload_n d_Ag_draw_88 rfl ?_
        refine V_aload_n d_Ag_draw_89 rfl ?_
        refine V_gf g_Ag_draw_90 (rd hL rfl rfl) rfl ?_
        refine V_iload d_Ag_draw_93 rfl ?_
        refine V_ialdN d_Ag_draw_95 (rd hL rfl rfl) (Ix.of (show dzN sd t % g.1 < 12 by omega) (by decide)) ?_
        refine V_pf p_Ag_draw_96 (rd hL rfl rfl) (Nat.le_of_ble_eq_true rfl) rfl rfl ?_
        refine V_hS rfl ?_
        refine V_keep [0, 1, 2, 3, 4, 5, 6, 7] ?_
        exact skip (agC g.2.1 g.2.2 g.1 (dzN sd t % g.1) tol, g.2.1 (dzN sd t % g.1), g.2.2 (dzN sd t % g.1)) (by unfold drS; rw [if_pos (by rw [nI_leI (by omega) (by omega)] at c1; omega)]) hac
  refine V_aload_n d_Ag_draw_0 rfl ?_
  refine V_aload_n d_Ag_draw_1 rfl ?_
  refine V_iload_n d_Ag_draw_2 rfl ?_
  refine V_iload_n d_Ag_draw_3 rfl ?_
  refine V_cV s_Ag_draw_4 (do_Ag_gather hL hn a b ha hb k0) (rd hL rfl rfl) rfl rfl (Nat.le_of_ble_eq_true rfl) ?_
  refine V_aload_n d_Ag_draw_7 rfl ?_
  refine V_aload_n d_Ag_draw_8 rfl ?_
  refine V_gf g_Ag_draw_9 (rd hL rfl rfl) rfl ?_
  rw [← hg]
  refine V_if_le (tgt := 19) d_Ag_draw_12 (by decide) (fun c1 => ?_) (fun c1 => ?_)
  · have e0 : g.1 = 0 := by
      rcases Nat.eq_zero_or_pos g.1 with q | q
      · exact q
      · exact absurd c1 (nI_nle q (by omega))
    have ed : d = (0, bx, y9) := by rw [hd, drR, if_pos e0]
    rw [ed]
    have er : decide (0 < g.1) = false := by simp [e0]
    rw [er]
    refine V_iconst (v := 0) d_Ag_draw_19 (by decide) ?_
    refine V_pf p_Ag_draw_20 (rd hL rfl rfl) (Nat.le_of_ble_eq_true rfl) rfl rfl ?_
    refine V_hS rfl ?_
    refine V_iconst (v := 0) d_Ag_draw_23 (by decide) ?_
    refine V_istore d_Ag_draw_24 (by decide) rfl ?_
    refine V_iconst (v := 0) d_Ag_draw_26 (by decide) ?_
    refine V_istore d_Ag_draw_27 (by decide) rfl ?_
    refine V_iload d_Ag_draw_29 rfl ?_
    refine V_iload d_Ag_draw_31 rfl ?_
    refine V_icmp_ge (tgt := 105) d_Ag_draw_33 (by decide) (fun c2 => ?_) (fun c2 => ?_)
    · refine V_iload d_Ag_draw_105 rfl ?_
      exact V_iret d_Ag_draw_107 rfl rfl
    · refine V_aload_n d_Ag_draw_36 rfl ?_
      refine V_gf g_Ag_draw_37 (rd hL rfl rfl) rfl ?_
      refine V_if_le (tgt := 105) d_Ag_draw_40 (by decide) (fun _ => ?_) (fun c9 => absurd (c1) c9)
      refine V_iload d_Ag_draw_105 rfl ?_
      exact V_iret d_Ag_draw_107 rfl rfl
  · have e0 : 0 < g.1 := by
      rcases Nat.eq_zero_or_pos g.1 with q | q
      · exact absurd (by rw [q]; decide) c1
      · exact q
    refine V_iconst (v := 1) d_Ag_draw_15 (by decide) ?_
    refine V_goto (tgt := 20) d_Ag_draw_16 (by decide) ?_
    have er : decide (0 < g.1) = true := by simp [e0]
    rw [show (1 : Int32) = bI (decide (0 < g.1)) by rw [er]; rfl]
    refine V_pf p_Ag_draw_20 (rd hL rfl rfl) (Nat.le_of_ble_eq_true rfl) (bI_n _) (bI_f _) ?_
    refine V_hS rfl ?_
    refine V_iconst (v := 0) d_Ag_draw_23 (by decide) ?_
    refine V_istore d_Ag_draw_24 (by decide) rfl ?_
    refine V_iconst (v := 0) d_Ag_draw_26 (by decide) ?_
    refine V_istore d_Ag_draw_27 (by decide) rfl ?_
    exact loop _ tries 0 (0, bx, y9) e0 (by omega) (Nat.zero_le _) (by rw [hd, drR, if_neg (by omega)])
end P15
