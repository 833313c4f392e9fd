section P36
variable {l : Launch} {G : Gb} {h h0 h' : List Ce} {r : Rs} {th sx sy : Int32} {w ht sd pl ln : Nat} {md sh hi : Bool} {sX sY wh P O : Nat → Int32} {Bn As : Nat → Bool}
abbrev moH (h : List Ce) (th : Int32) (w ht sd : Nat) (md : Bool) (pl : Nat) (sh : Bool) (sx sy : Int32) (ln : Nat) (hi : Bool) : List Ce := hS h [(27, MoO th w ht sd md pl sh sx sy ln hi)]
theorem mo_place_e (hL : 45 ≤ h.length) (hp : pl = 12) : Do l G k_Mo_place [.ref 28] (moH h th w ht sd md pl sh sx sy ln hi) (ri 0) (moH h 1 w ht sd md pl sh sx sy ln hi) := by
  subst hp
  refine Do.of (by decide) (Nat.le_of_ble_eq_true rfl) kw_Mo_place ?_
  refine V_aload_n d_Mo_place_0 rfl ?_
  refine V_aload_n d_Mo_place_1 rfl ?_
  refine V_gf g_Mo_place_2 (rd hL rfl rfl) rfl ?_
  refine V_bipush (v := 12) d_Mo_place_5 (by decide) ?_
  refine V_icmp_ge (tgt := 14) d_Mo_place_7 (by decide) (fun _ => ?_) (fun c9 => absurd ((by decide : (12 : Int32) ≤ nI 12)) c9)
  refine V_iconst (v := 0) d_Mo_place_14 (by decide) ?_
  refine V_iconst (v := 1) d_Mo_place_15 (by decide) ?_
  refine V_iconst (v := 1) d_Mo_place_16 (by decide) ?_
  refine V_cV s_Mo_place_17 (mo_goes (rd hL rfl rfl) false true true) (rd hL rfl rfl) rfl rfl (Nat.le_of_ble_eq_true rfl) ?_
  refine V_hS rfl ?_
  refine V_if_ne (tgt := 25) d_Mo_place_20 (by decide) (fun c9 => absurd ((rfl : bI (false && true && true) = 0)) c9) (fun _ => ?_)
  refine V_iconst (v := 0) d_Mo_place_23 (by decide) ?_
  exact V_iret d_Mo_place_24 rfl rfl
theorem mo_place (hL : 45 ≤ h.length) (hp : pl < 12) : Do l G k_Mo_place [.ref 28] (moH h th w ht sd md pl sh sx sy ln hi) (ri (nI pl)) (moH h 0 w ht sd md (pl + 1) sh sx sy ln hi) := by
  refine Do.of (by decide) (Nat.le_of_ble_eq_true rfl) kw_Mo_place ?_
  refine V_aload_n d_Mo_place_0 rfl ?_
  refine V_aload_n d_Mo_place_1 rfl ?_
  refine V_gf g_Mo_place_2 (rd hL rfl rfl) rfl ?_
  refine V_bipush (v := 12) d_Mo_place_5 (by decide) ?_
  refine V_icmp_ge (tgt := 14) d_Mo_place_7 (by decide) (fun c9 => absurd c9 ((nI_ge (b := 12) hp (by decide) : ¬ (12 : Int32) ≤ nI pl))) (fun _ => ?_)
  refine V_iconst (v := 1) d_Mo_place_10 (by decide) ?_
  refine V_goto (tgt := 15) d_Mo_place_11 (by decide) ?_
  refine V_iconst (v := 1) d_Mo_place_15 (by decide) ?_
  refine V_iconst (v := 1) d_Mo_place_16 (by decide) ?_
  refine V_cV s_Mo_place_17 (mo_goes (rd hL rfl rfl) true true true) (rd hL rfl rfl) rfl rfl (Nat.le_of_ble_eq_true rfl) ?_
  refine V_hS rfl ?_
  refine V_if_ne (tgt := 25) d_Mo_place_20 (by decide) (fun _ => ?_) (fun c9 => absurd (c9 : _) ((by decide : ¬ bI (true && true && true) = 0)))
  refine V_aload_n d_Mo_place_25 rfl ?_
  refine V_dup d_Mo_place_26 rfl ?_
  refine V_gf g_Mo_place_27 (rd hL rfl rfl) rfl ?_
  refine V_iconst (v := 1) d_Mo_place_30 (by decide) ?_
  refine V_iadd d_Mo_place_31 ?_
  rw [nI_1]
  refine V_pf p_Mo_place_32 (rd hL rfl rfl) (Nat.le_of_ble_eq_true rfl) rfl rfl ?_
  refine V_hS rfl ?_
  refine V_aload_n d_Mo_place_35 rfl ?_
  refine V_gf g_Mo_place_36 (rd hL rfl rfl) rfl ?_
  refine V_iconst (v := 1) d_Mo_place_39 (by decide) ?_
  refine V_isub d_Mo_place_40 ?_
  rw [nIm1 (by omega), Nat.add_sub_cancel]
  exact V_iret d_Mo_place_41 rfl rfl
/-- seen -/
theorem mo_seen_p (c_Mo : h[27]? = some (MoO th w ht sd md pl sh sx sy ln hi)) (hn : pl ≤ 12) (p q x y : Int32) (A B : Bool) (hA : A = (hasB p pl && wiB q 0 3)) (hB : B = seenB x y) (kk : V l G k_Mo_seen h0 53 [(0, .ref 28), (1, .int p), (2, .int q), (3, .int x), (4, .int y)] [.int (bI (A && B && true))] (h.set 27 (MoO (nI (gc A B true)) w ht sd md pl sh sx sy ln hi)) r h') : V l G k_Mo_seen h0 0 [(0, .ref 28), (1, .int p), (2, .int q), (3, .int x), (4, .int y)] [] h r h' := by
  have e9 : ∀ z : Int32, z < 0 → z ≤ 999 := by
    intro z hz
    rw [Int32.lt_iff_toInt_lt] at hz
    rw [Int32.le_iff_toInt_le]
    have h1 : (0 : Int32).toInt = 0 := rfl
    have h2 : (999 : Int32).toInt = 999 := rfl
    omega
  have mid2 : V l G k_Mo_seen h0 49 [(0, .ref 28), (1, .int p), (2, .int q), (3, .int x), (4, .int y)] [.int (bI B), .int (bI A), .ref 28] h r h' := by
    refine V_iconst (v := 1) d_Mo_seen_49 (by decide) ?_
    refine V_cV s_Mo_seen_50 (mo_goes c_Mo A B true) c_Mo rfl rfl (Nat.le_of_ble_eq_true rfl) ?_
    exact kk
  have mid : V l G k_Mo_seen h0 21 [(0, .ref 28), (1, .int p), (2, .int q), (3, .int x), (4, .int y)] [.int (bI A), .ref 28] h r h' := by
    have no : B = false → V l G k_Mo_seen h0 48 [(0, .ref 28), (1, .int p), (2, .int q), (3, .int x), (4, .int y)] [.int (bI A), .ref 28] h r h' := by
      intro z
      rw [z] at mid2
      refine V_iconst (v := 0) d_Mo_seen_48 (by decide) ?_
      exact mid2
    have yes : B = true → V l G k_Mo_seen h0 44 [(0, .ref 28), (1, .int p), (2, .int q), (3, .int x), (4, .int y)] [.int (bI A), .ref 28] h r h' := by
      intro z
      rw [z] at mid2
      refine V_iconst (v := 1) d_Mo_seen_44 (by decide) ?_
      refine V_goto (tgt := 49) d_Mo_seen_45 (by decide) ?_
      exact mid2
    refine V_iload_n d_Mo_seen_21 rfl ?_
    refine V_sipush (v := 999) d_Mo_seen_22 (by decide) ?_
    refine V_icmp_gt (tgt := 48) d_Mo_seen_25 (by decide) (fun c1 => ?_) (fun c1 => ?_)
    · exact no (by
        rw [hB]
        simp only [seenB, Bool.or_eq_false_iff, Bool.and_eq_false_iff, decide_eq_false_iff_not]
        exact ⟨fun z => nle_iff.mpr c1 (e9 x z), Or.inl (nle_iff.mpr c1)⟩)
    · refine V_iload_n d_Mo_seen_28 rfl ?_
      refine V_if_lt (tgt := 44) d_Mo_seen_29 (by decide) (fun c2 => ?_) (fun c2 => ?_)
      · exact yes (by rw [hB]; simp [seenB, c2])
      · refine V_iload d_Mo_seen_32 rfl ?_
        refine V_iconst (v := 0) d_Mo_seen_34 (by decide) ?_
        refine V_sipush (v := 999) d_Mo_seen_35 (by decide) ?_
        refine V_cS s_Mo_seen_38 (mo_within y 0 999) rfl rfl (Nat.le_of_ble_eq_true rfl) ?_
        have e : B = wiB y 0 999 := by
          rw [hB, seenB, decide_eq_false c2, decide_eq_true (nlt_iff.mp c1), Bool.false_or, Bool.true_and]
        refine V_if_eq (tgt := 48) d_Mo_seen_41 (by decide) (fun c3 => ?_) (fun c3 => ?_)
        · exact no (by rw [e]; exact (bI_0 _).mp c3)
        · exact yes (by rw [e]; simpa [bI_0] using c3)
  refine V_aload_n d_Mo_seen_0 rfl ?_
  refine V_aload_n d_Mo_seen_1 rfl ?_
  refine V_iload_n d_Mo_seen_2 rfl ?_
  refine V_cV s_Mo_seen_3 (mo_isPlace c_Mo hn p) c_Mo rfl rfl (Nat.le_of_ble_eq_true rfl) ?_
  refine V_if_eq (tgt := 20) d_Mo_seen_6 (by decide) (fun c1 => ?_) (fun c1 => ?_)
  · rw [show A = false by rw [hA, (bI_0 _).mp c1]; rfl] at mid
    refine V_iconst (v := 0) d_Mo_seen_20 (by decide) ?_
    exact mid
  · rw [(show hasB p pl = true by simpa [bI_0] using c1), Bool.true_and] at hA
    refine V_iload_n d_Mo_seen_9 rfl ?_
    refine V_cS s_Mo_seen_10 (mo_isPhoto q) rfl rfl (Nat.le_of_ble_eq_true rfl) ?_
    refine V_if_eq (tgt := 20) d_Mo_seen_13 (by decide) (fun c2 => ?_) (fun c2 => ?_)
    · rw [show A = false by rw [hA, (bI_0 _).mp c2]] at mid
      refine V_iconst (v := 0) d_Mo_seen_20 (by decide) ?_
      exact mid
    · rw [show A = true by rw [hA]; simpa [bI_0] using c2] at mid
      refine V_iconst (v := 1) d_Mo_seen_16 (by decide) ?_
      refine V_goto (tgt := 21) d_Mo_seen_17 (by decide) ?_
      exact mid
theorem mo_seen_e (c_Mo : h[27]? = some (MoO th w ht sd md pl sh sx sy ln hi)) (hn : pl ≤ 12) (p q x y : Int32) (hE : ((hasB p pl && wiB q 0 3) && seenB x y && true) = false) : Do l G k_Mo_seen [.ref 28, .int p, .int q, .int x, .int y] h (rz false) (h.set 27 (MoO (nI (gc (hasB p pl && wiB q 0 3) (seenB x y) true)) w ht sd md pl sh sx sy ln hi)) := by
  refine Do.of (by decide) (Nat.le_of_ble_eq_true rfl) kw_Mo_seen ?_
  refine mo_seen_p c_Mo hn p q x y _ _ rfl rfl ?_
  refine V_if_ne (tgt := 58) d_Mo_seen_53 (by decide) (fun c9 => absurd (((bI_0 _).mpr hE)) c9) (fun _ => ?_)
  refine V_iconst (v := 0) d_Mo_seen_56 (by decide) ?_
  exact V_iret d_Mo_seen_57 rfl (by first | rfl | exact bI_n _)
theorem mo_seen (hL : 45 ≤ h.length) (hn : pl ≤ 12) (hR : RS Bn wh sX sY) (p q : Nat) (x y : Int32) (hp : p < pl) (hq : q < 4) (hB : seenB x y = true) : Do l G k_Mo_seen [.ref 28, .int (nI p), .int (nI q), .int x, .int y] (hS h [(27, MoO th w ht sd md pl sh sx sy ln hi), (30, IA 48 sX), (31, IA 48 sY)]) (rz (Bn (p * 4 + q))) (hS h [(27, MoO 0 w ht sd md pl sh sx sy ln hi), (30, IA 48 (upd sX (p * 4 + q) (if x < 0 then -1 else x))), (31, IA 48 (upd sY (p * 4 + q) y))]) := by
  refine Do.of (by decide) (Nat.le_of_ble_eq_true rfl) kw_Mo_seen ?_
  have e1 : hasB (nI p) pl = true := has_n hp (by omega)
  have e2 : wiB (nI q) 0 3 = true := wi_n (b := 3) (by omega) (by decide)
  refine mo_seen_p (rd hL rfl rfl) hn (nI p) (nI q) x y true true (by rw [e1, e2]; rfl) hB.symm ?_
  refine V_hS rfl ?_
  refine V_if_ne (tgt := 58) d_Mo_seen_53 (by decide) (fun _ => ?_) (fun c9 => absurd (c9 : _) ((by decide : ¬ bI (true && true && true) = 0)))
  have fin : ∀ b : Bool, b = Bn (p * 4 + q) → V l G k_Mo_seen (hS h [(27, MoO th w ht sd md pl sh sx sy ln hi), (30, IA 48 sX), (31, IA 48 sY)]) 77 [(0, .ref 28), (1, .int (nI p)), (2, .int (nI q)), (3, .int x), (4, .int y)] [.int (bI b)] (hS h [(27, MoO 0 w ht sd md pl sh sx sy ln hi), (30, IA 48 sX), (31, IA 48 sY)]) (rz (Bn (p * 4 + q))) (hS h [(27, MoO 0 w ht sd md pl sh sx sy ln hi), (30, IA 48 (upd sX (p * 4 + q) (if x < 0 then -1 else x))), (31, IA 48 (upd sY (p * 4 + q) y))]) := by
    intro b hb
    rw [← hb]
    have wr : ∀ z : Int32, z = (if x < 0 then -1 else x) → V l G k_Mo_seen (hS h [(27, MoO th w ht sd md pl sh sx sy ln hi), (30, IA 48 sX), (31, IA 48 sY)]) 97 [(0, .ref 28), (1, .int (nI p)), (2, .int (nI q)), (3, .int x), (4, .int y), (5, .int (bI b))] [.int z, .int (4 * nI p + nI q), .ref 31] (hS h [(27, MoO 0 w ht sd md pl sh sx sy ln hi), (30, IA 48 sX), (31, IA 48 sY)]) (rz b) (hS h [(27, MoO 0 w ht sd md pl sh sx sy ln hi), (30, IA 48 (upd sX (p * 4 + q) (if x < 0 then -1 else x))), (31, IA 48 (upd sY (p * 4 + q) y))]) := by
      intro z hz
      rw [← hz]
      refine V_iastN d_Mo_seen_97 (rd hL rfl rfl) (ix48 (show p < 12 by omega) hq) ?_
      refine V_hS rfl ?_
      refine V_aload_n d_Mo_seen_98 rfl ?_
      refine V_gf g_Mo_seen_99 (rd hL rfl rfl) rfl ?_
      refine V_iconst (v := 4) d_Mo_seen_102 (by decide) ?_
      refine V_iload_n d_Mo_seen_103 rfl ?_
      refine V_imul d_Mo_seen_104 ?_
      refine V_iload_n d_Mo_seen_105 rfl ?_
      refine V_iadd d_Mo_seen_106 ?_
      refine V_iload d_Mo_seen_107 rfl ?_
      refine V_iastN d_Mo_seen_109 (rd hL rfl rfl) (ix48 (show p < 12 by omega) hq) ?_
      refine V_hS rfl ?_
      refine V_iload d_Mo_seen_110 rfl ?_
      exact V_iret d_Mo_seen_112 rfl (by first | rfl | exact bI_n _)
    refine V_istore d_Mo_seen_77 (by decide) rfl ?_
    refine V_aload_n d_Mo_seen_79 rfl ?_
    refine V_gf g_Mo_seen_80 (rd hL rfl rfl) rfl ?_
    refine V_iconst (v := 4) d_Mo_seen_83 (by decide) ?_
    refine V_iload_n d_Mo_seen_84 rfl ?_
    refine V_imul d_Mo_seen_85 ?_
    refine V_iload_n d_Mo_seen_86 rfl ?_
    refine V_iadd d_Mo_seen_87 ?_
    refine V_iload_n d_Mo_seen_88 rfl ?_
    refine V_if_ge (tgt := 96) d_Mo_seen_89 (by decide) (fun c1 => ?_) (fun c1 => ?_)
    · refine V_iload_n d_Mo_seen_96 rfl ?_
      exact wr x (by rw [if_neg (nlt_iff.mpr c1)])
    · refine V_iconst (v := (-1)) d_Mo_seen_92 (by decide) ?_
      refine V_goto (tgt := 97) d_Mo_seen_93 (by decide) ?_
      exact wr (-1) (by rw [if_pos (nle_iff.mp c1)])
  have hk := (hR (p * 4 + q) (by omega)).1
  refine V_aload_n d_Mo_seen_58 rfl ?_
  refine V_gf g_Mo_seen_59 (rd hL rfl rfl) rfl ?_
  refine V_iconst (v := 4) d_Mo_seen_62 (by decide) ?_
  refine V_iload_n d_Mo_seen_63 rfl ?_
  refine V_imul d_Mo_seen_64 ?_
  refine V_iload_n d_Mo_seen_65 rfl ?_
  refine V_iadd d_Mo_seen_66 ?_
  refine V_ialdN d_Mo_seen_67 (rd hL rfl rfl) (ix48 (show p < 12 by omega) hq) ?_
  refine V_iconst (v := (-1)) d_Mo_seen_68 (by decide) ?_
  refine V_icmp_eq (tgt := 76) d_Mo_seen_69 (by decide) (fun c1 => ?_) (fun c1 => ?_)
  · refine V_iconst (v := 0) d_Mo_seen_76 (by decide) ?_
    exact fin false (by rw [hk, decide_eq_true c1]; rfl)
  · refine V_iconst (v := 1) d_Mo_seen_72 (by decide) ?_
    refine V_goto (tgt := 77) d_Mo_seen_73 (by decide) ?_
    exact fin true (by rw [hk, decide_eq_false c1]; rfl)
theorem RS_forget (hR : RS Bn wh sX sY) (k : Nat) (y : Int32) : RS (updB Bn k false) wh (upd sX k (-1)) (upd sY k y) := by
  intro j hj
  unfold updB upd
  by_cases e : j = k
  · subst e
    simp
  · simp only [if_neg e]
    exact hR j hj
theorem RS_note (hR : RS Bn wh sX sY) (k : Nat) (i j : Nat) (hi : i ≤ 999) (hj : j ≤ 999) : RS (updB Bn k true) (upd (upd wh (k * 2) (nI i)) (k * 2 + 1) (nI j)) (upd sX k (nI i)) (upd sY k (nI j)) := by
  intro k' hk'
  unfold updB upd
  by_cases e : k' = k
  · subst e
    simp only [if_true]
    refine ⟨by rw [decide_eq_false (nIm (show i ≤ 585225 by omega))]; rfl, fun _ => ⟨i, j, hi, hj, rfl, rfl, ?_, rfl⟩⟩
    rw [if_neg (by omega)]
  · simp only [if_neg e]
    obtain ⟨h1, h2⟩ := hR k' hk'
    refine ⟨h1, fun q => ?_⟩
    obtain ⟨i', j', a1, a2, a3, a4, a5, a6⟩ := h2 q
    refine ⟨i', j', a1, a2, a3, a4, ?_, ?_⟩
    · rw [if_neg (by omega), if_neg (by omega)]; exact a5
    · rw [if_neg (by omega), if_neg (by omega)]; exact a6
/-- shift -/
theorem mo_shift_e (c_Mo : h[27]? = some (MoO th w ht sd md pl sh sx sy ln hi)) (x : Int32) (hE : (wiB x 0 1 && sh && true) = false) : Do l G k_Mo_shift [.ref 28, .int x] h (ri 0) (h.set 27 (MoO (nI (gc (wiB x 0 1) sh true)) w ht sd md pl sh sx sy ln hi)) := by
  refine Do.of (by decide) (Nat.le_of_ble_eq_true rfl) kw_Mo_shift ?_
  refine V_aload_n d_Mo_shift_0 rfl ?_
  refine V_iload_n d_Mo_shift_1 rfl ?_
  refine V_iconst (v := 0) d_Mo_shift_2 (by decide) ?_
  refine V_iconst (v := 1) d_Mo_shift_3 (by decide) ?_
  refine V_cS s_Mo_shift_4 (mo_within x 0 1) rfl rfl (Nat.le_of_ble_eq_true rfl) ?_
  refine V_aload_n d_Mo_shift_7 rfl ?_
  refine V_gf g_Mo_shift_8 c_Mo rfl ?_
  refine V_iconst (v := 1) d_Mo_shift_11 (by decide) ?_
  refine V_cV s_Mo_shift_12 (mo_goes c_Mo (wiB x 0 1) sh true) c_Mo rfl rfl (Nat.le_of_ble_eq_true rfl) ?_
  refine V_if_ne (tgt := 20) d_Mo_shift_15 (by decide) (fun c9 => absurd (((bI_0 _).mpr hE)) c9) (fun _ => ?_)
  refine V_iconst (v := 0) d_Mo_shift_18 (by decide) ?_
  exact V_iret d_Mo_shift_19 rfl rfl
theorem mo_shift (hL : 45 ≤ h.length) (x : Int32) (hc : wiB x 0 1 = true) : Do l G k_Mo_shift [.ref 28, .int x] (moH h th w ht sd md pl true sx sy ln hi) (ri (if x = 0 then sx else sy)) (moH h 0 w ht sd md pl true sx sy ln hi) := by
  refine Do.of (by decide) (Nat.le_of_ble_eq_true rfl) kw_Mo_shift ?_
  refine V_aload_n d_Mo_shift_0 rfl ?_
  refine V_iload_n d_Mo_shift_1 rfl ?_
  refine V_iconst (v := 0) d_Mo_shift_2 (by decide) ?_
  refine V_iconst (v := 1) d_Mo_shift_3 (by decide) ?_
  refine V_cS s_Mo_shift_4 (mo_within x 0 1) rfl rfl (Nat.le_of_ble_eq_true rfl) ?_
  refine V_aload_n d_Mo_shift_7 rfl ?_
  refine V_gf g_Mo_shift_8 (rd hL rfl rfl) rfl ?_
  refine V_iconst (v := 1) d_Mo_shift_11 (by decide) ?_
  rw [hc]
  refine V_cV s_Mo_shift_12 (mo_goes (rd hL rfl rfl) true true true) (rd hL rfl rfl) rfl rfl (Nat.le_of_ble_eq_true rfl) ?_
  refine V_hS rfl ?_
  refine V_if_ne (tgt := 20) d_Mo_shift_15 (by decide) (fun _ => ?_) (fun c9 => absurd (c9 : _) ((by decide : ¬ bI (true && true && true) = 0)))
  refine V_iload_n d_Mo_shift_20 rfl ?_
  refine V_if_ne (tgt := 31) d_Mo_shift_21 (by decide) (fun c1 => ?_) (fun c1 => ?_)
  · rw [if_neg c1]
    refine V_aload_n d_Mo_shift_31 rfl ?_
    refine V_gf g_Mo_shift_32 (rd hL rfl rfl) rfl ?_
    exact V_iret d_Mo_shift_35 rfl rfl
  · rw [if_pos c1]
    refine V_aload_n d_Mo_shift_24 rfl ?_
    refine V_gf g_Mo_shift_25 (rd hL rfl rfl) rfl ?_
    refine V_goto (tgt := 35) d_Mo_shift_28 (by decide) ?_
    exact V_iret d_Mo_shift_35 rfl rfl
/-- spare -/
theorem mo_spare_e (hL : 45 ≤ h.length) (hn : pl ≤ 12) (p : Int32) (b : Bool) (hE : hasB p pl = false) : Do l G k_Mo_spare [.ref 28, .int p, .int (bI b)] (moH h th w ht sd md pl sh sx sy ln hi) (rz false) (moH h 1 w ht sd md pl sh sx sy ln hi) := by
  refine Do.of (by decide) (Nat.le_of_ble_eq_true rfl) kw_Mo_spare ?_
  refine V_aload_n d_Mo_spare_0 rfl ?_
  refine V_aload_n d_Mo_spare_1 rfl ?_
  refine V_iload_n d_Mo_spare_2 rfl ?_
  refine V_cV s_Mo_spare_3 (mo_isPlace (rd hL rfl rfl) hn p) (rd hL rfl rfl) rfl rfl (Nat.le_of_ble_eq_true rfl) ?_
  refine V_iconst (v := 1) d_Mo_spare_6 (by decide) ?_
  refine V_iconst (v := 1) d_Mo_spare_7 (by decide) ?_
  rw [hE]
  refine V_cV s_Mo_spare_8 (mo_goes (rd hL rfl rfl) false true true) (rd hL rfl rfl) rfl rfl (Nat.le_of_ble_eq_true rfl) ?_
  refine V_hS rfl ?_
  refine V_if_ne (tgt := 16) d_Mo_spare_11 (by decide) (fun c9 => absurd ((rfl : bI (false && true && true) = 0)) c9) (fun _ => ?_)
  refine V_iconst (v := 0) d_Mo_spare_14 (by decide) ?_
  exact V_iret d_Mo_spare_15 rfl (by first | rfl | exact bI_n _)
theorem mo_spare (hL : 45 ≤ h.length) (hn : pl ≤ 12) (p : Nat) (b : Bool) (hp : p < pl) : Do l G k_Mo_spare [.ref 28, .int (nI p), .int (bI b)] (hS h [(27, MoO th w ht sd md pl sh sx sy ln hi), (32, ZA 12 As)]) (rz (As p != b)) (hS h [(27, MoO 0 w ht sd md pl sh sx sy ln hi), (32, ZA 12 (updB As p b))]) := by
  refine Do.of (by decide) (Nat.le_of_ble_eq_true rfl) kw_Mo_spare ?_
  refine V_aload_n d_Mo_spare_0 rfl ?_
  refine V_aload_n d_Mo_spare_1 rfl ?_
  refine V_iload_n d_Mo_spare_2 rfl ?_
  refine V_cV s_Mo_spare_3 (mo_isPlace (rd hL rfl rfl) hn (nI p)) (rd hL rfl rfl) rfl rfl (Nat.le_of_ble_eq_true rfl) ?_
  refine V_iconst (v := 1) d_Mo_spare_6 (by decide) ?_
  refine V_iconst (v := 1) d_Mo_spare_7 (by decide) ?_
  rw [show hasB (nI p) pl = true from has_n hp (by omega)]
  refine V_cV s_Mo_spare_8 (mo_goes (rd hL rfl rfl) true true true) (rd hL rfl rfl) rfl rfl (Nat.le_of_ble_eq_true rfl) ?_
  refine V_hS rfl ?_
  refine V_if_ne (tgt := 16) d_Mo_spare_11 (by decide) (fun _ => ?_) (fun c9 => absurd (c9 : _) ((by decide : ¬ bI (true && true && true) = 0)))
  refine V_aload_n d_Mo_spare_16 rfl ?_
  refine V_gf g_Mo_spare_17 (rd hL rfl rfl) rfl ?_
  refine V_iload_n d_Mo_spare_20 rfl ?_
  refine V_zaldN d_Mo_spare_21 (rd hL rfl rfl) (Ix.of (show p < 12 by omega) (by decide)) ?_
  refine V_istore_n d_Mo_spare_22 (by decide) rfl ?_
  refine V_aload_n d_Mo_spare_23 rfl ?_
  refine V_gf g_Mo_spare_24 (rd hL rfl rfl) rfl ?_
  refine V_iload_n d_Mo_spare_27 rfl ?_
  refine V_iload_n d_Mo_spare_28 rfl ?_
  refine V_zastN d_Mo_spare_29 (rd hL rfl rfl) (Ix.of (show p < 12 by omega) (by decide)) ?_
  refine V_hS rfl ?_
  refine V_iload_n d_Mo_spare_30 rfl ?_
  refine V_iload_n d_Mo_spare_31 rfl ?_
  refine V_icmp_eq (tgt := 39) d_Mo_spare_32 (by decide) (fun c1 => ?_) (fun c1 => ?_)
  · rw [rz, show (As p != b) = false by simp [(bI_ne _ _).mp c1]]
    refine V_iconst (v := 0) d_Mo_spare_39 (by decide) ?_
    exact V_iret d_Mo_spare_40 rfl (by first | rfl | exact bI_n _)
  · have e : ¬ As p = b := fun q => c1 ((bI_ne _ _).mpr q)
    rw [rz, show (As p != b) = true by simp [e]]
    refine V_iconst (v := 1) d_Mo_spare_35 (by decide) ?_
    refine V_goto (tgt := 40) d_Mo_spare_36 (by decide) ?_
    exact V_iret d_Mo_spare_40 rfl (by first | rfl | exact bI_n _)
/-- at, offset -/
theorem mo_at_p (c_Mo : h[27]? = some (MoO th w ht sd md pl sh sx sy ln hi)) (hn : pl ≤ 12) (p x : Int32) (A : Bool) (hA : A = (hasB p pl && wiB x 0 1)) (kk : V l G k_Mo_at h0 28 [(0, .ref 28), (1, .int p), (2, .int x)] [.int (bI (A && true && true))] (h.set 27 (MoO (nI (gc A true true)) w ht sd md pl sh sx sy ln hi)) r h') : V l G k_Mo_at h0 0 [(0, .ref 28), (1, .int p), (2, .int x)] [] h r h' := by
  have mid : V l G k_Mo_at h0 23 [(0, .ref 28), (1, .int p), (2, .int x)] [.int (bI A), .ref 28] h r h' := by
    refine V_iconst (v := 1) d_Mo_at_23 (by decide) ?_
    refine V_iconst (v := 1) d_Mo_at_24 (by decide) ?_
    refine V_cV s_Mo_at_25 (mo_goes c_Mo A true true) c_Mo rfl rfl (Nat.le_of_ble_eq_true rfl) ?_
    exact kk
  refine V_aload_n d_Mo_at_0 rfl ?_
  refine V_aload_n d_Mo_at_1 rfl ?_
  refine V_iload_n d_Mo_at_2 rfl ?_
  refine V_cV s_Mo_at_3 (mo_isPlace c_Mo hn p) c_Mo rfl rfl (Nat.le_of_ble_eq_true rfl) ?_
  refine V_if_eq (tgt := 22) d_Mo_at_6 (by decide) (fun c1 => ?_) (fun c1 => ?_)
  · rw [show A = false by rw [hA, (bI_0 _).mp c1]; rfl] at mid
    refine V_iconst (v := 0) d_Mo_at_22 (by decide) ?_
    exact mid
  · rw [(show hasB p pl = true by simpa [bI_0] using c1), Bool.true_and] at hA
    refine V_iload_n d_Mo_at_9 rfl ?_
    refine V_iconst (v := 0) d_Mo_at_10 (by decide) ?_
    refine V_iconst (v := 1) d_Mo_at_11 (by decide) ?_
    refine V_cS s_Mo_at_12 (mo_within x 0 1) rfl rfl (Nat.le_of_ble_eq_true rfl) ?_
    refine V_if_eq (tgt := 22) d_Mo_at_15 (by decide) (fun c2 => ?_) (fun c2 => ?_)
    · rw [show A = false by rw [hA, (bI_0 _).mp c2]] at mid
      refine V_iconst (v := 0) d_Mo_at_22 (by decide) ?_
      exact mid
    · rw [show A = true by rw [hA]; simpa [bI_0] using c2] at mid
      refine V_iconst (v := 1) d_Mo_at_18 (by decide) ?_
      refine V_goto (tgt := 23) d_Mo_at_19 (by decide) ?_
      exact mid
theorem mo_at_e (c_Mo : h[27]? = some (MoO th w ht sd md pl sh sx sy ln hi)) (hn : pl ≤ 12) (p x : Int32) (hE : (hasB p pl && wiB x 0 1) = false) : Do l G k_Mo_at [.ref 28, .int p, .int x] h (ri 0) (h.set 27 (MoO 1 w ht sd md pl sh sx sy ln hi)) := by
  refine Do.of (by decide) (Nat.le_of_ble_eq_true rfl) kw_Mo_at ?_
  refine mo_at_p c_Mo hn p x false hE.symm ?_
  refine V_if_eq (tgt := 44) d_Mo_at_28 (by decide) (fun _ => ?_) (fun c9 => absurd ((rfl : bI (false && true && true) = 0)) c9)
  refine V_iconst (v := 0) d_Mo_at_44 (by decide) ?_
  exact V_iret d_Mo_at_45 rfl rfl
theorem mo_at (hL : 45 ≤ h.length) (hn : pl ≤ 12) (p x : Nat) (hp : p < pl) (hx : x < 2) : Do l G k_Mo_at [.ref 28, .int (nI p), .int (nI x)] (hS h [(27, MoO th w ht sd md pl sh sx sy ln hi), (33, IA 24 P)]) (ri (P (p * 2 + x))) (hS h [(27, MoO 0 w ht sd md pl sh sx sy ln hi), (33, IA 24 P)]) := by
  refine Do.of (by decide) (Nat.le_of_ble_eq_true rfl) kw_Mo_at ?_
  refine mo_at_p (rd hL rfl rfl) hn (nI p) (nI x) true (by rw [show hasB (nI p) pl = true from has_n hp (by omega), show wiB (nI x) 0 1 = true from wi_n (b := 1) (by omega) (by decide)]; rfl) ?_
  refine V_hS rfl ?_
  refine V_if_eq (tgt := 44) d_Mo_at_28 (by decide) (fun c9 => absurd c9 ((by decide : ¬ bI (true && true && true) = 0))) (fun _ => ?_)
  refine V_aload_n d_Mo_at_31 rfl ?_
  refine V_gf g_Mo_at_32 (rd hL rfl rfl) rfl ?_
  refine V_iconst (v := 2) d_Mo_at_35 (by decide) ?_
  refine V_iload_n d_Mo_at_36 rfl ?_
  refine V_imul d_Mo_at_37 ?_
  refine V_iload_n d_Mo_at_38 rfl ?_
  refine V_iadd d_Mo_at_39 ?_
  refine V_ialdN d_Mo_at_40 (rd hL rfl rfl) (⟨by rw [show (2 : Int32) = nI 2 from rfl, pk_mul, nI_add, Nat.mul_comm], show p * 2 + x < 24 by omega, by decide⟩) ?_
  refine V_goto (tgt := 45) d_Mo_at_41 (by decide) ?_
  exact V_iret d_Mo_at_45 rfl rfl
theorem mo_offset_p (c_Mo : h[27]? = some (MoO th w ht sd md pl sh sx sy ln hi)) (p x : Int32) (A : Bool) (hA : A = (wiB p 0 3 && wiB x 0 1)) (kk : V l G k_Mo_offset h0 27 [(0, .ref 28), (1, .int p), (2, .int x)] [.int (bI (A && true && true))] (h.set 27 (MoO (nI (gc A true true)) w ht sd md pl sh sx sy ln hi)) r h') : V l G k_Mo_offset h0 0 [(0, .ref 28), (1, .int p), (2, .int x)] [] h r h' := by
  have mid : V l G k_Mo_offset h0 22 [(0, .ref 28), (1, .int p), (2, .int x)] [.int (bI A), .ref 28] h r h' := by
    refine V_iconst (v := 1) d_Mo_offset_22 (by decide) ?_
    refine V_iconst (v := 1) d_Mo_offset_23 (by decide) ?_
    refine V_cV s_Mo_offset_24 (mo_goes c_Mo A true true) c_Mo rfl rfl (Nat.le_of_ble_eq_true rfl) ?_
    exact kk
  refine V_aload_n d_Mo_offset_0 rfl ?_
  refine V_iload_n d_Mo_offset_1 rfl ?_
  refine V_cS s_Mo_offset_2 (mo_isPhoto p) rfl rfl (Nat.le_of_ble_eq_true rfl) ?_
  refine V_if_eq (tgt := 21) d_Mo_offset_5 (by decide) (fun c1 => ?_) (fun c1 => ?_)
  · rw [show A = false by rw [hA, (bI_0 _).mp c1]; rfl] at mid
    refine V_iconst (v := 0) d_Mo_offset_21 (by decide) ?_
    exact mid
  · rw [(show wiB p 0 3 = true by simpa [bI_0] using c1), Bool.true_and] at hA
    refine V_iload_n d_Mo_offset_8 rfl ?_
    refine V_iconst (v := 0) d_Mo_offset_9 (by decide) ?_
    refine V_iconst (v := 1) d_Mo_offset_10 (by decide) ?_
    refine V_cS s_Mo_offset_11 (mo_within x 0 1) rfl rfl (Nat.le_of_ble_eq_true rfl) ?_
    refine V_if_eq (tgt := 21) d_Mo_offset_14 (by decide) (fun c2 => ?_) (fun c2 => ?_)
    · rw [show A = false by rw [hA, (bI_0 _).mp c2]] at mid
      refine V_iconst (v := 0) d_Mo_offset_21 (by decide) ?_
      exact mid
    · rw [show A = true by rw [hA]; simpa [bI_0] using c2] at mid
      refine V_iconst (v := 1) d_Mo_offset_17 (by decide) ?_
      refine V_goto (tgt := 22) d_Mo_offset_18 (by decide) ?_
      exact mid
theorem mo_offset_e (c_Mo : h[27]? = some (MoO th w ht sd md pl sh sx sy ln hi)) (p x : Int32) (hE : (wiB p 0 3 && wiB x 0 1) = false) : Do l G k_Mo_offset [.ref 28, .int p, .int x] h (ri 0) (h.set 27 (MoO 1 w ht sd md pl sh sx sy ln hi)) := by
  refine Do.of (by decide) (Nat.le_of_ble_eq_true rfl) kw_Mo_offset ?_
  refine mo_offset_p c_Mo p x false hE.symm ?_
  refine V_if_eq (tgt := 43) d_Mo_offset_27 (by decide) (fun _ => ?_) (fun c9 => absurd ((rfl : bI (false && true && true) = 0)) c9)
  refine V_iconst (v := 0) d_Mo_offset_43 (by decide) ?_
  exact V_iret d_Mo_offset_44 rfl rfl
theorem mo_offset (hL : 45 ≤ h.length) (q x : Nat) (hq : q < 4) (hx : x < 2) : Do l G k_Mo_offset [.ref 28, .int (nI q), .int (nI x)] (hS h [(27, MoO th w ht sd md pl sh sx sy ln hi), (34, IA 8 O)]) (ri (O (q * 2 + x))) (hS h [(27, MoO 0 w ht sd md pl sh sx sy ln hi), (34, IA 8 O)]) := by
  refine Do.of (by decide) (Nat.le_of_ble_eq_true rfl) kw_Mo_offset ?_
  refine mo_offset_p (rd hL rfl rfl) (nI q) (nI x) true (by rw [show wiB (nI q) 0 3 = true from wi_n (b := 3) (by omega) (by decide), show wiB (nI x) 0 1 = true from wi_n (b := 1) (by omega) (by decide)]; rfl) ?_
  refine V_hS rfl ?_
  refine V_if_eq (tgt := 43) d_Mo_offset_27 (by decide) (fun c9 => absurd c9 ((by decide : ¬ bI (true && true && true) = 0))) (fun _ => ?_)
  refine V_aload_n d_Mo_offset_30 rfl ?_
  refine V_gf g_Mo_offset_31 (rd hL rfl rfl) rfl ?_
  refine V_iconst (v := 2) d_Mo_offset_34 (by decide) ?_
  refine V_iload_n d_Mo_offset_35 rfl ?_
  refine V_imul d_Mo_offset_36 ?_
  refine V_iload_n d_Mo_offset_37 rfl ?_
  refine V_iadd d_Mo_offset_38 ?_
  refine V_ialdN d_Mo_offset_39 (rd hL rfl rfl) (⟨by rw [show (2 : Int32) = nI 2 from rfl, pk_mul, nI_add, Nat.mul_comm], show q * 2 + x < 8 by omega, by decide⟩) ?_
  refine V_goto (tgt := 44) d_Mo_offset_40 (by decide) ?_
  exact V_iret d_Mo_offset_44 rfl rfl
end P36
