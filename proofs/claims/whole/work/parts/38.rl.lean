section P38
variable {l : Launch} {G : Gb} {h h0 h' : List Ce} {r : Rs} {th sx sy : Int32} {w ht sd pl ln : Nat} {md sh hi : Bool} {sX sY wh : Nat → Int32} {Bn : Nat → Bool}
theorem mo_relative_p (c_Mo : h[27]? = some (MoO th w ht sd md pl sh sx sy ln hi)) (a b t tol : Int32) (A B : Bool) (hA : A = (wiB a 0 3 && wiB b 0 3)) (hB : B = (wiB t 1 20 && wiB tol 0 100)) (kk : V l G k_Mo_relative h0 50 [(0, .ref 28), (1, .int a), (2, .int b), (3, .int t), (4, .int tol)] [.int (bI (A && B && true))] (h.set 27 (MoO (nI (gc A B true)) w ht sd md pl sh sx sy ln hi)) r h') : V l G k_Mo_relative h0 0 [(0, .ref 28), (1, .int a), (2, .int b), (3, .int t), (4, .int tol)] [] h r h' := by
  have mid2 : V l G k_Mo_relative h0 46 [(0, .ref 28), (1, .int a), (2, .int b), (3, .int t), (4, .int tol)] [.int (bI B), .int (bI A), .ref 28] h r h' := by
    refine V_iconst (v := 1) d_Mo_relative_46 (by decide) ?_
    refine V_cV s_Mo_relative_47 (mo_goes c_Mo A B true) c_Mo rfl rfl (Nat.le_of_ble_eq_true rfl) ?_
    exact kk
  have mid : V l G k_Mo_relative h0 20 [(0, .ref 28), (1, .int a), (2, .int b), (3, .int t), (4, .int tol)] [.int (bI A), .ref 28] h r h' := by
    refine V_iload_n d_Mo_relative_20 rfl ?_
    refine V_iconst (v := 1) d_Mo_relative_21 (by decide) ?_
    refine V_bipush (v := 20) d_Mo_relative_22 (by decide) ?_
    refine V_cS s_Mo_relative_24 (mo_within t 1 20) rfl rfl (Nat.le_of_ble_eq_true rfl) ?_
    refine V_if_eq (tgt := 45) d_Mo_relative_27 (by decide) (fun c1 => ?_) (fun c1 => ?_)
    · rw [show B = false by rw [hB, (bI_0 _).mp c1]; rfl] at mid2
      refine V_iconst (v := 0) d_Mo_relative_45 (by decide) ?_
      exact mid2
    · rw [(show wiB t 1 20 = true by simpa [bI_0] using c1), Bool.true_and] at hB
      refine V_iload d_Mo_relative_30 rfl ?_
      refine V_iconst (v := 0) d_Mo_relative_32 (by decide) ?_
      refine V_bipush (v := 100) d_Mo_relative_33 (by decide) ?_
      refine V_cS s_Mo_relative_35 (mo_within tol 0 100) rfl rfl (Nat.le_of_ble_eq_true rfl) ?_
      refine V_if_eq (tgt := 45) d_Mo_relative_38 (by decide) (fun c2 => ?_) (fun c2 => ?_)
      · rw [show B = false by rw [hB, (bI_0 _).mp c2]] at mid2
        refine V_iconst (v := 0) d_Mo_relative_45 (by decide) ?_
        exact mid2
      · rw [show B = true by rw [hB]; simpa [bI_0] using c2] at mid2
        refine V_iconst (v := 1) d_Mo_relative_41 (by decide) ?_
        refine V_goto (tgt := 46) d_Mo_relative_42 (by decide) ?_
        exact mid2
  refine V_aload_n d_Mo_relative_0 rfl ?_
  refine V_iload_n d_Mo_relative_1 rfl ?_
  refine V_cS s_Mo_relative_2 (mo_isPhoto a) rfl rfl (Nat.le_of_ble_eq_true rfl) ?_
  refine V_if_eq (tgt := 19) d_Mo_relative_5 (by decide) (fun c1 => ?_) (fun c1 => ?_)
  · rw [show A = false by rw [hA, (bI_0 _).mp c1]; rfl] at mid
    refine V_iconst (v := 0) d_Mo_relative_19 (by decide) ?_
    exact mid
  · rw [(show wiB a 0 3 = true by simpa [bI_0] using c1), Bool.true_and] at hA
    refine V_iload_n d_Mo_relative_8 rfl ?_
    refine V_cS s_Mo_relative_9 (mo_isPhoto b) rfl rfl (Nat.le_of_ble_eq_true rfl) ?_
    refine V_if_eq (tgt := 19) d_Mo_relative_12 (by decide) (fun c2 => ?_) (fun c2 => ?_)
    · rw [show A = false by rw [hA, (bI_0 _).mp c2]] at mid
      refine V_iconst (v := 0) d_Mo_relative_19 (by decide) ?_
      exact mid
    · rw [show A = true by rw [hA]; simpa [bI_0] using c2] at mid
      refine V_iconst (v := 1) d_Mo_relative_15 (by decide) ?_
      refine V_goto (tgt := 20) d_Mo_relative_16 (by decide) ?_
      exact mid
theorem mo_relative_e (c_Mo : h[27]? = some (MoO th w ht sd md pl sh sx sy ln hi)) (a b t tol : Int32) (hE : ((wiB a 0 3 && wiB b 0 3) && (wiB t 1 20 && wiB tol 0 100) && true) = false) : Do l G k_Mo_relative [.ref 28, .int a, .int b, .int t, .int tol] h (ri 0) (h.set 27 (MoO (nI (gc (wiB a 0 3 && wiB b 0 3) (wiB t 1 20 && wiB tol 0 100) true)) w ht sd md pl sh sx sy ln hi)) := by
  refine Do.of (by decide) (Nat.le_of_ble_eq_true rfl) kw_Mo_relative ?_
  refine mo_relative_p c_Mo a b t tol _ _ rfl rfl ?_
  refine V_if_ne (tgt := 55) d_Mo_relative_50 (by decide) (fun c9 => absurd (((bI_0 _).mpr hE)) c9) (fun _ => ?_)
  refine V_iconst (v := 0) d_Mo_relative_53 (by decide) ?_
  exact V_iret d_Mo_relative_54 rfl rfl
theorem mo_relative (hL : 45 ≤ h.length) (hn : pl ≤ 12) (hs : sd ≤ 65536) (hR : RS Bn wh sX sY) (a b t : Nat) (tol : Int32) (ha : a < 4) (hb : b < 4) (ht9 : 1 ≤ t ∧ t ≤ 20) (htol : wiB tol 0 100 = true) (fx fy : Nat → Int32) (g : Gt) (hg : g = gtR Bn wh a b pl fx fy) (d : Dr) (hd : d = drR g sd tol t sx sy) : Do l G k_Mo_relative [.ref 28, .int (nI a), .int (nI b), .int (nI t), .int tol] (seH h th w ht sd md pl sh sx sy ln hi sX sY) (ri (nI d.1)) (seH h 0 w ht sd md pl (decide (0 < g.1)) d.2.1 d.2.2 ln hi sX sY) := by
  refine Do.of (by decide) (Nat.le_of_ble_eq_true rfl) kw_Mo_relative ?_
  have e1 : wiB (nI a) 0 3 = true := wi_n (b := 3) (by omega) (by decide)
  have e2 : wiB (nI b) 0 3 = true := wi_n (b := 3) (by omega) (by decide)
  have e3 : wiB (nI t) 1 20 = true := by
    unfold wiB
    rw [Bool.and_eq_true, decide_eq_true_iff, decide_eq_true_iff]
    exact ⟨nI_le (a := 1) ht9.1 (by omega), nI_le (b := 20) ht9.2 (by decide)⟩
  obtain ⟨g1, g2⟩ := gt_spec Bn wh a b pl fx fy
  rw [← hg] at g1 g2
  have hg12 : g.1 ≤ 12 := by rw [g1]; exact Nat.le_trans (rk_le a b pl) hn
  refine mo_relative_p (rd hL rfl rfl) (nI a) (nI b) (nI t) tol true true (by rw [e1, e2]; rfl) (by rw [e3, htol]; rfl) ?_
  refine V_hS rfl ?_
  refine V_if_ne (tgt := 55) d_Mo_relative_50 (by decide) (fun _ => ?_) (fun c9 => absurd (c9 : _) ((by decide : ¬ bI (true && true && true) = 0)))
  have search : ∀ (s : Dr) (t9 L0 : Nat) (sh9 : Bool), L0 < g.1 → (∀ q, q < pl → bo Bn a b q = true → rk Bn a b q = L0 → V l G k_Mo_relative (seH h th w ht sd md pl sh sx sy ln hi sX sY) 187 [(0, .ref 28), (1, .int (nI a)), (2, .int (nI b)), (3, .int (nI t)), (4, .int tol), (5, .int (nI g.1)), (6, .int (nI s.1)), (7, .int (nI t9)), (8, .int (nI 0)), (9, .int (nI q))] [] (seH h 0 w ht sd md pl sh9 s.2.1 s.2.2 ln hi sX sY) (ri (nI d.1)) (seH h 0 w ht sd md pl (decide (0 < g.1)) d.2.1 d.2.2 ln hi sX sY)) → ∀ (m p left : Nat), p + m = pl → left + rk Bn a b p = L0 → V l G k_Mo_relative (seH h th w ht sd md pl sh sx sy ln hi sX sY) 143 [(0, .ref 28), (1, .int (nI a)), (2, .int (nI b)), (3, .int (nI t)), (4, .int tol), (5, .int (nI g.1)), (6, .int (nI s.1)), (7, .int (nI t9)), (8, .int (nI left)), (9, .int (nI p))] [] (seH h 0 w ht sd md pl sh9 s.2.1 s.2.2 ln hi sX sY) (ri (nI d.1)) (seH h 0 w ht sd md pl (decide (0 < g.1)) d.2.1 d.2.2 ln hi sX sY) := by
    intro s t9 L0 sh9 hL0 kk m
    induction m with
    | zero =>
      intro p left hp hl
      obtain rfl : p = pl := by omega
      omega
    | succ m ih =>
      intro p left hp hl
      have hr : rk Bn a b (p + 1) = rk Bn a b p + (if bo Bn a b p then 1 else 0) := rfl
      have hl12 : left ≤ 12 := by omega
      refine V_aload_n d_Mo_relative_143 rfl ?_
      refine V_iload d_Mo_relative_144 rfl ?_
      refine V_iload_n d_Mo_relative_146 rfl ?_
      refine V_iload_n d_Mo_relative_147 rfl ?_
      refine V_cV s_Mo_relative_148 (mo_isBoth (rd hL rfl rfl) (rd hL rfl rfl) hR (show p < 12 by omega) ha hb) (rd hL rfl rfl) rfl rfl (Nat.le_of_ble_eq_true rfl) ?_
      refine V_if_eq (tgt := 159) d_Mo_relative_151 (by decide) (fun c1 => ?_) (fun c1 => ?_)
      · have c1' : bo Bn a b p = false := (bI_0 _).mp c1
        rw [if_neg (by rw [c1']; decide)] at hr
        refine V_aload_n d_Mo_relative_159 rfl ?_
        refine V_iload d_Mo_relative_160 rfl ?_
        refine V_iload_n d_Mo_relative_162 rfl ?_
        refine V_iload_n d_Mo_relative_163 rfl ?_
        refine V_cV s_Mo_relative_164 (mo_isBoth (rd hL rfl rfl) (rd hL rfl rfl) hR (show p < 12 by omega) ha hb) (rd hL rfl rfl) rfl rfl (Nat.le_of_ble_eq_true rfl) ?_
        refine V_if_eq (tgt := 177) d_Mo_relative_167 (by decide) (fun _ => ?_) (fun c9 => absurd (c1) c9)
        refine V_iload d_Mo_relative_177 rfl ?_
        refine V_istore d_Mo_relative_179 (by decide) rfl ?_
        refine V_iinc1 d_Mo_relative_181 rfl (by decide) rfl ?_
        refine V_goto (tgt := 143) d_Mo_relative_184 (by decide) ?_
        rw [nI_1]
        exact ih (p + 1) left (by omega) (by omega)
      · have c1' : bo Bn a b p = true := by unfold bo; simpa [bI_0] using c1
        rw [if_pos c1'] at hr
        refine V_iload d_Mo_relative_154 rfl ?_
        rcases Nat.eq_zero_or_pos left with z | z
        · subst z
          refine V_if_le (tgt := 187) d_Mo_relative_156 (by decide) (fun _ => ?_) (fun c9 => absurd ((by decide : nI 0 ≤ 0)) c9)
          exact kk p (by omega) c1' (by omega)
        · refine V_if_le (tgt := 187) d_Mo_relative_156 (by decide) (fun c9 => absurd c9 ((nI_nle z (by omega)))) (fun _ => ?_)
          refine V_aload_n d_Mo_relative_159 rfl ?_
          refine V_iload d_Mo_relative_160 rfl ?_
          refine V_iload_n d_Mo_relative_162 rfl ?_
          refine V_iload_n d_Mo_relative_163 rfl ?_
          refine V_cV s_Mo_relative_164 (mo_isBoth (rd hL rfl rfl) (rd hL rfl rfl) hR (show p < 12 by omega) ha hb) (rd hL rfl rfl) rfl rfl (Nat.le_of_ble_eq_true rfl) ?_
          refine V_if_eq (tgt := 177) d_Mo_relative_167 (by decide) (fun c9 => absurd c9 (c1)) (fun _ => ?_)
          refine V_iload d_Mo_relative_170 rfl ?_
          refine V_iconst (v := 1) d_Mo_relative_172 (by decide) ?_
          refine V_isub d_Mo_relative_173 ?_
          refine V_goto (tgt := 179) d_Mo_relative_174 (by decide) ?_
          rw [nIm1 z]
          refine V_istore d_Mo_relative_179 (by decide) rfl ?_
          refine V_iinc1 d_Mo_relative_181 rfl (by decide) rfl ?_
          refine V_goto (tgt := 143) d_Mo_relative_184 (by decide) ?_
          rw [nI_1]
          exact ih (p + 1) (left - 1) (by omega) (by omega)
  have loop : ∀ (m t9 : Nat) (s : Dr), 0 < g.1 → t9 + m = t → s.1 ≤ 12 → d = fori (drS g.2.1 g.2.2 g.1 sd tol) m t9 s → V l G k_Mo_relative (seH h th w ht sd md pl sh sx sy ln hi sX sY) 118 [(0, .ref 28), (1, .int (nI a)), (2, .int (nI b)), (3, .int (nI t)), (4, .int tol), (5, .int (nI g.1)), (6, .int (nI s.1)), (7, .int (nI t9))] [] (seH h 0 w ht sd md pl (decide (0 < g.1)) s.2.1 s.2.2 ln hi sX sY) (ri (nI d.1)) (seH h 0 w ht sd md pl (decide (0 < g.1)) d.2.1 d.2.2 ln hi sX sY) := by
    intro m
    induction m with
    | zero =>
      intro t9 s h1 h2 h3 e
      rw [show d = s from e]
      refine V_iload d_Mo_relative_118 rfl ?_
      refine V_iload_n d_Mo_relative_120 rfl ?_
      refine V_icmp_ge (tgt := 275) d_Mo_relative_121 (by decide) (fun _ => ?_) (fun c9 => absurd ((nI_le (by omega) (by omega) : nI t ≤ nI t9)) c9)
      refine V_iload d_Mo_relative_275 rfl ?_
      exact V_iret d_Mo_relative_277 rfl rfl
    | succ m ih =>
      intro t9 s h1 h2 h3 e
      rw [fori_s] at e
      refine V_iload d_Mo_relative_118 rfl ?_
      refine V_iload_n d_Mo_relative_120 rfl ?_
      refine V_icmp_ge (tgt := 275) d_Mo_relative_121 (by decide) (fun c9 => absurd c9 ((nI_ge (by omega) (by omega) : ¬ nI t ≤ nI t9))) (fun _ => ?_)
      refine V_iload d_Mo_relative_124 rfl ?_
      refine V_if_le (tgt := 275) d_Mo_relative_126 (by decide) (fun c9 => absurd c9 ((nI_nle h1 (by omega)))) (fun _ => ?_)
      have hz : dzN sd t9 < 65537 := Nat.mod_lt _ (by decide)
      have hdl : dzN sd t9 % g.1 < g.1 := Nat.mod_lt _ h1
      refine V_aload_n d_Mo_relative_129 rfl ?_
      refine V_iload d_Mo_relative_130 rfl ?_
      refine V_cV s_Mo_relative_132 (mo_drawn (rd hL rfl rfl) hs t9 (by omega)) (rd hL rfl rfl) rfl rfl (Nat.le_of_ble_eq_true rfl) ?_
      refine V_iload d_Mo_relative_135 rfl ?_
      refine V_irem d_Mo_relative_137 (fun q => absurd (by rw [q]; decide) (nI_nle h1 (by omega))) ?_
      rw [pk_rem (by omega) h1 (by omega)]
      refine V_istore d_Mo_relative_138 (by decide) rfl ?_
      refine V_iconst (v := 0) d_Mo_relative_140 (by decide) ?_
      refine V_istore d_Mo_relative_141 (by decide) rfl ?_
      refine search s t9 (dzN sd t9 % g.1) (decide (0 < g.1)) hdl (fun one hone hB hrk => ?_) pl 0 (dzN sd t9 % g.1) (by omega) rfl
      have hB1 : Bn (one * 4 + a) = true := by unfold bo at hB; rw [Bool.and_eq_true] at hB; exact hB.1
      have hB2 : Bn (one * 4 + b) = true := by unfold bo at hB; rw [Bool.and_eq_true] at hB; exact hB.2
      have hag := ag_eq hR hn ha hb hone hB fx fy tol g hg
      rw [hrk] at hag
      have hac : agM Bn wh a b one tol pl ≤ 12 := by
        have := agC_le g.2.1 g.2.2 (dzN sd t9 % g.1) tol g.1 0 0
        rw [← hag]
        unfold agC
        omega
      have hg2 := g2 one hone hB
      rw [hrk] at hg2
      refine V_aload_n d_Mo_relative_187 rfl ?_
      refine V_iload d_Mo_relative_188 rfl ?_
      refine V_iload_n d_Mo_relative_190 rfl ?_
      refine V_iload_n d_Mo_relative_191 rfl ?_
      refine V_iload d_Mo_relative_192 rfl ?_
      refine V_cV s_Mo_relative_194 (mo_agreeing (rd hL rfl rfl) (rd hL rfl rfl) (rd hL rfl rfl) hR hn ha hb hone hB tol) (rd hL rfl rfl) rfl rfl (Nat.le_of_ble_eq_true rfl) ?_
      refine V_istore d_Mo_relative_197 (by decide) rfl ?_
      refine V_aload_n d_Mo_relative_199 rfl ?_
      refine V_iload d_Mo_relative_200 rfl ?_
      refine V_iload d_Mo_relative_202 rfl ?_
      rcases Nat.lt_or_ge s.1 (agM Bn wh a b one tol pl) with z | z
      · have es : drS g.2.1 g.2.2 g.1 sd tol t9 s = (agM Bn wh a b one tol pl, dx wh a b 0 one, dx wh a b 1 one) := by
          unfold drS
          rw [hag, if_pos z, hg2.1, hg2.2]
        rw [es] at e
        refine V_icmp_le (tgt := 219) d_Mo_relative_204 (by decide) (fun c9 => absurd c9 ((nI_ge z (by omega)))) (fun _ => ?_)
        refine V_aload_n d_Mo_relative_207 rfl ?_
        refine V_iload d_Mo_relative_208 rfl ?_
        refine V_iload_n d_Mo_relative_210 rfl ?_
        refine V_iload_n d_Mo_relative_211 rfl ?_
        refine V_iconst (v := 0) d_Mo_relative_212 (by decide) ?_
        refine V_cV s_Mo_relative_213 (mo_between (rd hL rfl rfl) (rd hL rfl rfl) (rd hL rfl rfl) hR (p := one) (x := 0) (by omega) ha hb (by decide) hB1 hB2) (rd hL rfl rfl) rfl rfl (Nat.le_of_ble_eq_true rfl) ?_
        refine V_goto (tgt := 223) d_Mo_relative_216 (by decide) ?_
        refine V_pf p_Mo_relative_223 (rd hL rfl rfl) (Nat.le_of_ble_eq_true rfl) rfl rfl ?_
        refine V_hS rfl ?_
        refine V_aload_n d_Mo_relative_226 rfl ?_
        refine V_iload d_Mo_relative_227 rfl ?_
        refine V_iload d_Mo_relative_229 rfl ?_
        refine V_icmp_le (tgt := 246) d_Mo_relative_231 (by decide) (fun c9 => absurd c9 ((nI_ge z (by omega)))) (fun _ => ?_)
        refine V_aload_n d_Mo_relative_234 rfl ?_
        refine V_iload d_Mo_relative_235 rfl ?_
        refine V_iload_n d_Mo_relative_237 rfl ?_
        refine V_iload_n d_Mo_relative_238 rfl ?_
        refine V_iconst (v := 1) d_Mo_relative_239 (by decide) ?_
        refine V_cV s_Mo_relative_240 (mo_between (rd hL rfl rfl) (rd hL rfl rfl) (rd hL rfl rfl) hR (p := one) (x := 1) (by omega) ha hb (by decide) hB1 hB2) (rd hL rfl rfl) rfl rfl (Nat.le_of_ble_eq_true rfl) ?_
        refine V_goto (tgt := 250) d_Mo_relative_243 (by decide) ?_
        refine V_pf p_Mo_relative_250 (rd hL rfl rfl) (Nat.le_of_ble_eq_true rfl) rfl rfl ?_
        refine V_hS rfl ?_
        refine V_iload d_Mo_relative_253 rfl ?_
        refine V_iload d_Mo_relative_255 rfl ?_
        refine V_icmp_le (tgt := 265) d_Mo_relative_257 (by decide) (fun c9 => absurd c9 ((nI_ge z (by omega)))) (fun _ => ?_)
        refine V_iload d_Mo_relative_260 rfl ?_
        refine V_goto (tgt := 267) d_Mo_relative_262 (by decide) ?_
        refine V_istore d_Mo_relative_267 (by decide) rfl ?_
        refine V_iinc1 d_Mo_relative_269 rfl (by decide) rfl ?_
        refine V_goto (tgt := 118) d_Mo_relative_272 (by decide) ?_
        rw [nI_1]
        refine V_keep [0, 1, 2, 3, 4, 5, 6, 7] ?_
        exact ih (t9 + 1) (agM Bn wh a b one tol pl, dx wh a b 0 one, dx wh a b 1 one) h1 (by omega) hac e
      · have es : drS g.2.1 g.2.2 g.1 sd tol t9 s = s := by
          unfold drS
          rw [hag, if_neg (by omega)]
        rw [es] at e
        refine V_icmp_le (tgt := 219) d_Mo_relative_204 (by decide) (fun _ => ?_) (fun c9 => absurd ((nI_le z (by omega))) c9)
        refine V_aload_n d_Mo_relative_219 rfl ?_
        refine V_gf g_Mo_relative_220 (rd hL rfl rfl) rfl ?_
        refine V_pf p_Mo_relative_223 (rd hL rfl rfl) (Nat.le_of_ble_eq_true rfl) rfl rfl ?_
        refine V_hS rfl ?_
        refine V_aload_n d_Mo_relative_226 rfl ?_
        refine V_iload d_Mo_relative_227 rfl ?_
        refine V_iload d_Mo_relative_229 rfl ?_
        refine V_icmp_le (tgt := 246) d_Mo_relative_231 (by decide) (fun _ => ?_) (fun c9 => absurd ((nI_le z (by omega))) c9)
        refine V_aload_n d_Mo_relative_246 rfl ?_
        refine V_gf g_Mo_relative_247 (rd hL rfl rfl) rfl ?_
        refine V_pf p_Mo_relative_250 (rd hL rfl rfl) (Nat.le_of_ble_eq_true rfl) rfl rfl ?_
        refine V_hS rfl ?_
        refine V_iload d_Mo_relative_253 rfl ?_
        refine V_iload d_Mo_relative_255 rfl ?_
        refine V_icmp_le (tgt := 265) d_Mo_relative_257 (by decide) (fun _ => ?_) (fun c9 => absurd ((nI_le z (by omega))) c9)
        refine V_iload d_Mo_relative_265 rfl ?_
        refine V_istore d_Mo_relative_267 (by decide) rfl ?_
        refine V_iinc1 d_Mo_relative_269 rfl (by decide) rfl ?_
        refine V_goto (tgt := 118) d_Mo_relative_272 (by decide) ?_
        rw [nI_1]
        refine V_keep [0, 1, 2, 3, 4, 5, 6, 7] ?_
        exact ih (t9 + 1) s h1 (by omega) h3 e
  have last : V l G k_Mo_relative (seH h th w ht sd md pl sh sx sy ln hi sX sY) 109 [(0, .ref 28), (1, .int (nI a)), (2, .int (nI b)), (3, .int (nI t)), (4, .int tol), (5, .int (nI g.1)), (6, .int (nI pl))] [.int (bI (decide (0 < g.1))), .ref 28] (seH h 0 w ht sd md pl sh sx sy ln hi sX sY) (ri (nI d.1)) (seH h 0 w ht sd md pl (decide (0 < g.1)) d.2.1 d.2.2 ln hi sX sY) := by
    refine V_pf p_Mo_relative_109 (rd hL rfl rfl) (Nat.le_of_ble_eq_true rfl) (bI_n _) (bI_f _) ?_
    refine V_hS rfl ?_
    refine V_iconst (v := 0) d_Mo_relative_112 (by decide) ?_
    refine V_istore d_Mo_relative_113 (by decide) rfl ?_
    refine V_iconst (v := 0) d_Mo_relative_115 (by decide) ?_
    refine V_istore d_Mo_relative_116 (by decide) rfl ?_
    rcases Nat.eq_zero_or_pos g.1 with z | z
    · rw [show d = (0, sx, sy) by rw [hd, drR, if_pos z]]
      refine V_iload d_Mo_relative_118 rfl ?_
      refine V_iload_n d_Mo_relative_120 rfl ?_
      refine V_icmp_ge (tgt := 275) d_Mo_relative_121 (by decide) (fun c9 => absurd c9 ((nI_ge (a := 0) (by omega) (by omega) : ¬ nI t ≤ 0))) (fun _ => ?_)
      refine V_iload d_Mo_relative_124 rfl ?_
      refine V_if_le (tgt := 275) d_Mo_relative_126 (by decide) (fun _ => ?_) (fun c9 => absurd ((by rw [z]; decide)) c9)
      refine V_iload d_Mo_relative_275 rfl ?_
      exact V_iret d_Mo_relative_277 rfl rfl
    · exact loop t 0 (0, sx, sy) z (by omega) (by omega) (by rw [hd, drR, if_neg (by omega)])
  have count : ∀ (m p : Nat), p + m = pl → V l G k_Mo_relative (seH h th w ht sd md pl sh sx sy ln hi sX sY) 61 [(0, .ref 28), (1, .int (nI a)), (2, .int (nI b)), (3, .int (nI t)), (4, .int tol), (5, .int (nI (rk Bn a b p))), (6, .int (nI p))] [] (seH h 0 w ht sd md pl sh sx sy ln hi sX sY) (ri (nI d.1)) (seH h 0 w ht sd md pl (decide (0 < g.1)) d.2.1 d.2.2 ln hi sX sY) := by
    intro m
    induction m with
    | zero =>
      intro p hp
      obtain rfl : p = pl := by omega
      refine V_iload d_Mo_relative_61 rfl ?_
      refine V_aload_n d_Mo_relative_63 rfl ?_
      refine V_gf g_Mo_relative_64 (rd hL rfl rfl) rfl ?_
      refine V_icmp_ge (tgt := 98) d_Mo_relative_67 (by decide) (fun _ => ?_) (fun c9 => absurd ((nI_le (by omega) (by omega) : nI p ≤ nI p)) c9)
      rw [← g1]
      refine V_aload_n d_Mo_relative_98 rfl ?_
      refine V_iload d_Mo_relative_99 rfl ?_
      rcases Nat.eq_zero_or_pos g.1 with z | z
      · refine V_if_le (tgt := 108) d_Mo_relative_101 (by decide) (fun _ => ?_) (fun c9 => absurd ((by rw [z]; decide)) c9)
        refine V_iconst (v := 0) d_Mo_relative_108 (by decide) ?_
        rw [show decide (0 < g.1) = false by simp [z]] at last ⊢
        exact last
      · refine V_if_le (tgt := 108) d_Mo_relative_101 (by decide) (fun c9 => absurd c9 ((nI_nle z (by omega)))) (fun _ => ?_)
        refine V_iconst (v := 1) d_Mo_relative_104 (by decide) ?_
        refine V_goto (tgt := 109) d_Mo_relative_105 (by decide) ?_
        rw [show decide (0 < g.1) = true by simp [z]] at last ⊢
        exact last
    | succ m ih =>
      intro p hp
      have hr : rk Bn a b (p + 1) = rk Bn a b p + (if bo Bn a b p then 1 else 0) := rfl
      refine V_iload d_Mo_relative_61 rfl ?_
      refine V_aload_n d_Mo_relative_63 rfl ?_
      refine V_gf g_Mo_relative_64 (rd hL rfl rfl) rfl ?_
      refine V_icmp_ge (tgt := 98) d_Mo_relative_67 (by decide) (fun c9 => absurd c9 ((nI_ge (by omega) (by omega) : ¬ nI pl ≤ nI p))) (fun _ => ?_)
      refine V_aload_n d_Mo_relative_70 rfl ?_
      refine V_iload d_Mo_relative_71 rfl ?_
      refine V_iload_n d_Mo_relative_73 rfl ?_
      refine V_iload_n d_Mo_relative_74 rfl ?_
      refine V_cV s_Mo_relative_75 (mo_isBoth (rd hL rfl rfl) (rd hL rfl rfl) hR (show p < 12 by omega) ha hb) (rd hL rfl rfl) rfl rfl (Nat.le_of_ble_eq_true rfl) ?_
      refine V_if_eq (tgt := 88) d_Mo_relative_78 (by decide) (fun c1 => ?_) (fun c1 => ?_)
      · have c1' : bo Bn a b p = false := (bI_0 _).mp c1
        rw [if_neg (by rw [c1']; decide)] at hr
        refine V_iload d_Mo_relative_88 rfl ?_
        refine V_istore d_Mo_relative_90 (by decide) rfl ?_
        refine V_iinc1 d_Mo_relative_92 rfl (by decide) rfl ?_
        refine V_goto (tgt := 61) d_Mo_relative_95 (by decide) ?_
        rw [nI_1, ← Nat.add_zero (rk Bn a b p), ← hr]
        exact ih (p + 1) (by omega)
      · have c1' : bo Bn a b p = true := by unfold bo; simpa [bI_0] using c1
        rw [if_pos c1'] at hr
        refine V_iload d_Mo_relative_81 rfl ?_
        refine V_iconst (v := 1) d_Mo_relative_83 (by decide) ?_
        refine V_iadd d_Mo_relative_84 ?_
        rw [nI_1, ← hr]
        refine V_goto (tgt := 90) d_Mo_relative_85 (by decide) ?_
        refine V_istore d_Mo_relative_90 (by decide) rfl ?_
        refine V_iinc1 d_Mo_relative_92 rfl (by decide) rfl ?_
        refine V_goto (tgt := 61) d_Mo_relative_95 (by decide) ?_
        rw [nI_1]
        exact ih (p + 1) (by omega)
  refine V_iconst (v := 0) d_Mo_relative_55 (by decide) ?_
  refine V_istore d_Mo_relative_56 (by decide) rfl ?_
  refine V_iconst (v := 0) d_Mo_relative_58 (by decide) ?_
  refine V_istore d_Mo_relative_59 (by decide) rfl ?_
  exact count pl 0 (by omega)
end P38
