section P35
variable {l : Launch} {G : Gb} {h h0 h' : List Ce} {r : Rs} {th sx sy : Int32} {w ht sd pl ln : Nat} {md sh hi : Bool} {f mf mt : Nat → Int32}
theorem mo_match_l2 (hL : 45 ≤ h.length) (hR : Rv w ht f mf) (hw : 6 ≤ w ∧ w ≤ 20) (hht : 6 ≤ ht ∧ ht ≤ 20) (a b x y : Nat) (ha : a < 4) (hb : b < 4) (hx : 1 ≤ x ∧ x + 1 < w) (hy : 1 ≤ y ∧ y + 1 < ht) (best : Int32) (i j : Nat) (hi9 : i < 20) (hj9 : j < 20) : ∀ (n v : Nat) (mt : Nat → Int32), 1 ≤ v → v + n = ht - 1 → mt 0 = nI i → mt 1 = nI j → ∃ mt', mt' 0 = nI i ∧ mt' 1 = nI j ∧ mt' 2 = fori (fun y9 t => fori (fun x9 t => lf2 (fun u v => wmiss f w ht a x y b u v) (nI i) (nI j) y9 x9 t) (w - 2) 1 t) n v (mt 2) ∧ ∀ r h' H0, V l G k_Mo_match H0 292 [(0, .ref 28), (1, .int (nI a)), (2, .int (nI b)), (3, .int (nI x)), (4, .int (nI y)), (5, .int best)] [] (maH h th w ht sd md pl sh sx sy ln hi mf mt') r h' → V l G k_Mo_match H0 160 [(0, .ref 28), (1, .int (nI a)), (2, .int (nI b)), (3, .int (nI x)), (4, .int (nI y)), (5, .int best), (6, .int (nI v))] [] (maH h th w ht sd md pl sh sx sy ln hi mf mt) r h' := by
  have inner : ∀ (v : Nat), 1 ≤ v → v + 1 < ht → ∀ (n u : Nat) (mt : Nat → Int32), 1 ≤ u → u + n = w - 1 → mt 0 = nI i → mt 1 = nI j → ∃ mt', mt' 0 = nI i ∧ mt' 1 = nI j ∧ mt' 2 = fori (fun x9 t => lf2 (fun u v => wmiss f w ht a x y b u v) (nI i) (nI j) v x9 t) n u (mt 2) ∧ ∀ r h' H0, V l G k_Mo_match H0 286 [(0, .ref 28), (1, .int (nI a)), (2, .int (nI b)), (3, .int (nI x)), (4, .int (nI y)), (5, .int best), (6, .int (nI v))] [] (maH h th w ht sd md pl sh sx sy ln hi mf mt') r h' → V l G k_Mo_match H0 174 [(0, .ref 28), (1, .int (nI a)), (2, .int (nI b)), (3, .int (nI x)), (4, .int (nI y)), (5, .int best), (6, .int (nI v)), (7, .int (nI u))] [] (maH h th w ht sd md pl sh sx sy ln hi mf mt) r h' := by
    intro v hv1 hv2 n
    induction n with
    | zero =>
      intro u mt hu e h0 h1
      refine ⟨mt, h0, h1, rfl, fun r h' H0 kk => ?_⟩
      refine V_iload d_Mo_match_174 rfl ?_
      refine V_aload_n d_Mo_match_176 rfl ?_
      refine V_gf g_Mo_match_177 (rd hL rfl rfl) rfl ?_
      refine V_iconst (v := 1) d_Mo_match_180 (by decide) ?_
      refine V_isub d_Mo_match_181 ?_
      rw [nIm1 (by omega)]
      refine V_icmp_ge (tgt := 286) d_Mo_match_182 (by decide) (fun _ => ?_) (fun c9 => absurd ((nI_le (by omega) (by omega) : nI (w - 1) ≤ nI u)) c9)
      exact V_keep [0, 1, 2, 3, 4, 5, 6] kk
    | succ n ih =>
      intro u mt hu e h0 h1
      rw [fori_s]
      have hD := mo_missOf (l := l) (G := G) (h := maH h th w ht sd md pl sh sx sy ln hi mf mt) (rd hL rfl rfl) (rd hL rfl rfl) hR hw.2 hht.2 a b x y u v ha hb hx hy ⟨hu, by omega⟩ ⟨hv1, hv2⟩
      have hl2 : lf2 (fun u v => wmiss f w ht a x y b u v) (nI i) (nI j) v u (mt 2) = if (decide (1 < apR (nI u) (nI i)) || decide (1 < apR (nI v) (nI j))) && (decide (mt 2 = -1) || decide (wmiss f w ht a x y b u v < mt 2)) then wmiss f w ht a x y b u v else mt 2 := by
        unfold lf2 lsB
        rw [far_eq (by omega) (by omega) hi9 hj9]
      rw [hl2]
      revert hD
      generalize wmiss f w ht a x y b u v = M
      intro hD
      obtain ⟨mt', q0, q1, q2, q3⟩ := ih (u + 1) (upd mt 2 (if (decide (1 < apR (nI u) (nI i)) || decide (1 < apR (nI v) (nI j))) && (decide (mt 2 = -1) || decide (M < mt 2)) then M else mt 2)) (by omega) (by omega) (by rw [← h0]; rfl) (by rw [← h1]; rfl)
      refine ⟨mt', q0, q1, q2, fun r h' H0 kk => ?_⟩
      have q3 := q3 r h' H0 kk
      have fin : ∀ (z : Int32) (far : Int32), z = (if (decide (1 < apR (nI u) (nI i)) || decide (1 < apR (nI v) (nI j))) && (decide (mt 2 = -1) || decide (M < mt 2)) then M else mt 2) → V l G k_Mo_match H0 279 [(0, .ref 28), (1, .int (nI a)), (2, .int (nI b)), (3, .int (nI x)), (4, .int (nI y)), (5, .int best), (6, .int (nI v)), (7, .int (nI u)), (8, .int M), (9, .int far)] [.int z, .int 2, .ref 30] (maH h th w ht sd md pl sh sx sy ln hi mf mt) r h' := by
        intro z far hz
        rw [← hz] at q3
        refine V_iastN d_Mo_match_279 (rd hL rfl rfl) ((⟨rfl, by decide, by decide⟩ : Ix 2 2 3)) ?_
        refine V_hS rfl ?_
        refine V_iinc1 d_Mo_match_280 rfl (by decide) rfl ?_
        refine V_goto (tgt := 174) d_Mo_match_283 (by decide) ?_
        rw [nI_1]
        refine V_keep [0, 1, 2, 3, 4, 5, 6, 7] ?_
        exact q3
      have mid : ∀ fb : Bool, fb = (decide (1 < apR (nI u) (nI i)) || decide (1 < apR (nI v) (nI j))) → V l G k_Mo_match H0 235 [(0, .ref 28), (1, .int (nI a)), (2, .int (nI b)), (3, .int (nI x)), (4, .int (nI y)), (5, .int best), (6, .int (nI v)), (7, .int (nI u)), (8, .int M)] [.int (bI fb)] (maH h th w ht sd md pl sh sx sy ln hi mf mt) r h' := by
        intro fb hfb
        rw [← hfb] at fin
        refine V_istore d_Mo_match_235 (by decide) rfl ?_
        refine V_aload_n d_Mo_match_237 rfl ?_
        refine V_gf g_Mo_match_238 (rd hL rfl rfl) rfl ?_
        refine V_iconst (v := 2) d_Mo_match_241 (by decide) ?_
        refine V_iload d_Mo_match_242 rfl ?_
        refine V_if_eq (tgt := 273) d_Mo_match_244 (by decide) (fun c1 => ?_) (fun c1 => ?_)
        · refine V_aload_n d_Mo_match_273 rfl ?_
          refine V_gf g_Mo_match_274 (rd hL rfl rfl) rfl ?_
          refine V_iconst (v := 2) d_Mo_match_277 (by decide) ?_
          refine V_ialdN d_Mo_match_278 (rd hL rfl rfl) ((⟨rfl, by decide, by decide⟩ : Ix 2 2 3)) ?_
          exact fin _ _ (by rw [(bI_0 _).mp c1]; rfl)
        · rw [show fb = true by simpa [bI_0] using c1] at fin
          refine V_aload_n d_Mo_match_247 rfl ?_
          refine V_gf g_Mo_match_248 (rd hL rfl rfl) rfl ?_
          refine V_iconst (v := 2) d_Mo_match_251 (by decide) ?_
          refine V_ialdN d_Mo_match_252 (rd hL rfl rfl) ((⟨rfl, by decide, by decide⟩ : Ix 2 2 3)) ?_
          refine V_iconst (v := (-1)) d_Mo_match_253 (by decide) ?_
          refine V_icmp_eq (tgt := 268) d_Mo_match_254 (by decide) (fun c2 => ?_) (fun c2 => ?_)
          · refine V_iload d_Mo_match_268 rfl ?_
            refine V_goto (tgt := 279) d_Mo_match_270 (by decide) ?_
            exact fin _ _ (by simp [c2])
          · refine V_iload d_Mo_match_257 rfl ?_
            refine V_aload_n d_Mo_match_259 rfl ?_
            refine V_gf g_Mo_match_260 (rd hL rfl rfl) rfl ?_
            refine V_iconst (v := 2) d_Mo_match_263 (by decide) ?_
            refine V_ialdN d_Mo_match_264 (rd hL rfl rfl) ((⟨rfl, by decide, by decide⟩ : Ix 2 2 3)) ?_
            refine V_icmp_ge (tgt := 273) d_Mo_match_265 (by decide) (fun c3 => ?_) (fun c3 => ?_)
            · refine V_aload_n d_Mo_match_273 rfl ?_
              refine V_gf g_Mo_match_274 (rd hL rfl rfl) rfl ?_
              refine V_iconst (v := 2) d_Mo_match_277 (by decide) ?_
              refine V_ialdN d_Mo_match_278 (rd hL rfl rfl) ((⟨rfl, by decide, by decide⟩ : Ix 2 2 3)) ?_
              exact fin _ _ (by simp [c2, nlt_iff.mpr c3])
            · refine V_iload d_Mo_match_268 rfl ?_
              refine V_goto (tgt := 279) d_Mo_match_270 (by decide) ?_
              exact fin _ _ (by simp [nle_iff.mp c3])
      refine V_iload d_Mo_match_174 rfl ?_
      refine V_aload_n d_Mo_match_176 rfl ?_
      refine V_gf g_Mo_match_177 (rd hL rfl rfl) rfl ?_
      refine V_iconst (v := 1) d_Mo_match_180 (by decide) ?_
      refine V_isub d_Mo_match_181 ?_
      rw [nIm1 (by omega)]
      refine V_icmp_ge (tgt := 286) d_Mo_match_182 (by decide) (fun c9 => absurd c9 ((nI_ge (by omega) (by omega) : ¬ nI (w - 1) ≤ nI u))) (fun _ => ?_)
      refine V_aload_n d_Mo_match_185 rfl ?_
      refine V_iload_n d_Mo_match_186 rfl ?_
      refine V_iload_n d_Mo_match_187 rfl ?_
      refine V_iload_n d_Mo_match_188 rfl ?_
      refine V_iload d_Mo_match_189 rfl ?_
      refine V_iload d_Mo_match_191 rfl ?_
      refine V_iload d_Mo_match_193 rfl ?_
      refine V_cV s_Mo_match_195 (hD) (rd hL rfl rfl) rfl rfl (Nat.le_of_ble_eq_true rfl) ?_
      refine V_istore d_Mo_match_198 (by decide) rfl ?_
      refine V_iload d_Mo_match_200 rfl ?_
      refine V_aload_n d_Mo_match_202 rfl ?_
      refine V_gf g_Mo_match_203 (rd hL rfl rfl) rfl ?_
      refine V_iconst (v := 0) d_Mo_match_206 (by decide) ?_
      refine V_ialdN d_Mo_match_207 (rd hL rfl rfl) ((⟨rfl, by decide, by decide⟩ : Ix 0 0 3)) ?_
      rw [h0]
      refine V_cS s_Mo_match_208 (mo_apart (nI u) (nI i)) rfl rfl (Nat.le_of_ble_eq_true rfl) ?_
      refine V_iconst (v := 1) d_Mo_match_211 (by decide) ?_
      refine V_icmp_gt (tgt := 230) d_Mo_match_212 (by decide) (fun c1 => ?_) (fun c1 => ?_)
      · refine V_iconst (v := 1) d_Mo_match_230 (by decide) ?_
        refine V_goto (tgt := 235) d_Mo_match_231 (by decide) ?_
        exact mid true (by simp [c1])
      · refine V_iload d_Mo_match_215 rfl ?_
        refine V_aload_n d_Mo_match_217 rfl ?_
        refine V_gf g_Mo_match_218 (rd hL rfl rfl) rfl ?_
        refine V_iconst (v := 1) d_Mo_match_221 (by decide) ?_
        refine V_ialdN d_Mo_match_222 (rd hL rfl rfl) ((⟨rfl, by decide, by decide⟩ : Ix 1 1 3)) ?_
        rw [h1]
        refine V_cS s_Mo_match_223 (mo_apart (nI v) (nI j)) rfl rfl (Nat.le_of_ble_eq_true rfl) ?_
        refine V_iconst (v := 1) d_Mo_match_226 (by decide) ?_
        refine V_icmp_le (tgt := 234) d_Mo_match_227 (by decide) (fun c2 => ?_) (fun c2 => ?_)
        · refine V_iconst (v := 0) d_Mo_match_234 (by decide) ?_
          exact mid false (by simp [c1, nlt_iff.mpr c2])
        · refine V_iconst (v := 1) d_Mo_match_230 (by decide) ?_
          refine V_goto (tgt := 235) d_Mo_match_231 (by decide) ?_
          exact mid true (by simp [nle_iff.mp c2])
  intro n
  induction n with
  | zero =>
    intro v mt hv e h0 h1
    refine ⟨mt, h0, h1, rfl, fun r h' H0 kk => ?_⟩
    refine V_iload d_Mo_match_160 rfl ?_
    refine V_aload_n d_Mo_match_162 rfl ?_
    refine V_gf g_Mo_match_163 (rd hL rfl rfl) rfl ?_
    refine V_iconst (v := 1) d_Mo_match_166 (by decide) ?_
    refine V_isub d_Mo_match_167 ?_
    rw [nIm1 (by omega)]
    refine V_icmp_ge (tgt := 292) d_Mo_match_168 (by decide) (fun _ => ?_) (fun c9 => absurd ((nI_le (by omega) (by omega) : nI (ht - 1) ≤ nI v)) c9)
    exact V_keep [0, 1, 2, 3, 4, 5] kk
  | succ n ih =>
    intro v mt hv e h0 h1
    rw [fori_s]
    obtain ⟨m1, p0, p1, p2, p3⟩ := inner v hv (by omega) (w - 2) 1 mt (Nat.le_refl _) (by omega) h0 h1
    obtain ⟨m2, q0, q1, q2, q3⟩ := ih (v + 1) m1 (by omega) (by omega) p0 p1
    refine ⟨m2, q0, q1, by rw [q2, p2], fun r h' H0 kk => ?_⟩
    refine V_iload d_Mo_match_160 rfl ?_
    refine V_aload_n d_Mo_match_162 rfl ?_
    refine V_gf g_Mo_match_163 (rd hL rfl rfl) rfl ?_
    refine V_iconst (v := 1) d_Mo_match_166 (by decide) ?_
    refine V_isub d_Mo_match_167 ?_
    rw [nIm1 (by omega)]
    refine V_icmp_ge (tgt := 292) d_Mo_match_168 (by decide) (fun c9 => absurd c9 ((nI_ge (by omega) (by omega) : ¬ nI (ht - 1) ≤ nI v))) (fun _ => ?_)
    refine V_iconst (v := 1) d_Mo_match_171 (by decide) ?_
    refine V_istore d_Mo_match_172 (by decide) rfl ?_
    refine p3 r h' H0 ?_
    refine V_iinc1 d_Mo_match_286 rfl (by decide) rfl ?_
    refine V_goto (tgt := 160) d_Mo_match_289 (by decide) ?_
    rw [nI_1]
    exact q3 r h' H0 kk
theorem mo_match_p (c_Mo : h[27]? = some (MoO th w ht sd md pl sh sx sy ln hi)) (a b x y : Int32) (A : Bool) (hA : A = (wiB a 0 3 && (wiB b 0 3 && (wiB x 1 (nI w - 2) && wiB y 1 (nI ht - 2))))) (kk : V l G k_Mo_match h0 54 [(0, .ref 28), (1, .int a), (2, .int b), (3, .int x), (4, .int y)] [.int (bI (A && true && true))] (h.set 27 (MoO (nI (gc A true true)) w ht sd md pl sh sx sy ln hi)) r h') : V l G k_Mo_match h0 0 [(0, .ref 28), (1, .int a), (2, .int b), (3, .int x), (4, .int y)] [] h r h' := by
  have mid : V l G k_Mo_match h0 49 [(0, .ref 28), (1, .int a), (2, .int b), (3, .int x), (4, .int y)] [.int (bI A), .ref 28] h r h' := by
    refine V_iconst (v := 1) d_Mo_match_49 (by decide) ?_
    refine V_iconst (v := 1) d_Mo_match_50 (by decide) ?_
    refine V_cV s_Mo_match_51 (mo_goes c_Mo A true true) c_Mo rfl rfl (Nat.le_of_ble_eq_true rfl) ?_
    exact kk
  have no : A = false → V l G k_Mo_match h0 48 [(0, .ref 28), (1, .int a), (2, .int b), (3, .int x), (4, .int y)] [.ref 28] h r h' := by
    intro q
    rw [q] at mid
    refine V_iconst (v := 0) d_Mo_match_48 (by decide) ?_
    exact mid
  refine V_aload_n d_Mo_match_0 rfl ?_
  refine V_iload_n d_Mo_match_1 rfl ?_
  refine V_cS s_Mo_match_2 (mo_isPhoto a) rfl rfl (Nat.le_of_ble_eq_true rfl) ?_
  refine V_if_eq (tgt := 48) d_Mo_match_5 (by decide) (fun c1 => ?_) (fun c1 => ?_)
  · exact no (by rw [hA, (bI_0 _).mp c1]; rfl)
  · rw [(show wiB a 0 3 = true by simpa [bI_0] using c1), Bool.true_and] at hA
    refine V_iload_n d_Mo_match_8 rfl ?_
    refine V_cS s_Mo_match_9 (mo_isPhoto b) rfl rfl (Nat.le_of_ble_eq_true rfl) ?_
    refine V_if_eq (tgt := 48) d_Mo_match_12 (by decide) (fun c2 => ?_) (fun c2 => ?_)
    · exact no (by rw [hA, (bI_0 _).mp c2]; rfl)
    · rw [(show wiB b 0 3 = true by simpa [bI_0] using c2), Bool.true_and] at hA
      refine V_iload_n d_Mo_match_15 rfl ?_
      refine V_iconst (v := 1) d_Mo_match_16 (by decide) ?_
      refine V_aload_n d_Mo_match_17 rfl ?_
      refine V_gf g_Mo_match_18 c_Mo rfl ?_
      refine V_iconst (v := 2) d_Mo_match_21 (by decide) ?_
      refine V_isub d_Mo_match_22 ?_
      refine V_cS s_Mo_match_23 (mo_within x 1 (nI w - 2)) rfl rfl (Nat.le_of_ble_eq_true rfl) ?_
      refine V_if_eq (tgt := 48) d_Mo_match_26 (by decide) (fun c3 => ?_) (fun c3 => ?_)
      · exact no (by rw [hA, (bI_0 _).mp c3]; rfl)
      · rw [(show wiB x 1 (nI w - 2) = true by simpa [bI_0] using c3), Bool.true_and] at hA
        refine V_iload d_Mo_match_29 rfl ?_
        refine V_iconst (v := 1) d_Mo_match_31 (by decide) ?_
        refine V_aload_n d_Mo_match_32 rfl ?_
        refine V_gf g_Mo_match_33 c_Mo rfl ?_
        refine V_iconst (v := 2) d_Mo_match_36 (by decide) ?_
        refine V_isub d_Mo_match_37 ?_
        refine V_cS s_Mo_match_38 (mo_within y 1 (nI ht - 2)) rfl rfl (Nat.le_of_ble_eq_true rfl) ?_
        refine V_if_eq (tgt := 48) d_Mo_match_41 (by decide) (fun c4 => ?_) (fun c4 => ?_)
        · exact no (by rw [hA, (bI_0 _).mp c4])
        · rw [hA, show wiB y 1 (nI ht - 2) = true by simpa [bI_0] using c4] at mid
          refine V_iconst (v := 1) d_Mo_match_44 (by decide) ?_
          refine V_goto (tgt := 49) d_Mo_match_45 (by decide) ?_
          exact mid
theorem mo_match_e (c_Mo : h[27]? = some (MoO th w ht sd md pl sh sx sy ln hi)) (a b x y : Int32) (hA : (wiB a 0 3 && (wiB b 0 3 && (wiB x 1 (nI w - 2) && wiB y 1 (nI ht - 2)))) = false) : Do l G k_Mo_match [.ref 28, .int a, .int b, .int x, .int y] h (ri 0) (h.set 27 (MoO 1 w ht sd md pl sh sx sy ln hi)) := by
  refine Do.of (by decide) (Nat.le_of_ble_eq_true rfl) kw_Mo_match ?_
  refine mo_match_p c_Mo a b x y false hA.symm ?_
  refine V_if_ne (tgt := 59) d_Mo_match_54 (by decide) (fun c9 => absurd ((rfl : bI (false && true && true) = 0)) c9) (fun _ => ?_)
  refine V_iconst (v := 0) d_Mo_match_57 (by decide) ?_
  exact V_iret d_Mo_match_58 rfl rfl
theorem mo_match (hL : 45 ≤ h.length) (hR : Rv w ht f mf) (hw : 6 ≤ w ∧ w ≤ 20) (hht : 6 ≤ ht ∧ ht ≤ 20) (a b x y : Nat) (ha : a < 4) (hb : b < 4) (hx : 1 ≤ x ∧ x + 1 < w) (hy : 1 ≤ y ∧ y + 1 < ht) (fx fy : Int32) (ms : Nat → Int32) (S : Lk) (hS9 : S = lookR (fun u v => wmiss f w ht a x y b u v) w ht (-1, fx, fy, ms)) : ∃ mt', mt' 0 = S.2.1 ∧ mt' 1 = S.2.2.1 ∧ mt' 2 = lfR S.2.2.2 w ht S.2.1 S.2.2.1 ∧ Do l G k_Mo_match [.ref 28, .int (nI a), .int (nI b), .int (nI x), .int (nI y)] (maH h th w ht sd md pl sh sx sy ln hi mf mt) (ri S.1) (maH h 0 w ht sd true pl sh sx sy ln hi mf mt') := by
  obtain ⟨best, mt1, q1, q2⟩ := mo_match_l1 (l := l) (G := G) (th := 0) (sd := sd) (md := md) (pl := pl) (sh := sh) (sx := sx) (sy := sy) (ln := ln) (hi := hi) hL hR hw hht a b x y ha hb hx hy (ht - 2) 1 0 (-1, fx, fy, ms) (-1) mt (Nat.le_refl _) (by omega) (Or.inl ⟨rfl, rfl, rfl⟩)
  have q1 : Qm (0 + (ht - 2) * (w - 2)) S best mt1 := by rw [hS9]; exact q1
  have hpos : 0 < 0 + (ht - 2) * (w - 2) := by
    rw [Nat.zero_add]
    exact Nat.mul_pos (by omega) (by omega)
  rcases q1 with ⟨z, -⟩ | ⟨m, hm, e1, e2, e3, e4, i, j, hi9, hj9, e5, e6⟩
  · omega
  obtain ⟨mt2, p0, p1, p2, p3⟩ := mo_match_l2 (l := l) (G := G) (th := 0) (sd := sd) (md := md) (pl := pl) (sh := sh) (sx := sx) (sy := sy) (ln := ln) (hi := hi) hL hR hw hht a b x y ha hb hx hy best i j hi9 hj9 (ht - 2) 1 (upd mt1 2 (-1)) (Nat.le_refl _) (by omega) (by rw [← e5, ← e3]; rfl) (by rw [← e6, ← e4]; rfl)
  refine ⟨mt2, by rw [p0, e5], by rw [p1, e6], ?_, ?_⟩
  · rw [p2, e5, e6, hS9, lf_lf2]
    rfl
  refine Do.of (by decide) (Nat.le_of_ble_eq_true rfl) kw_Mo_match ?_
  have g1 : wiB (nI a) 0 3 = true := wi_n (b := 3) (by omega) (by decide)
  have g2 : wiB (nI b) 0 3 = true := wi_n (b := 3) (by omega) (by decide)
  have g3 : wiB (nI x) 1 (nI w - 2) = true := by
    rw [nIm2 (by omega)]
    simp only [wiB, Bool.and_eq_true, decide_eq_true_eq]
    exact ⟨nI_le (a := 1) hx.1 (by omega), nI_le (by omega) (by omega)⟩
  have g4 : wiB (nI y) 1 (nI ht - 2) = true := by
    rw [nIm2 (by omega)]
    simp only [wiB, Bool.and_eq_true, decide_eq_true_eq]
    exact ⟨nI_le (a := 1) hy.1 (by omega), nI_le (by omega) (by omega)⟩
  refine mo_match_p (rd hL rfl rfl) (nI a) (nI b) (nI x) (nI y) true (by rw [g1, g2, g3, g4]; rfl) ?_
  refine V_hS rfl ?_
  refine V_if_ne (tgt := 59) d_Mo_match_54 (by decide) (fun _ => ?_) (fun c9 => absurd (c9 : _) ((by decide : ¬ bI (true && true && true) = 0)))
  refine V_iconst (v := (-1)) d_Mo_match_59 (by decide) ?_
  refine V_istore d_Mo_match_60 (by decide) rfl ?_
  refine V_iconst (v := 1) d_Mo_match_62 (by decide) ?_
  refine V_istore d_Mo_match_63 (by decide) rfl ?_
  refine q2 _ _ _ ?_
  refine V_aload_n d_Mo_match_150 rfl ?_
  refine V_gf g_Mo_match_151 (rd hL rfl rfl) rfl ?_
  refine V_iconst (v := 2) d_Mo_match_154 (by decide) ?_
  refine V_iconst (v := (-1)) d_Mo_match_155 (by decide) ?_
  refine V_iastN d_Mo_match_156 (rd hL rfl rfl) ((⟨rfl, by decide, by decide⟩ : Ix 2 2 3)) ?_
  refine V_hS rfl ?_
  refine V_iconst (v := 1) d_Mo_match_157 (by decide) ?_
  refine V_istore d_Mo_match_158 (by decide) rfl ?_
  refine p3 _ _ _ ?_
  rw [e1, ← e2]
  refine V_aload_n d_Mo_match_292 rfl ?_
  refine V_iconst (v := 1) d_Mo_match_293 (by decide) ?_
  refine V_pf p_Mo_match_294 (rd hL rfl rfl) (Nat.le_of_ble_eq_true rfl) rfl rfl ?_
  refine V_hS rfl ?_
  refine V_iload d_Mo_match_297 rfl ?_
  exact V_iret d_Mo_match_299 rfl rfl
theorem mo_found_e (c_Mo : h[27]? = some (MoO th w ht sd md pl sh sx sy ln hi)) (x : Int32) (hE : (wiB x 0 2 && md && true) = false) : Do l G k_Mo_found [.ref 28, .int x] h (ri 0) (h.set 27 (MoO (nI (gc (wiB x 0 2) md true)) w ht sd md pl sh sx sy ln hi)) := by
  refine Do.of (by decide) (Nat.le_of_ble_eq_true rfl) kw_Mo_found ?_
  refine V_aload_n d_Mo_found_0 rfl ?_
  refine V_iload_n d_Mo_found_1 rfl ?_
  refine V_iconst (v := 0) d_Mo_found_2 (by decide) ?_
  refine V_iconst (v := 2) d_Mo_found_3 (by decide) ?_
  refine V_cS s_Mo_found_4 (mo_within x 0 2) rfl rfl (Nat.le_of_ble_eq_true rfl) ?_
  refine V_aload_n d_Mo_found_7 rfl ?_
  refine V_gf g_Mo_found_8 c_Mo rfl ?_
  refine V_iconst (v := 1) d_Mo_found_11 (by decide) ?_
  refine V_cV s_Mo_found_12 (mo_goes c_Mo (wiB x 0 2) md true) c_Mo rfl rfl (Nat.le_of_ble_eq_true rfl) ?_
  refine V_if_eq (tgt := 27) d_Mo_found_15 (by decide) (fun _ => ?_) (fun c9 => absurd (((bI_0 _).mpr hE)) c9)
  refine V_iconst (v := 0) d_Mo_found_27 (by decide) ?_
  exact V_iret d_Mo_found_28 rfl rfl
theorem mo_found (c_Mo : h[27]? = some (MoO th w ht sd true pl sh sx sy ln hi)) (a_Mo_match : h[29]? = some (IA 3 mt)) (x : Nat) (hx : x ≤ 2) : Do l G k_Mo_found [.ref 28, .int (nI x)] h (ri (mt x)) (h.set 27 (MoO 0 w ht sd true pl sh sx sy ln hi)) := by
  refine Do.of (by decide) (Nat.le_of_ble_eq_true rfl) kw_Mo_found ?_
  have hl : 27 < h.length := (List.getElem?_eq_some_iff.mp c_Mo).1
  refine V_aload_n d_Mo_found_0 rfl ?_
  refine V_iload_n d_Mo_found_1 rfl ?_
  refine V_iconst (v := 0) d_Mo_found_2 (by decide) ?_
  refine V_iconst (v := 2) d_Mo_found_3 (by decide) ?_
  refine V_cS s_Mo_found_4 (mo_within (nI x) 0 2) rfl rfl (Nat.le_of_ble_eq_true rfl) ?_
  refine V_aload_n d_Mo_found_7 rfl ?_
  refine V_gf g_Mo_found_8 c_Mo rfl ?_
  refine V_iconst (v := 1) d_Mo_found_11 (by decide) ?_
  refine V_cV s_Mo_found_12 (mo_goes c_Mo (wiB (nI x) 0 2) true true) c_Mo rfl rfl (Nat.le_of_ble_eq_true rfl) ?_
  rw [show wiB (nI x) 0 2 = true from wi_n (b := 2) hx (by decide)]
  refine V_if_eq (tgt := 27) d_Mo_found_15 (by decide) (fun c9 => absurd c9 ((by decide : ¬ bI (true && true && true) = 0))) (fun _ => ?_)
  have c_Mo' : (h.set 27 (MoO 0 w ht sd true pl sh sx sy ln hi))[27]? = some (MoO 0 w ht sd true pl sh sx sy ln hi) := List.getElem?_set_self hl
  have a_Mo_match' : (h.set 27 (MoO 0 w ht sd true pl sh sx sy ln hi))[29]? = some (IA 3 mt) := by rw [List.getElem?_set_ne (by decide)]; exact a_Mo_match
  revert c_Mo' a_Mo_match'
  rw [show nI (gc true true true) = 0 from rfl]
  generalize h.set 27 (MoO 0 w ht sd true pl sh sx sy ln hi) = E
  intro c_Mo a_Mo_match
  refine V_aload_n d_Mo_found_18 rfl ?_
  refine V_gf g_Mo_found_19 c_Mo rfl ?_
  refine V_iload_n d_Mo_found_22 rfl ?_
  refine V_ialdN d_Mo_found_23 a_Mo_match (Ix.of (show x < 3 by omega) (by decide)) ?_
  refine V_goto (tgt := 28) d_Mo_found_24 (by decide) ?_
  exact V_iret d_Mo_found_28 rfl rfl
end P35
