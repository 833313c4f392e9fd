section P52
variable {l : Launch} {G : Gb} {h : List Ce} {w ht sd pl ln : Nat} {th sx sy : Int32} {md sh hi : Bool}
theorem set2 (h : List Ce) (a b : Nat) (c d : Ce) (hne : ¬ a = b) : (h.set a c).set b d = hS h [(a, c), (b, d)] := by
  rw [set_hS h a c, hS_set]
  show hS h (if a = b then _ else _) = _
  rw [if_neg hne]
  rfl
theorem st_pixel (hNT : NoTr l) (hw : 6 ≤ w ∧ w ≤ 20) (hht : 6 ≤ ht ∧ ht ≤ 20) (hI : Inv w ht sd th md pl sh sx sy ln hi h) (p x y v : Int32) : Stq ri Int32.toInt64 l G w ht sd k_La_pixel k_Mo_pixel [.int p, .int x, .int y, .int v] h := by
  obtain ⟨hn, c0, c27, ⟨z, c45⟩, gA, gB, gC, gD, gE, gF, -⟩ := id hI
  obtain ⟨f, mf, ms, mt, fx, fy, le, a1, a2, a3, a4, a5, a6, a7, a8⟩ := gA
  cases hA : (wiB p 0 3 && (wiB x 0 (nI w - 1) && wiB y 0 (nI ht - 1))) with
  | false =>
    refine err_case (k := 1) (b := 0) hI (by decide : sl1 exI ≤ 2000) (by omega) (la_pixel_1 c0 p x y v (pm_pixel_i hNT c0 a1 p x y v hA)) (fun X hX _ => ?_)
    exact mo_pixel_e hX p x y v false hA.symm rfl
  | true =>
    cases hV : wiB v 0 255 with
    | false =>
      refine err_case (k := 2) (b := 0) hI (by decide : sl1 exA ≤ 2000) (by omega) (la_pixel_2 c0 p x y v (pm_pixel_a hNT c0 a1 p x y v hA hV)) (fun X hX _ => ?_)
      have := mo_pixel_e (l := l) (G := G) hX p x y v true hA.symm (by rw [hV]; rfl)
      rw [hV] at this
      exact this
    | true =>
      rw [Bool.and_eq_true] at hA
      obtain ⟨p', -, hp', rfl⟩ := wi_ex (a := 0) (b := 3) (by decide) (by decide) hA.1
      obtain ⟨x', y', hx', hy', rfl, rfl⟩ := cell_ex hw.2 hht.2 hA.2
      obtain ⟨i, -, hi9, rfl⟩ := wi_ex (a := 0) (b := 255) (by decide) (by decide) hV
      have d1 := pm_pixel (l := l) (G := G) c0 a1 a2 hw.2 hht.2 p' x' y' (nI i) (by omega) hx' hy' hV
      rw [set_hS] at d1
      have d2 := fun X (h1 : X[27]? = some (MoO th w ht sd md pl sh sx sy ln hi)) (h2 : X[28]? = some (IA 1600 mf)) => mo_pixel (l := l) (G := G) h1 h2 hw.2 hht.2 p' x' y' (nI i) (by omega) hx' hy' hV
      refine ok_case (b := mf (400 * p' + 20 * y' + x')) (L2 := [(27, MoO 0 w ht sd md pl sh sx sy ln hi), (28, IA 1600 (upd mf (400 * p' + 20 * y' + x') (nI i)))]) (la_pixel_ok c0 _ _ _ _ d1 (ro c45 rfl)) ?_ (ro c27 rfl) ?_ rfl (Inv_hS hI rfl rfl rfl rfl ?_ (GB_sm (Sm_hS rfl) gB) (GC_sm (Sm_hS rfl) gC) (GD_sm (Sm_hS rfl) gD) (GE_sm (Sm_hS rfl) gE) (GF_sm (Sm_hS rfl) gF))
      · have d3 := d2 (hS h (put [(2, IA (4 * ht * w) (upd f (px w ht p' x' y') (nI i)))] 45 (LA (vp_updL z z0 (f (px w ht p' x' y')).toInt64)))) (ro c27 rfl) (ro a5 rfl)
        rw [set2 _ _ _ _ _ (by decide)] at d3
        exact d3
      · rw [(a7 p' x' y' (by omega) hx' hy').1]
      · exact ⟨_, _, ms, mt, fx, fy, le, ro a1 rfl, rd hn rfl rfl, ro a3 rfl, ro a4 rfl, rd hn rfl rfl, ro a6 rfl, Rv_upd a7 hw.2 hht.2 (by omega) hx' hy' hi9, a8⟩
theorem st_match (hNT : NoTr l) (hw : 6 ≤ w ∧ w ≤ 20) (hht : 6 ≤ ht ∧ ht ≤ 20) (hI : Inv w ht sd th md pl sh sx sy ln hi h) (a b x y : Int32) : Stq ri Int32.toInt64 l G w ht sd k_La_match k_Mo_match [.int a, .int b, .int x, .int y] h := by
  obtain ⟨hn, c0, c27, ⟨z, c45⟩, gA, gB, gC, gD, gE, gF, -⟩ := id hI
  obtain ⟨f, mf, ms, mt, fx, fy, le, a1, a2, a3, a4, a5, a6, a7, a8⟩ := gA
  cases hA : (wiB a 0 3 && (wiB b 0 3 && (wiB x 1 (nI w - 2) && wiB y 1 (nI ht - 2)))) with
  | false =>
    refine err_case (k := 1) (b := 0) hI (by decide : sl1 exI ≤ 2000) (by omega) (la_match_1 c0 a b x y (pm_match_i hNT c0 a1 a b x y hA)) (fun X hX _ => ?_)
    exact mo_match_e hX a b x y hA
  | true =>
    rw [Bool.and_eq_true, Bool.and_eq_true, Bool.and_eq_true] at hA
    obtain ⟨q1, q2, q3, q4⟩ := hA
    rw [show nI w - 2 = nI (w - 2) from pk_sub (b := 2) (by omega)] at q3
    rw [show nI ht - 2 = nI (ht - 2) from pk_sub (b := 2) (by omega)] at q4
    obtain ⟨a', -, ha', rfl⟩ := wi_ex (a := 0) (b := 3) (by decide) (by decide) q1
    obtain ⟨b', -, hb', rfl⟩ := wi_ex (a := 0) (b := 3) (by decide) (by decide) q2
    obtain ⟨x', hx1, hx2, rfl⟩ := wi_ex (a := 1) (by omega) (by omega) q3
    obtain ⟨y', hy1, hy2, rfl⟩ := wi_ex (a := 1) (by omega) (by omega) q4
    have d1 := pm_match (l := l) (G := G) (by omega) c0 a1 a2 a3 a4 hw hht a' b' x' y' (by omega) (by omega) (by omega) (by omega) _ rfl
    have d2 := fun X (hX : 45 ≤ X.length) => mo_match (l := l) (G := G) (h := X) (th := th) (sd := sd) (md := md) (pl := pl) (sh := sh) (sx := sx) (sy := sy) (ln := ln) (hi := hi) (mt := mt) hX a7 hw hht a' b' x' y' (by omega) (by omega) (by omega) (by omega) fx fy ms _ rfl
    generalize lookR (fun u v => wmiss f w ht a' x' y' b' u v) w ht (-1, fx, fy, ms) = S at d1 d2
    obtain ⟨mt', m1, m2, m3, d3⟩ := d2 (hS h (put [(1, PhO w ht), (2, IA (4 * ht * w) f), (3, SeO w ht true S.2.1 S.2.2.1 (lfR S.2.2.2 w ht S.2.1 S.2.2.1)), (4, IA (w * ht) S.2.2.2)] 45 (LA (vp_updL z z0 S.1.toInt64)))) (by rw [hS_len]; omega)
    refine ok_case (L2 := [(27, MoO 0 w ht sd true pl sh sx sy ln hi), (28, IA 1600 mf), (29, IA 3 mt')]) (la_match_ok c0 _ _ _ _ d1 (ro c45 rfl)) (Do.eqh (hS_id (okS_cons (ro c27 rfl) (okS_cons (ro a5 rfl) (okS_cons (ro a6 rfl) okS_nil)))) rfl d3) (ro c27 rfl) rfl rfl (Inv_hS hI rfl rfl rfl rfl ?_ (GB_sm (Sm_hS rfl) gB) (GC_sm (Sm_hS rfl) gC) (GD_sm (Sm_hS rfl) gD) (GE_sm (Sm_hS rfl) gE) (GF_sm (Sm_hS rfl) gF))
    exact ⟨_, _, _, mt', _, _, _, rd hn rfl rfl, rd hn rfl rfl, rd hn rfl rfl, rd hn rfl rfl, rd hn rfl rfl, rd hn rfl rfl, a7, fun _ => ⟨m1, m2, m3⟩⟩
theorem st_found (hNT : NoTr l) (hI : Inv w ht sd th md pl sh sx sy ln hi h) (x : Int32) : Stq ri Int32.toInt64 l G w ht sd k_La_found k_Mo_found [.int x] h := by
  obtain ⟨hn, c0, c27, ⟨z, c45⟩, gA, gB, gC, gD, gE, gF, -⟩ := id hI
  obtain ⟨f, mf, ms, mt, fx, fy, le, a1, a2, a3, a4, a5, a6, a7, a8⟩ := id gA
  cases hA : wiB x 0 2 with
  | false =>
    refine err_case (k := 1) (b := 0) hI (by decide : sl1 exI ≤ 2000) (by omega) (la_found_1 c0 x (pm_found_i hNT x hA)) (fun X hX _ => ?_)
    have := mo_found_e (l := l) (G := G) hX x (by rw [hA]; rfl)
    rw [hA] at this
    exact this
  | true =>
    cases md with
    | false =>
      refine err_case (k := 2) (b := 0) hI (by decide : sl1 exS ≤ 2000) (by omega) (la_found_2 c0 x (pm_found_s hNT c0 a3 x hA)) (fun X hX _ => ?_)
      have := mo_found_e (l := l) (G := G) hX x (by rw [hA]; rfl)
      rw [hA] at this
      exact this
    | true =>
      have d1 := Do.eqh rfl (hS_nil h).symm (pm_found (l := l) (G := G) c0 a3 x hA)
      obtain ⟨x', -, hx', rfl⟩ := wi_ex (a := 0) (b := 2) (by decide) (by decide) hA
      refine ok_case (b := mt x') (L2 := [(27, MoO 0 w ht sd true pl sh sx sy ln hi)]) (la_found_ok c0 _ d1 (ro c45 rfl)) ?_ (ro c27 rfl) ?_ rfl (Inv_hS hI rfl rfl rfl rfl (GA_sm (Sm_hS rfl) gA) (GB_sm (Sm_hS rfl) gB) (GC_sm (Sm_hS rfl) gC) (GD_sm (Sm_hS rfl) gD) (GE_sm (Sm_hS rfl) gE) (GF_sm (Sm_hS rfl) gF))
      · have d3 := mo_found (l := l) (G := G) (h := hS h (put [] 45 (LA (vp_updL z z0 (if nI x' = 2 then le else if nI x' = 0 then fx else fy).toInt64)))) (ro c27 rfl) (ro a6 rfl) x' hx'
        rw [set_hS] at d3
        exact d3
      · obtain ⟨m1, m2, m3⟩ := a8 rfl
        rcases (show x' = 0 ∨ x' = 1 ∨ x' = 2 by omega) with q | q | q <;> subst q
        · rw [m1]; rfl
        · rw [m2]; rfl
        · rw [m3]; rfl
theorem cnA_s (As : Nat → Bool) (n : Nat) : cnA As (n + 1) = cnA As n + (if As n then 1 else 0) := by
  unfold cnA
  rw [fori_snoc, Nat.zero_add]
  split <;> rfl
theorem cnA_upd {As : Nat → Bool} {p : Nat} {b : Bool} : ∀ n, (p < n → cnA (updB As p b) n + (if As p then 1 else 0) = cnA As n + (if b then 1 else 0)) ∧ (n ≤ p → cnA (updB As p b) n = cnA As n)
  | 0 => ⟨fun h => by omega, fun _ => rfl⟩
  | n + 1 => by
    obtain ⟨h1, h2⟩ := cnA_upd (As := As) (p := p) (b := b) n
    rw [cnA_s, cnA_s]
    refine ⟨fun h => ?_, fun h => ?_⟩
    · by_cases e : n = p
      · subst e
        rw [h2 (Nat.le_refl _), show updB As n b n = b from if_pos rfl]
        omega
      · have := h1 (by omega)
        rw [show updB As p b n = As n from if_neg e]
        omega
    · rw [h2 (by omega), show updB As p b n = As n from if_neg (by omega)]
theorem st_place (hNT : NoTr l) (hI : Inv w ht sd th md pl sh sx sy ln hi h) : Stq ri Int32.toInt64 l G w ht sd k_La_place k_Mo_place [] h := by
  obtain ⟨hn, c0, c27, ⟨z, c45⟩, gA, gB, gC, gD, gE, gF, -⟩ := id hI
  obtain ⟨As, Bn, wh, sX, sY, b1, b2, b3, b4, b5, b6, b7, b8, b9, b10⟩ := id gB
  rcases Nat.lt_or_ge pl 12 with q | q
  · have d1 := pm_place (l := l) (G := G) c0 b1 q
    rw [set_hS] at d1
    have e : nI (cnA As pl) = nI (cnA As (pl + 1)) := by rw [cnA_s, b9 pl (Nat.le_refl _)]; rfl
    rw [e] at d1
    refine ok_case (b := nI pl) (L2 := [(27, MoO 0 w ht sd md (pl + 1) sh sx sy ln hi)]) (la_place_ok c0 d1 (ro c45 rfl)) (Do.eqh (moH_id (ro c27 rfl)) rfl (mo_place (by rw [hS_len]; omega) q)) (ro c27 rfl) rfl rfl (Inv_hS hI rfl rfl rfl rfl (GA_sm (Sm_hS rfl) gA) ?_ (GC_sm (Sm_hS rfl) gC) ?_ ?_ (GF_sm (Sm_hS rfl) gF))
    · exact ⟨As, Bn, wh, sX, sY, rd hn rfl rfl, ro b2 rfl, ro b3 rfl, ro b4 rfl, ro b5 rfl, ro b6 rfl, ro b7 rfl, b8, fun p hp => b9 p (by omega), by omega⟩
    · obtain ⟨P, O, PB, OB, KP, KO, e1, e2, e3, e4, e5, e6, e7, e8, e9, f1, f2, f3⟩ := gD
      exact ⟨P, O, PB, OB, KP, KO, ro e1 rfl, ro e2 rfl, ro e3 rfl, ro e4 rfl, ro e5 rfl, ro e6 rfl, ro e7 rfl, ro e8 rfl, ro e9 rfl, f1, f2, fun k hk => f3 k (by omega)⟩
    · obtain ⟨F, T, Ln, e1, e2, e3, e4, e5, e6, e7, f1, f2, f3⟩ := gE
      exact ⟨F, T, Ln, ro e1 rfl, ro e2 rfl, ro e3 rfl, ro e4 rfl, ro e5 rfl, ro e6 rfl, ro e7 rfl, f1, fun i hi9 => by have := f2 i hi9; omega, f3⟩
  · obtain rfl : pl = 12 := by omega
    refine err_case (k := 1) (b := 0) hI (by decide : sl1 exS ≤ 2000) (by omega) (la_place_1 c0 (pm_place_s hNT c0 b1)) (fun X hX hXl => ?_)
    rw [set_hS]
    exact Do.eqh (moH_id hX) rfl (mo_place_e hXl rfl)
theorem st_seen (hNT : NoTr l) (hI : Inv w ht sd th md pl sh sx sy ln hi h) (p q x y : Int32) : Stq rz bL l G w ht sd k_La_seen k_Mo_seen [.int p, .int q, .int x, .int y] h := by
  obtain ⟨hn, c0, c27, ⟨z, c45⟩, gA, gB, gC, gD, gE, gF, -⟩ := id hI
  obtain ⟨As, Bn, wh, sX, sY, b1, b2, b3, b4, b5, b6, b7, b8, b9, b10⟩ := id gB
  cases hA : (hasB p pl && wiB q 0 3) with
  | false =>
    refine err_case (k := 1) (b := false) hI (by decide : sl1 exI ≤ 2000) (by omega) (la_seen_1 c0 p q x y (pm_seen_i hNT c0 b1 p q x y hA)) (fun X hX _ => ?_)
    have := mo_seen_e (l := l) (G := G) hX b10 p q x y (by rw [hA]; rfl)
    rw [hA] at this
    exact this
  | true =>
    cases hV : seenB x y with
    | false =>
      refine err_case (k := 2) (b := false) hI (by decide : sl1 exA ≤ 2000) (by omega) (la_seen_2 c0 p q x y (pm_seen_a hNT c0 b1 p q x y hA hV)) (fun X hX _ => ?_)
      have := mo_seen_e (l := l) (G := G) hX b10 p q x y (by rw [hA, hV]; rfl)
      rw [hA, hV] at this
      exact this
    | true =>
      rw [Bool.and_eq_true] at hA
      obtain ⟨p', hp', rfl⟩ := has_ex (by omega) hA.1
      obtain ⟨q', -, hq', rfl⟩ := wi_ex (a := 0) (b := 3) (by decide) (by decide) hA.2
      have d2 := fun X (hX : 45 ≤ X.length) => mo_seen (l := l) (G := G) (h := X) (th := th) (w := w) (ht := ht) (sd := sd) (md := md) (sh := sh) (sx := sx) (sy := sy) (ln := ln) (hi := hi) hX b10 b8 p' q' x y hp' (by omega) hV
      by_cases hx : x < 0
      · have d1 := pm_seen_f (l := l) (G := G) c0 b1 b3 b10 p' q' x y hp' (by omega) hx
        rw [set_hS] at d1
        rw [if_pos hx] at d2
        refine ok_case (b := Bn (p' * 4 + q')) (L2 := [(27, MoO 0 w ht sd md pl sh sx sy ln hi), (30, IA 48 (upd sX (p' * 4 + q') (-1))), (31, IA 48 (upd sY (p' * 4 + q') y))]) (la_seen_ok c0 _ _ _ _ d1 (ro c45 rfl)) (Do.eqh (hS_id (okS_cons (ro c27 rfl) (okS_cons (ro b5 rfl) (okS_cons (ro b6 rfl) okS_nil)))) rfl (d2 _ (by rw [hS_len]; omega))) (ro c27 rfl) rfl rfl (Inv_hS hI rfl rfl rfl rfl (GA_sm (Sm_hS rfl) gA) ?_ (GC_sm (Sm_hS rfl) gC) (GD_sm (Sm_hS rfl) gD) (GE_sm (Sm_hS rfl) gE) (GF_sm (Sm_hS rfl) gF))
        exact ⟨As, _, wh, _, _, ro b1 rfl, ro b2 rfl, rd hn rfl rfl, ro b4 rfl, rd hn rfl rfl, rd hn rfl rfl, ro b7 rfl, RS_forget b8 _ y, b9, b10⟩
      · have hV' := hV
        unfold seenB at hV'
        rw [decide_eq_false hx, Bool.false_or, Bool.and_eq_true, decide_eq_true_iff] at hV'
        have hxw : wiB x (nI 0) (nI 999) = true := by
          unfold wiB
          rw [Bool.and_eq_true, decide_eq_true_iff, decide_eq_true_iff]
          exact ⟨nlt_iff.mp hx, hV'.1⟩
        have d1 := pm_seen (l := l) (G := G) c0 b1 b3 b4 b10 p' q' x y hp' (by omega) hx hV'.1 hV'.2
        rw [set2 _ _ _ _ _ (by decide)] at d1
        rw [if_neg hx] at d2
        obtain ⟨i, -, hi9, rfl⟩ := wi_ex (by decide) (by decide) hxw
        obtain ⟨j, -, hj9, rfl⟩ := wi_ex (a := 0) (b := 999) (by decide) (by decide) hV'.2
        refine ok_case (b := Bn (p' * 4 + q')) (L2 := [(27, MoO 0 w ht sd md pl sh sx sy ln hi), (30, IA 48 (upd sX (p' * 4 + q') (nI i))), (31, IA 48 (upd sY (p' * 4 + q') (nI j)))]) (la_seen_ok c0 _ _ _ _ d1 (ro c45 rfl)) (Do.eqh (hS_id (okS_cons (ro c27 rfl) (okS_cons (ro b5 rfl) (okS_cons (ro b6 rfl) okS_nil)))) rfl (d2 _ (by rw [hS_len]; omega))) (ro c27 rfl) rfl rfl (Inv_hS hI rfl rfl rfl rfl (GA_sm (Sm_hS rfl) gA) ?_ (GC_sm (Sm_hS rfl) gC) (GD_sm (Sm_hS rfl) gD) (GE_sm (Sm_hS rfl) gE) (GF_sm (Sm_hS rfl) gF))
        exact ⟨As, _, _, _, _, ro b1 rfl, ro b2 rfl, rd hn rfl rfl, rd hn rfl rfl, rd hn rfl rfl, rd hn rfl rfl, ro b7 rfl, RS_note b8 _ i j hi9 hj9, b9, b10⟩
theorem st_relative (hNT : NoTr l) (hs : sd ≤ 65536) (hI : Inv w ht sd th md pl sh sx sy ln hi h) (a b t tol : Int32) : Stq ri Int32.toInt64 l G w ht sd k_La_relative k_Mo_relative [.int a, .int b, .int t, .int tol] h := by
  obtain ⟨hn, c0, c27, ⟨z, c45⟩, gA, gB, gC, gD, gE, gF, -⟩ := id hI
  obtain ⟨As, Bn, wh, sX, sY, b1, b2, b3, b4, b5, b6, b7, b8, b9, b10⟩ := id gB
  obtain ⟨nm, fx, fy, e1, e2, e3⟩ := gC
  cases hA : (wiB a 0 3 && wiB b 0 3) with
  | false =>
    refine err_case (k := 1) (b := 0) hI (by decide : sl1 exI ≤ 2000) (by omega) (la_relative_1 c0 a b t tol (pm_relative_i hNT a b t tol hA)) (fun X hX _ => ?_)
    have := mo_relative_e (l := l) (G := G) hX a b t tol (by rw [hA]; rfl)
    rw [hA] at this
    exact this
  | true =>
    cases hV : (wiB t 1 20 && wiB tol 0 100) with
    | false =>
      refine err_case (k := 2) (b := 0) hI (by decide : sl1 exA ≤ 2000) (by omega) (la_relative_2 c0 a b t tol (pm_relative_a hNT a b t tol hA hV)) (fun X hX _ => ?_)
      have := mo_relative_e (l := l) (G := G) hX a b t tol (by rw [hA, hV]; rfl)
      rw [hA, hV] at this
      exact this
    | true =>
      rw [Bool.and_eq_true] at hA hV
      obtain ⟨a', -, ha', rfl⟩ := wi_ex (a := 0) (b := 3) (by decide) (by decide) hA.1
      obtain ⟨b', -, hb', rfl⟩ := wi_ex (a := 0) (b := 3) (by decide) (by decide) hA.2
      obtain ⟨t', ht1, ht2, rfl⟩ := wi_ex (a := 1) (b := 20) (by decide) (by decide) hV.1
      have d1 := pm_relative (l := l) (G := G) (by omega) c0 b1 b2 b3 b4 e1 e2 e3 b10 hs a' b' t' tol (by omega) (by omega) ⟨ht1, ht2⟩ hV.2 _ rfl _ rfl
      have d2 := fun X (hX : 45 ≤ X.length) => mo_relative (l := l) (G := G) (h := X) (th := th) (w := w) (ht := ht) (md := md) (sh := sh) (sx := sx) (sy := sy) (ln := ln) (hi := hi) hX b10 hs b8 a' b' t' tol (by omega) (by omega) ⟨ht1, ht2⟩ hV.2 fx fy _ rfl _ rfl
      generalize gtR Bn wh a' b' pl fx fy = g at d1 d2
      generalize drR g sd tol t' sx sy = d at d1 d2
      refine ok_case (b := nI d.1) (L2 := [(27, MoO 0 w ht sd md pl (decide (0 < g.1)) d.2.1 d.2.2 ln hi), (30, IA 48 sX), (31, IA 48 sY)]) (la_relative_ok c0 _ _ _ _ d1 (ro c45 rfl)) (Do.eqh (hS_id (okS_cons (ro c27 rfl) (okS_cons (ro b5 rfl) (okS_cons (ro b6 rfl) okS_nil)))) rfl (d2 _ (by rw [hS_len]; omega))) (ro c27 rfl) rfl rfl (Inv_hS hI rfl rfl rfl rfl (GA_sm (Sm_hS rfl) gA) ?_ ?_ (GD_sm (Sm_hS rfl) gD) (GE_sm (Sm_hS rfl) gE) (GF_sm (Sm_hS rfl) gF))
      · exact ⟨As, Bn, wh, sX, sY, rd hn rfl rfl, rd hn rfl rfl, rd hn rfl rfl, rd hn rfl rfl, rd hn rfl rfl, rd hn rfl rfl, ro b7 rfl, b8, b9, b10⟩
      · exact ⟨_, _, _, rd hn rfl rfl, rd hn rfl rfl, rd hn rfl rfl⟩
theorem st_shift (hNT : NoTr l) (hI : Inv w ht sd th md pl sh sx sy ln hi h) (x : Int32) : Stq ri Int32.toInt64 l G w ht sd k_La_shift k_Mo_shift [.int x] h := by
  obtain ⟨hn, c0, c27, ⟨z, c45⟩, gA, gB, gC, gD, gE, gF, -⟩ := id hI
  obtain ⟨nm, fx, fy, e1, e2, e3⟩ := id gC
  cases hA : wiB x 0 1 with
  | false =>
    refine err_case (k := 1) (b := 0) hI (by decide : sl1 exI ≤ 2000) (by omega) (la_shift_1 c0 x (pm_shift_i hNT x hA)) (fun X hX _ => ?_)
    have := mo_shift_e (l := l) (G := G) hX x (by rw [hA]; rfl)
    rw [hA] at this
    exact this
  | true =>
    cases sh with
    | false =>
      refine err_case (k := 2) (b := 0) hI (by decide : sl1 exS ≤ 2000) (by omega) (la_shift_2 c0 x (pm_shift_s hNT c0 e1 x hA)) (fun X hX _ => ?_)
      have := mo_shift_e (l := l) (G := G) hX x (by rw [hA]; rfl)
      rw [hA] at this
      exact this
    | true =>
      have d1 := Do.eqh rfl (hS_nil h).symm (pm_shift (l := l) (G := G) c0 e1 x hA)
      refine ok_case (L2 := [(27, MoO 0 w ht sd md pl true sx sy ln hi)]) (la_shift_ok c0 _ d1 (ro c45 rfl)) (Do.eqh (moH_id (ro c27 rfl)) rfl (mo_shift (by rw [hS_len]; omega) x hA)) (ro c27 rfl) rfl rfl (Inv_hS hI rfl rfl rfl rfl (GA_sm (Sm_hS rfl) gA) (GB_sm (Sm_hS rfl) gB) (GC_sm (Sm_hS rfl) gC) (GD_sm (Sm_hS rfl) gD) (GE_sm (Sm_hS rfl) gE) (GF_sm (Sm_hS rfl) gF))
theorem st_spare (hNT : NoTr l) (hI : Inv w ht sd th md pl sh sx sy ln hi h) (p : Int32) (b : Bool) : Stq rz bL l G w ht sd k_La_spare k_Mo_spare [.int p, .int (bI b)] h := by
  obtain ⟨hn, c0, c27, ⟨z, c45⟩, gA, gB, gC, gD, gE, gF, -⟩ := id hI
  obtain ⟨As, Bn, wh, sX, sY, b1, b2, b3, b4, b5, b6, b7, b8, b9, b10⟩ := id gB
  cases hA : hasB p pl with
  | false =>
    refine err_case (k := 1) (b := false) hI (by decide : sl1 exI ≤ 2000) (by omega) (la_spare_1 c0 p b (pm_spare_i hNT c0 b1 p b hA)) (fun X hX hXl => ?_)
    rw [set_hS]
    exact Do.eqh (moH_id hX) rfl (mo_spare_e hXl b10 p b hA)
  | true =>
    obtain ⟨p', hp', rfl⟩ := has_ex (by omega) hA
    have d1 := pm_spare (l := l) (G := G) c0 b1 b2 b10 p' hp' b
    have d2 := fun X (hX : 45 ≤ X.length) => mo_spare (l := l) (G := G) (h := X) (th := th) (w := w) (ht := ht) (sd := sd) (md := md) (sh := sh) (sx := sx) (sy := sy) (ln := ln) (hi := hi) (As := As) hX b10 p' b hp'
    by_cases q : As p' = b
    · rw [if_pos q] at d1
      have eA : updB As p' b = As := by
        funext j
        unfold updB
        by_cases e : j = p'
        · rw [if_pos e, e, q]
        · rw [if_neg e]
      rw [eA] at d2
      refine ok_case (b := As p' != b) (L2 := [(27, MoO 0 w ht sd md pl sh sx sy ln hi), (32, ZA 12 As)]) (la_spare_ok c0 _ _ (Do.eqh rfl (hS_nil h).symm d1) (ro c45 rfl)) (Do.eqh (hS_id (okS_cons (ro c27 rfl) (okS_cons (ro b7 rfl) okS_nil))) rfl (d2 _ (by rw [hS_len]; omega))) (ro c27 rfl) rfl rfl (Inv_hS hI rfl rfl rfl rfl (GA_sm (Sm_hS rfl) gA) ?_ (GC_sm (Sm_hS rfl) gC) (GD_sm (Sm_hS rfl) gD) (GE_sm (Sm_hS rfl) gE) (GF_sm (Sm_hS rfl) gF))
      exact ⟨As, Bn, wh, sX, sY, ro b1 rfl, ro b2 rfl, ro b3 rfl, ro b4 rfl, ro b5 rfl, ro b6 rfl, rd hn rfl rfl, b8, b9, b10⟩
    · rw [if_neg q, set2 _ _ _ _ _ (by decide)] at d1
      have ec : nI (cnA As pl) + (if b then 1 else -1) = nI (cnA (updB As p' b) pl) := by
        have h1 := (cnA_upd (As := As) (p := p') (b := b) pl).1 hp'
        cases b with
        | true =>
          have q' : As p' = false := by simpa using q
          rw [q'] at h1
          rw [show cnA (updB As p' true) pl = cnA As pl + 1 by simpa using h1]
          exact nI_add _ 1
        | false =>
          have q' : As p' = true := by simpa using q
          rw [q'] at h1
          rw [show cnA As pl = cnA (updB As p' false) pl + 1 by simpa using h1.symm]
          exact pk_m1 _
      rw [ec] at d1
      refine ok_case (b := As p' != b) (L2 := [(27, MoO 0 w ht sd md pl sh sx sy ln hi), (32, ZA 12 (updB As p' b))]) (la_spare_ok c0 _ _ d1 (ro c45 rfl)) (Do.eqh (hS_id (okS_cons (ro c27 rfl) (okS_cons (ro b7 rfl) okS_nil))) rfl (d2 _ (by rw [hS_len]; omega))) (ro c27 rfl) rfl rfl (Inv_hS hI rfl rfl rfl rfl (GA_sm (Sm_hS rfl) gA) ?_ (GC_sm (Sm_hS rfl) gC) (GD_sm (Sm_hS rfl) gD) (GE_sm (Sm_hS rfl) gE) (GF_sm (Sm_hS rfl) gF))
      refine ⟨updB As p' b, Bn, wh, sX, sY, rd hn rfl rfl, rd hn rfl rfl, ro b3 rfl, ro b4 rfl, ro b5 rfl, ro b6 rfl, rd hn rfl rfl, b8, fun j hj => ?_, b10⟩
      unfold updB
      rw [if_neg (by omega)]
      exact b9 j hj
end P52
