section P54
variable {l : Launch} {G : Gb} {h : List Ce} {w ht sd pl ln : Nat} {th sx sy : Int32} {md sh hi : Bool}
theorem st_heights (hNT : NoTr l) (hw : 6 ≤ w ∧ w ≤ 20) (hht : 6 ≤ ht ∧ ht ≤ 20) (hI : Inv w ht sd th md pl sh sx sy ln hi h) (a b k : Int32) : Stq ri Int32.toInt64 l G w ht sd k_La_heights k_Mo_heights [.int a, .int b, .int k] h := by
  obtain ⟨hn, c0, c27, ⟨z, c45⟩, gA, gB, gC, gD, gE, gF, -⟩ := id hI
  obtain ⟨f, mf, ms, mt, fx, fy, le, a1, a2, a3, a4, a5, a6, a7, a8⟩ := id gA
  obtain ⟨q0, Dp, Q, Df, C, dD, dF, mC, op, o, M, r1, r2, r3, r4, r5, r6, r7, r8, r9, r10, r11, r12, r13⟩ := id gF
  cases hA : (wiB a 0 3 && wiB b 0 3) with
  | false =>
    refine err_case (k := 1) (b := 0) hI (by decide : sl1 exI ≤ 2000) (by omega) (la_heights_1 c0 a b k (pm_heights_i hNT a b k hA)) (fun X hX _ => ?_)
    have := mo_heights_e (l := l) (G := G) hX a b k (by rw [hA]; rfl)
    rw [hA] at this
    exact this
  | true =>
    cases hV : wiB k 0 100 with
    | false =>
      refine err_case (k := 2) (b := 0) hI (by decide : sl1 exA ≤ 2000) (by omega) (la_heights_2 c0 a b k (pm_heights_a hNT a b k hA hV)) (fun X hX _ => ?_)
      have := mo_heights_e (l := l) (G := G) hX a b k (by rw [hA, hV]; rfl)
      rw [hA, hV] at this
      exact this
    | true =>
      rw [Bool.and_eq_true] at hA
      obtain ⟨a', -, ha', rfl⟩ := wi_ex (a := 0) (b := 3) (by decide) (by decide) hA.1
      obtain ⟨b', -, hb', rfl⟩ := wi_ex (a := 0) (b := 3) (by decide) (by decide) hA.2
      obtain ⟨k', -, hk', rfl⟩ := wi_ex (a := 0) (b := 100) (by decide) (by decide) hV
      have hid : reH h w ht f (nI q0) hi Dp Df C op (fun i => nI (Q i)) = h := hS_id (okS_cons a1 (okS_cons a2 (okS_cons r1 (okS_cons r2 (okS_cons r3 (okS_cons r4 (okS_cons r5 (okS_cons r6 okS_nil))))))))
      have d1 := pm_heights (l := l) (G := G) (by omega) c0 r1 hid hw hht.2 a' b' (nI k') (by omega) (by omega) hV _ rfl
      have d2 := fun X (hX : 45 ≤ X.length) => mo_heights (l := l) (G := G) (h := X) (th := th) (sd := sd) (md := md) (pl := pl) (sh := sh) (sx := sx) (sy := sy) (ln := ln) (hi := hi) (dD := dD) (dF := dF) (mC := mC) hX hw hht.2 a7 a' b' (by omega) (by omega) hk' Dp Df C _ rfl
      generalize raR f w ht a' b' (nI k') Dp Df C = R at d1 d2
      obtain ⟨dD', dF', mC', d3, rd9⟩ := d2 (hS h (put [(1, PhO w ht), (2, IA (4 * ht * w) f), (21, ReO w ht (nI q0) true), (22, NA (w * ht) R.2.1), (23, IA (w * ht) R.2.2.1), (24, IA (w * 6) R.2.2.2), (25, ZA ((w + 2) * (ht + 2)) op), (26, IA (w * ht) (fun i => nI (Q i)))] 45 (LA (vp_updL z z0 R.1.toInt64)))) (by rw [hS_len]; omega)
      refine ok_case (b := R.1) (L2 := [(27, MoO 0 w ht sd md pl sh sx sy ln true), (28, IA 1600 mf), (40, IA 400 dD'), (41, IA 400 dF'), (42, IA 120 mC')]) (la_heights_ok c0 _ _ _ d1 (ro c45 rfl)) (Do.eqh (hS_id (okS_cons (ro c27 rfl) (okS_cons (ro a5 rfl) (okS_cons (ro r7 rfl) (okS_cons (ro r8 rfl) (okS_cons (ro r9 rfl) okS_nil)))))) rfl d3) (ro c27 rfl) rfl rfl (Inv_hS hI rfl rfl rfl rfl ?_ (GB_sm (Sm_hS rfl) gB) (GC_sm (Sm_hS rfl) gC) (GD_sm (Sm_hS rfl) gD) (GE_sm (Sm_hS rfl) gE) ?_)
      · exact ⟨f, mf, ms, mt, fx, fy, le, rd hn rfl rfl, rd hn rfl rfl, ro a3 rfl, ro a4 rfl, rd hn rfl rfl, ro a6 rfl, a7, a8⟩
      · exact ⟨q0, R.2.1, Q, R.2.2.1, R.2.2.2, dD', dF', mC', op, o, M, rd hn rfl rfl, rd hn rfl rfl, rd hn rfl rfl, rd hn rfl rfl, rd hn rfl rfl, rd hn rfl rfl, rd hn rfl rfl, rd hn rfl rfl, rd hn rfl rfl, ro r10 rfl, ro r11 rfl, r12, fun _ => rd9⟩
theorem st_depth (hNT : NoTr l) (hw : 6 ≤ w ∧ w ≤ 20) (hht : 6 ≤ ht ∧ ht ≤ 20) (hI : Inv w ht sd th md pl sh sx sy ln hi h) (x y : Int32) : Stq ri Int32.toInt64 l G w ht sd k_La_depth k_Mo_depth [.int x, .int y] h := by
  obtain ⟨hn, c0, c27, ⟨z, c45⟩, gA, gB, gC, gD, gE, gF, -⟩ := id hI
  obtain ⟨f, mf, ms, mt, fx, fy, le, a1, a2, a3, a4, a5, a6, a7, a8⟩ := id gA
  obtain ⟨q0, Dp, Q, Df, C, dD, dF, mC, op, o, M, r1, r2, r3, r4, r5, r6, r7, r8, r9, r10, r11, r12, r13⟩ := id gF
  cases hA : (wiB x 0 (nI w - 1) && wiB y 0 (nI ht - 1)) with
  | false =>
    refine err_case (k := 1) (b := 0) hI (by decide : sl1 exI ≤ 2000) (by omega) (la_depth_1 c0 x y (pm_depth_i hNT c0 a1 x y hA)) (fun X hX hXl => ?_)
    rw [set_hS]
    exact Do.eqh (moH_id hX) rfl (mo_depth_e hXl x y false hA.symm rfl)
  | true =>
    cases hi with
    | false =>
      refine err_case (k := 2) (b := 0) hI (by decide : sl1 exS ≤ 2000) (by omega) (la_depth_2 c0 x y (pm_depth_s hNT c0 a1 r1 x y hA)) (fun X hX hXl => ?_)
      rw [set_hS]
      exact Do.eqh (moH_id hX) rfl (mo_depth_e hXl x y true hA.symm rfl)
    | true =>
      obtain ⟨x', y', hx', hy', rfl, rfl⟩ := cell_ex hw.2 hht.2 hA
      have d1 := Do.eqh rfl (hS_nil h).symm (pm_depth (l := l) (G := G) c0 a1 r1 r2 hw.2 hht.2 x' y' hx' hy')
      have e9 := (r13 rfl y' x' hx' hy' (Or.inl hy')).1
      refine ok_case (b := dD (20 * y' + x')) (L2 := [(27, MoO 0 w ht sd md pl sh sx sy ln true), (28, IA 1600 mf), (40, IA 400 dD), (41, IA 400 dF), (42, IA 120 mC)]) (la_depth_ok c0 _ _ d1 (ro c45 rfl)) (Do.eqh (hS_id (okS_cons (ro c27 rfl) (okS_cons (ro a5 rfl) (okS_cons (ro r7 rfl) (okS_cons (ro r8 rfl) (okS_cons (ro r9 rfl) okS_nil)))))) rfl (mo_depth (by rw [hS_len]; omega) hw.2 hht.2 hx' hy')) (ro c27 rfl) (by rw [e9]) rfl (Inv_hS hI rfl rfl rfl rfl ?_ (GB_sm (Sm_hS rfl) gB) (GC_sm (Sm_hS rfl) gC) (GD_sm (Sm_hS rfl) gD) (GE_sm (Sm_hS rfl) gE) ?_)
      · exact ⟨f, mf, ms, mt, fx, fy, le, ro a1 rfl, ro a2 rfl, ro a3 rfl, ro a4 rfl, rd hn rfl rfl, ro a6 rfl, a7, a8⟩
      · exact ⟨q0, Dp, Q, Df, C, dD, dF, mC, op, o, M, ro r1 rfl, ro r2 rfl, ro r3 rfl, ro r4 rfl, ro r5 rfl, ro r6 rfl, rd hn rfl rfl, rd hn rfl rfl, rd hn rfl rfl, ro r10 rfl, ro r11 rfl, r12, r13⟩
theorem hoR_inn {s : Ho} (hs : ∀ k, s.2.2.2 k = true → inn w ht k) : ∀ k, (hoR w ht s).2.2.2 k = true → inn w ht k := by
  unfold hoR
  have := fori_inv (f := fun y s => fori (fun x s => hoS w ht y x s) w 0 s) (fun _ s => ∀ k, s.2.2.2 k = true → inn w ht k) ht 0 s (fun y s _ _ h9 => by
    have h8 := fori_inv (f := fun x s => hoS w ht y x s) (fun _ s => ∀ k, s.2.2.2 k = true → inn w ht k) w 0 s (fun x s _ _ h7 => hoS_inn h7 y x) h9
    exact h8) hs
  exact this
theorem st_holes (hNT : NoTr l) (hw : 6 ≤ w ∧ w ≤ 20) (hht : 6 ≤ ht ∧ ht ≤ 20) (hI : Inv w ht sd th md pl sh sx sy ln hi h) (lv : Int32) : Stq ri Int32.toInt64 l G w ht sd k_La_holes k_Mo_holes [.int lv] h := by
  obtain ⟨hn, c0, c27, ⟨z, c45⟩, gA, gB, gC, gD, gE, gF, -⟩ := id hI
  obtain ⟨f, mf, ms, mt, fx, fy, le, a1, a2, a3, a4, a5, a6, a7, a8⟩ := id gA
  obtain ⟨q0, Dp, Q, Df, C, dD, dF, mC, op, o, M, r1, r2, r3, r4, r5, r6, r7, r8, r9, r10, r11, r12, r13⟩ := id gF
  cases hi with
  | false =>
    refine err_case (k := 1) (b := 0) hI (by decide : sl1 exS ≤ 2000) (by omega) (la_holes_1 c0 lv (pm_holes_s hNT c0 r1 lv)) (fun X hX hXl => ?_)
    rw [set_hS]
    exact Do.eqh (moH_id hX) rfl (mo_holes_e hXl lv)
  | true =>
    have hid : hoH h w ht f true Dp Df C (q0, Q, op) = h := hS_id (okS_cons a1 (okS_cons a2 (okS_cons r1 (okS_cons r2 (okS_cons r3 (okS_cons r4 (okS_cons r5 (okS_cons r6 okS_nil))))))))
    have hop := oaR_inn (Df := Df) r12 lv
    have hinn := hoR_inn (s := (0, q0, Q, oaR Df w ht lv op)) hop
    have d1 := pm_holes (l := l) (G := G) (by omega) c0 q0 Q r1 hid hw.2 hht.2 r12 lv _ rfl
    have d2 := fun X (hX : 45 ≤ X.length) (h41 : X[41]? = some (IA 400 dF)) => mo_holes (l := l) (G := G) (h := X) (th := th) (sd := sd) (md := md) (pl := pl) (sh := sh) (sx := sx) (sy := sy) (ln := ln) hX hw.2 hht.2 h41 (fun x y hx hy => (r13 rfl y x hx hy (Or.inl hy)).2) lv (o, M) op hop q0 Q _ rfl
    generalize hoR w ht (0, q0, Q, oaR Df w ht lv op) = S at d1 d2 hinn
    obtain ⟨p', d3⟩ := d2 (hS h (put [(1, PhO w ht), (2, IA (4 * ht * w) f), (21, ReO w ht (nI S.2.1) true), (22, NA (w * ht) Dp), (23, IA (w * ht) Df), (24, IA (w * 6) C), (25, ZA ((w + 2) * (ht + 2)) S.2.2.2), (26, IA (w * ht) (fun i => nI (S.2.2.1 i)))] 45 (LA (vp_updL z z0 (nI S.1).toInt64)))) (by rw [hS_len]; omega) (ro r8 rfl)
    refine ok_case (b := nI S.1) (L2 := [(27, MoO 0 w ht sd md pl sh sx sy ln true), (43, ZA 400 p'.1), (44, ZA 400 p'.2)]) (la_holes_ok c0 _ d1 (ro c45 rfl)) (Do.eqh (hS_id (okS_cons (ro c27 rfl) (okS_cons (ro r10 rfl) (okS_cons (ro r11 rfl) okS_nil)))) rfl d3) (ro c27 rfl) rfl rfl (Inv_hS hI rfl rfl rfl rfl ?_ (GB_sm (Sm_hS rfl) gB) (GC_sm (Sm_hS rfl) gC) (GD_sm (Sm_hS rfl) gD) (GE_sm (Sm_hS rfl) gE) ?_)
    · exact ⟨f, mf, ms, mt, fx, fy, le, rd hn rfl rfl, rd hn rfl rfl, ro a3 rfl, ro a4 rfl, ro a5 rfl, ro a6 rfl, a7, a8⟩
    · exact ⟨S.2.1, Dp, S.2.2.1, Df, C, dD, dF, mC, S.2.2.2, p'.1, p'.2, rd hn rfl rfl, rd hn rfl rfl, rd hn rfl rfl, rd hn rfl rfl, rd hn rfl rfl, rd hn rfl rfl, ro r7 rfl, ro r8 rfl, ro r9 rfl, rd hn rfl rfl, rd hn rfl rfl, hinn, r13⟩
end P54
