section P53
variable {l : Launch} {G : Gb} {h : List Ce} {w ht sd pl ln : Nat} {th sx sy : Int32} {md sh hi : Bool}
theorem st_run (hNT : NoTr l) (hI : Inv w ht sd th md pl sh sx sy ln hi h) (x : Int32) : Stq ri Int32.toInt64 l G w ht sd k_La_run k_Mo_run [.int x] h := by
  obtain ⟨hn, c0, c27, ⟨z, c45⟩, gA, gB, gC, gD, gE, gF, -⟩ := id hI
  obtain ⟨As, Bn, wh, sX, sY, b1, b2, b3, b4, b5, b6, b7, b8, b9, b10⟩ := id gB
  obtain ⟨P, O, PB, OB, KP, KO, e1, e2, e3, e4, e5, e6, e7, e8, e9, f1, f2, f3⟩ := id gD
  cases hA : wiB x 0 20 with
  | false =>
    refine err_case (k := 1) (b := 0) hI (by decide : sl1 exA ≤ 2000) (by omega) (la_run_1 c0 x (pm_run_a hNT x hA)) (fun X hX hXl => ?_)
    rw [set_hS]
    exact Do.eqh (moH_id hX) rfl (mo_run_e hXl x hA)
  | true =>
    obtain ⟨x', -, hx', rfl⟩ := wi_ex (a := 0) (b := 20) (by decide) (by decide) hA
    have d1 := pm_run (l := l) (G := G) (by omega) c0 b1 e1 (adH_id b1 b2 b3 b4 e1 e2 e3 e4 e5) b10 x' hx' _ rfl
    have d2 := fun X (hX : 45 ≤ X.length) => mo_run (l := l) (G := G) (h := X) (th := th) (w := w) (ht := ht) (sd := sd) (md := md) (sh := sh) (sx := sx) (sy := sy) (ln := ln) (hi := hi) (KP := KP) (KO := KO) (As := As) (O := O) (PB := PB) (OB := OB) hX b10 b8 hx' f3 _ rfl
    generalize ajR As Bn wh pl x' 0 (toR As Bn wh (psR Bn wh (z8 O) pl P) (z8 O) pl) (psR Bn wh (z8 O) pl P) (z8 O) PB OB = R at d1 d2
    obtain ⟨KP', KO', d3, g1, g2, g3⟩ := d2 (hS h (put [(5, PlO pl (nI (cnA As pl))), (6, ZA 12 As), (7, ZA 48 Bn), (8, IA 96 wh), (12, AdO), (13, IA 24 R.2.1), (14, IA 8 R.2.2.1), (15, IA 24 R.2.2.2.1), (16, IA 8 R.2.2.2.2)] 45 (LA (vp_updL z z0 (nI R.1).toInt64)))) (by rw [hS_len]; omega)
    refine ok_case (b := nI R.1) (L2 := [(27, MoO 0 w ht sd md pl sh sx sy ln hi), (30, IA 48 sX), (31, IA 48 sY), (32, ZA 12 As), (33, IA 24 R.2.1), (34, IA 8 R.2.2.1), (35, IA 24 KP'), (36, IA 8 KO')]) (la_run_ok c0 _ d1 (ro c45 rfl)) (Do.eqh (hS_id (okS_cons (ro c27 rfl) (okS_cons (ro b5 rfl) (okS_cons (ro b6 rfl) (okS_cons (ro b7 rfl) (okS_cons (ro e6 rfl) (okS_cons (ro e7 rfl) (okS_cons (ro e8 rfl) (okS_cons (ro e9 rfl) okS_nil))))))))) rfl d3) (ro c27 rfl) rfl rfl (Inv_hS hI rfl rfl rfl rfl (GA_sm (Sm_hS rfl) gA) ?_ (GC_sm (Sm_hS rfl) gC) ?_ (GE_sm (Sm_hS rfl) gE) (GF_sm (Sm_hS rfl) gF))
    · exact ⟨As, Bn, wh, sX, sY, rd hn rfl rfl, rd hn rfl rfl, rd hn rfl rfl, rd hn rfl rfl, rd hn rfl rfl, rd hn rfl rfl, rd hn rfl rfl, b8, b9, b10⟩
    · exact ⟨_, _, _, _, KP', KO', rd hn rfl rfl, rd hn rfl rfl, rd hn rfl rfl, rd hn rfl rfl, rd hn rfl rfl, rd hn rfl rfl, rd hn rfl rfl, rd hn rfl rfl, rd hn rfl rfl, g1, g2, g3⟩
/-- sum throws nothing, and both sides answer the same -/
theorem st_sum (hI : Inv w ht sd th md pl sh sx sy ln hi h) : ∃ (b : Int64) (Y : List Ce), Do l G k_Pm_sum [.ref 1] h (rl b) h ∧ Do l G k_Mo_sum [.ref 28] h (rl b) Y ∧ Inv w ht sd 0 md pl sh sx sy ln hi Y ∧ Y.length ≤ h.length + 1 := by
  obtain ⟨hn, c0, c27, ⟨z, c45⟩, gA, gB, gC, gD, gE, gF, gX⟩ := id hI
  obtain ⟨As, Bn, wh, sX, sY, b1, b2, b3, b4, b5, b6, b7, b8, b9, b10⟩ := id gB
  obtain ⟨P, O, PB, OB, KP, KO, e1, e2, e3, e4, e5, e6, e7, e8, e9, f1, f2, f3⟩ := id gD
  have d1 := pm_sum (l := l) (G := G) (by omega) c0 e1 (adH_id b1 b2 b3 b4 e1 e2 e3 e4 e5) b10
  have d2 := mo_sum (l := l) (G := G) (h := h) (th := th) (w := w) (ht := ht) (sd := sd) (md := md) (sh := sh) (sx := sx) (sy := sy) (ln := ln) (hi := hi) (KP := KP) (KO := KO) (As := As) (by omega) b10 b8 f1 f2
  refine ⟨_, _, d1, Do.eqh (hS_id (okS_cons c27 (okS_cons b5 (okS_cons b6 (okS_cons b7 (okS_cons e6 (okS_cons e7 (okS_cons e8 (okS_cons e9 okS_nil))))))))) rfl d2, ?_, by rw [hS_len]; omega⟩
  have e45 : moA h 0 w ht sd md pl sh sx sy ln hi sX sY As P O KP KO = hS h [(27, MoO 0 w ht sd md pl sh sx sy ln hi), (30, IA 48 sX), (31, IA 48 sY), (32, ZA 12 As), (33, IA 24 P), (34, IA 8 O), (35, IA 24 KP), (36, IA 8 KO), (45, LA z)] := by
    have : hS h [(45, LA z)] = h := hS_id (okS_cons c45 okS_nil)
    have h2 := hS_hS h [(45, LA z)] [(27, MoO 0 w ht sd md pl sh sx sy ln hi), (30, IA 48 sX), (31, IA 48 sY), (32, ZA 12 As), (33, IA 24 P), (34, IA 8 O), (35, IA 24 KP), (36, IA 8 KO)]
    rw [this] at h2
    exact h2
  rw [e45]
  refine Inv_hS hI rfl rfl rfl rfl (GA_sm (Sm_hS rfl) gA) ?_ (GC_sm (Sm_hS rfl) gC) ?_ (GE_sm (Sm_hS rfl) gE) (GF_sm (Sm_hS rfl) gF)
  · exact ⟨As, Bn, wh, sX, sY, ro b1 rfl, ro b2 rfl, ro b3 rfl, ro b4 rfl, rd hn rfl rfl, rd hn rfl rfl, rd hn rfl rfl, b8, b9, b10⟩
  · exact ⟨P, O, PB, OB, KP, KO, ro e1 rfl, ro e2 rfl, ro e3 rfl, ro e4 rfl, ro e5 rfl, rd hn rfl rfl, rd hn rfl rfl, rd hn rfl rfl, rd hn rfl rfl, f1, f2, f3⟩
theorem st_at (hNT : NoTr l) (hI : Inv w ht sd th md pl sh sx sy ln hi h) (p x : Int32) : Stq ri Int32.toInt64 l G w ht sd k_La_at k_Mo_at [.int p, .int x] h := by
  obtain ⟨hn, c0, c27, ⟨z, c45⟩, gA, gB, gC, gD, gE, gF, -⟩ := id hI
  obtain ⟨As, Bn, wh, sX, sY, b1, b2, b3, b4, b5, b6, b7, b8, b9, b10⟩ := id gB
  obtain ⟨P, O, PB, OB, KP, KO, e1, e2, e3, e4, e5, e6, e7, e8, e9, f1, f2, f3⟩ := id gD
  cases hA : (hasB p pl && wiB x 0 1) with
  | false =>
    refine err_case (k := 1) (b := 0) hI (by decide : sl1 exI ≤ 2000) (by omega) (la_at_1 c0 p x (pm_at_i hNT c0 b1 p x hA)) (fun X hX _ => ?_)
    exact mo_at_e hX b10 p x hA
  | true =>
    rw [Bool.and_eq_true] at hA
    obtain ⟨p', hp', rfl⟩ := has_ex (by omega) hA.1
    obtain ⟨x', -, hx', rfl⟩ := wi_ex (a := 0) (b := 1) (by decide) (by decide) hA.2
    have d1 := Do.eqh rfl (hS_nil h).symm (pm_at (l := l) (G := G) c0 b1 e1 e2 b10 p' x' hp' (by omega))
    refine ok_case (L2 := [(27, MoO 0 w ht sd md pl sh sx sy ln hi), (33, IA 24 P)]) (la_at_ok c0 _ _ d1 (ro c45 rfl)) (Do.eqh (hS_id (okS_cons (ro c27 rfl) (okS_cons (ro e6 rfl) okS_nil))) rfl (mo_at (by rw [hS_len]; omega) b10 p' x' hp' (by omega))) (ro c27 rfl) rfl rfl (Inv_hS hI rfl rfl rfl rfl (GA_sm (Sm_hS rfl) gA) (GB_sm (Sm_hS rfl) gB) (GC_sm (Sm_hS rfl) gC) ?_ (GE_sm (Sm_hS rfl) gE) (GF_sm (Sm_hS rfl) gF))
    exact ⟨P, O, PB, OB, KP, KO, ro e1 rfl, ro e2 rfl, ro e3 rfl, ro e4 rfl, ro e5 rfl, rd hn rfl rfl, ro e7 rfl, ro e8 rfl, ro e9 rfl, f1, f2, f3⟩
theorem st_offset (hNT : NoTr l) (hI : Inv w ht sd th md pl sh sx sy ln hi h) (p x : Int32) : Stq ri Int32.toInt64 l G w ht sd k_La_offset k_Mo_offset [.int p, .int x] h := by
  obtain ⟨hn, c0, c27, ⟨z, c45⟩, gA, gB, gC, gD, gE, gF, -⟩ := id hI
  obtain ⟨P, O, PB, OB, KP, KO, e1, e2, e3, e4, e5, e6, e7, e8, e9, f1, f2, f3⟩ := id gD
  cases hA : (wiB p 0 3 && wiB x 0 1) with
  | false =>
    refine err_case (k := 1) (b := 0) hI (by decide : sl1 exI ≤ 2000) (by omega) (la_offset_1 c0 p x (pm_offset_i hNT p x hA)) (fun X hX _ => ?_)
    exact mo_offset_e hX p x hA
  | true =>
    rw [Bool.and_eq_true] at hA
    obtain ⟨p', -, hp', rfl⟩ := wi_ex (a := 0) (b := 3) (by decide) (by decide) hA.1
    obtain ⟨x', -, hx', rfl⟩ := wi_ex (a := 0) (b := 1) (by decide) (by decide) hA.2
    have d1 := Do.eqh rfl (hS_nil h).symm (pm_offset (l := l) (G := G) c0 e1 e3 p' x' (by omega) (by omega))
    refine ok_case (L2 := [(27, MoO 0 w ht sd md pl sh sx sy ln hi), (34, IA 8 O)]) (la_offset_ok c0 _ _ d1 (ro c45 rfl)) (Do.eqh (hS_id (okS_cons (ro c27 rfl) (okS_cons (ro e7 rfl) okS_nil))) rfl (mo_offset (by rw [hS_len]; omega) p' x' (by omega) (by omega))) (ro c27 rfl) rfl rfl (Inv_hS hI rfl rfl rfl rfl (GA_sm (Sm_hS rfl) gA) (GB_sm (Sm_hS rfl) gB) (GC_sm (Sm_hS rfl) gC) ?_ (GE_sm (Sm_hS rfl) gE) (GF_sm (Sm_hS rfl) gF))
    exact ⟨P, O, PB, OB, KP, KO, ro e1 rfl, ro e2 rfl, ro e3 rfl, ro e4 rfl, ro e5 rfl, ro e6 rfl, rd hn rfl rfl, ro e8 rfl, ro e9 rfl, f1, f2, f3⟩
theorem st_miss (hNT : NoTr l) (hI : Inv w ht sd th md pl sh sx sy ln hi h) (p : Int32) : Stq rl id l G w ht sd k_La_miss k_Mo_miss [.int p] h := by
  obtain ⟨hn, c0, c27, ⟨z, c45⟩, gA, gB, gC, gD, gE, gF, -⟩ := id hI
  obtain ⟨As, Bn, wh, sX, sY, b1, b2, b3, b4, b5, b6, b7, b8, b9, b10⟩ := id gB
  obtain ⟨P, O, PB, OB, KP, KO, e1, e2, e3, e4, e5, e6, e7, e8, e9, f1, f2, f3⟩ := id gD
  cases hA : hasB p pl with
  | false =>
    refine err_case (k := 1) (b := 0) hI (by decide : sl1 exI ≤ 2000) (by omega) (la_miss_1 c0 p (pm_miss_i hNT c0 b1 p hA)) (fun X hX hXl => ?_)
    rw [set_hS]
    exact Do.eqh (moH_id hX) rfl (mo_miss_e hXl b10 p hA)
  | true =>
    obtain ⟨p', hp', rfl⟩ := has_ex (by omega) hA
    have d1 := Do.eqh rfl (hS_nil h).symm (pm_miss (l := l) (G := G) (by omega) c0 b1 e1 (adH_id b1 b2 b3 b4 e1 e2 e3 e4 e5) b10 p' hp')
    refine ok_case (L2 := [(27, MoO 0 w ht sd md pl sh sx sy ln hi), (30, IA 48 sX), (31, IA 48 sY), (32, ZA 12 As), (33, IA 24 P), (34, IA 8 O), (35, IA 24 KP), (36, IA 8 KO)]) (la_miss_ok c0 _ d1 (ro c45 rfl)) (Do.eqh (hS_id (okS_cons (ro c27 rfl) (okS_cons (ro b5 rfl) (okS_cons (ro b6 rfl) (okS_cons (ro b7 rfl) (okS_cons (ro e6 rfl) (okS_cons (ro e7 rfl) (okS_cons (ro e8 rfl) (okS_cons (ro e9 rfl) okS_nil))))))))) rfl (mo_miss (by rw [hS_len]; omega) b10 b8 f1 f2 hp')) (ro c27 rfl) rfl rfl (Inv_hS hI rfl rfl rfl rfl (GA_sm (Sm_hS rfl) gA) ?_ (GC_sm (Sm_hS rfl) gC) ?_ (GE_sm (Sm_hS rfl) gE) (GF_sm (Sm_hS rfl) gF))
    · exact ⟨As, Bn, wh, sX, sY, ro b1 rfl, ro b2 rfl, ro b3 rfl, ro b4 rfl, rd hn rfl rfl, rd hn rfl rfl, rd hn rfl rfl, b8, b9, b10⟩
    · exact ⟨P, O, PB, OB, KP, KO, ro e1 rfl, ro e2 rfl, ro e3 rfl, ro e4 rfl, ro e5 rfl, rd hn rfl rfl, rd hn rfl rfl, rd hn rfl rfl, rd hn rfl rfl, f1, f2, f3⟩
theorem st_known (hNT : NoTr l) (hI : Inv w ht sd th md pl sh sx sy ln hi h) (a b k : Int32) : Stq ri Int32.toInt64 l G w ht sd k_La_known k_Mo_known [.int a, .int b, .int k] h := by
  obtain ⟨hn, c0, c27, ⟨z, c45⟩, gA, gB, gC, gD, gE, gF, -⟩ := id hI
  obtain ⟨As, Bn, wh, sX, sY, b1, b2, b3, b4, b5, b6, b7, b8, b9, b10⟩ := id gB
  obtain ⟨P, O, PB, OB, KP, KO, e1, e2, e3, e4, e5, e6, e7, e8, e9, f1, f2, f3⟩ := id gD
  obtain ⟨F, T, Ln, g1, g2, g3, g4, g5, g6, g7, i1, i2, i3⟩ := id gE
  cases hA : (hasB a pl && hasB b pl) with
  | false =>
    refine err_case (k := 1) (b := 0) hI (by decide : sl1 exI ≤ 2000) (by omega) (la_known_1 c0 a b k (pm_known_i hNT c0 b1 a b k hA)) (fun X hX _ => ?_)
    have := mo_known_e (l := l) (G := G) hX b10 i1 a b k (by rw [hA]; rfl)
    rw [hA] at this
    exact this
  | true =>
    cases hV : (!decide (a = b) && wiB k 1 10000) with
    | false =>
      refine err_case (k := 2) (b := 0) hI (by decide : sl1 exA ≤ 2000) (by omega) (la_known_2 c0 a b k (pm_known_a hNT c0 b1 a b k hA hV)) (fun X hX _ => ?_)
      have := mo_known_e (l := l) (G := G) hX b10 i1 a b k (by rw [hA, hV]; rfl)
      rw [hA, hV] at this
      exact this
    | true =>
      rcases Nat.lt_or_ge ln 10 with q | q
      · rw [Bool.and_eq_true] at hA hV
        obtain ⟨a', ha', rfl⟩ := has_ex (by omega) hA.1
        obtain ⟨b', hb', rfl⟩ := has_ex (by omega) hA.2
        have hab : a' ≠ b' := fun e => by
          have := hV.1
          rw [e] at this
          simp at this
        obtain ⟨k', hk1, hk2, rfl⟩ := wi_ex (a := 1) (b := 10000) (by decide) (by decide) hV.2
        have d1 := pm_known (l := l) (G := G) (by omega) c0 b1 g1 (show leH h P ln F T Ln = h from hS_id (okS_cons e1 (okS_cons e2 (okS_cons g1 (okS_cons g2 (okS_cons g3 (okS_cons g4 okS_nil))))))) b10 q a' b' (nI k') ha' hb' hab hV.2
        refine ok_case (L2 := [(27, MoO 0 w ht sd md pl sh sx sy (ln + 1) hi), (33, IA 24 P), (37, NA 10 (updN F ln a')), (38, NA 10 (updN T ln b')), (39, IA 10 (upd Ln ln (nI k')))]) (la_known_ok c0 _ _ _ d1 (ro c45 rfl)) (Do.eqh (hS_id (okS_cons (ro c27 rfl) (okS_cons (ro e6 rfl) (okS_cons (ro g5 rfl) (okS_cons (ro g6 rfl) (okS_cons (ro g7 rfl) okS_nil)))))) rfl (mo_known (by rw [hS_len]; omega) b10 q a' b' (nI k') ha' hb' hab hV.2)) (ro c27 rfl) rfl rfl (Inv_hS hI rfl rfl rfl rfl (GA_sm (Sm_hS rfl) gA) (GB_sm (Sm_hS rfl) gB) (GC_sm (Sm_hS rfl) gC) ?_ ?_ (GF_sm (Sm_hS rfl) gF))
        · exact ⟨P, O, PB, OB, KP, KO, rd hn rfl rfl, rd hn rfl rfl, ro e3 rfl, ro e4 rfl, ro e5 rfl, rd hn rfl rfl, ro e7 rfl, ro e8 rfl, ro e9 rfl, f1, f2, f3⟩
        · refine ⟨_, _, _, rd hn rfl rfl, rd hn rfl rfl, rd hn rfl rfl, rd hn rfl rfl, rd hn rfl rfl, rd hn rfl rfl, rd hn rfl rfl, by omega, fun i hi9 => ?_, fun i hi9 => ?_⟩
          · unfold updN
            by_cases e : i = ln
            · rw [if_pos e, if_pos e]; exact ⟨ha', hb'⟩
            · rw [if_neg e, if_neg e]; exact i2 i (by omega)
          · unfold upd
            by_cases e : i = ln
            · rw [if_pos e]; exact ⟨k', hk2, rfl⟩
            · rw [if_neg e]; exact i3 i (by omega)
      · refine err_case (k := 3) (b := 0) hI (by decide : sl1 exS ≤ 2000) (by omega) (la_known_3 c0 a b k (pm_known_s hNT c0 b1 g1 (by omega) a b k hA hV)) (fun X hX _ => ?_)
        have hd9 : decide (ln < 10) = false := decide_eq_false (by omega)
        have := mo_known_e (l := l) (G := G) hX b10 i1 a b k (by rw [hA, hV, hd9]; rfl)
        rw [hA, hV, hd9] at this
        exact this
theorem st_scale (hNT : NoTr l) (hI : Inv w ht sd th md pl sh sx sy ln hi h) (x : Int32) : Stq rl id l G w ht sd k_La_scale k_Mo_scale [.int x] h := by
  obtain ⟨hn, c0, c27, ⟨z, c45⟩, gA, gB, gC, gD, gE, gF, -⟩ := id hI
  obtain ⟨As, Bn, wh, sX, sY, b1, b2, b3, b4, b5, b6, b7, b8, b9, b10⟩ := id gB
  obtain ⟨P, O, PB, OB, KP, KO, e1, e2, e3, e4, e5, e6, e7, e8, e9, f1, f2, f3⟩ := id gD
  obtain ⟨F, T, Ln, g1, g2, g3, g4, g5, g6, g7, i1, i2, i3⟩ := id gE
  cases hA : wiB x 0 1 with
  | false =>
    refine err_case (k := 1) (b := 0) hI (by decide : sl1 exI ≤ 2000) (by omega) (la_scale_1 c0 x (pm_scale_i hNT x hA)) (fun X hX hXl => ?_)
    rw [set_hS]
    exact Do.eqh (moH_id hX) rfl (mo_scale_e hXl x hA)
  | true =>
    have hF : ∀ i, i < ln → F i < 12 ∧ T i < 12 := fun i hi9 => by have := i2 i hi9; omega
    have d1 := Do.eqh rfl (hS_nil h).symm (pm_scale (l := l) (G := G) (by omega) c0 g1 (show leH h P ln F T Ln = h from hS_id (okS_cons e1 (okS_cons e2 (okS_cons g1 (okS_cons g2 (okS_cons g3 (okS_cons g4 okS_nil))))))) i1 hF x hA)
    obtain ⟨x', -, hx', rfl⟩ := wi_ex (a := 0) (b := 1) (by decide) (by decide) hA
    refine ok_case (L2 := [(27, MoO 0 w ht sd md pl sh sx sy ln hi), (33, IA 24 P), (37, NA 10 F), (38, NA 10 T), (39, IA 10 Ln)]) (la_scale_ok c0 _ d1 (ro c45 rfl)) (Do.eqh (hS_id (okS_cons (ro c27 rfl) (okS_cons (ro e6 rfl) (okS_cons (ro g5 rfl) (okS_cons (ro g6 rfl) (okS_cons (ro g7 rfl) okS_nil)))))) rfl (mo_scale (by rw [hS_len]; omega) i1 f1 hF i3 x' (by omega))) (ro c27 rfl) rfl rfl (Inv_hS hI rfl rfl rfl rfl (GA_sm (Sm_hS rfl) gA) (GB_sm (Sm_hS rfl) gB) (GC_sm (Sm_hS rfl) gC) ?_ ?_ (GF_sm (Sm_hS rfl) gF))
    · exact ⟨P, O, PB, OB, KP, KO, ro e1 rfl, ro e2 rfl, ro e3 rfl, ro e4 rfl, ro e5 rfl, rd hn rfl rfl, ro e7 rfl, ro e8 rfl, ro e9 rfl, f1, f2, f3⟩
    · exact ⟨F, T, Ln, ro g1 rfl, ro g2 rfl, ro g3 rfl, ro g4 rfl, rd hn rfl rfl, rd hn rfl rfl, rd hn rfl rfl, i1, i2, i3⟩
theorem st_count (hNT : NoTr l) (hI : Inv w ht sd th md pl sh sx sy ln hi h) (x : Int32) : Stq ri Int32.toInt64 l G w ht sd k_La_count k_Mo_count [.int x] h := by
  obtain ⟨hn, c0, c27, ⟨z, c45⟩, gA, gB, gC, gD, gE, gF, -⟩ := id hI
  obtain ⟨f, mf, ms, mt, fx, fy, le, a1, a2, a3, a4, a5, a6, a7, a8⟩ := id gA
  obtain ⟨As, Bn, wh, sX, sY, b1, b2, b3, b4, b5, b6, b7, b8, b9, b10⟩ := id gB
  obtain ⟨F, T, Ln, g1, g2, g3, g4, g5, g6, g7, i1, i2, i3⟩ := id gE
  cases hA : wiB x 0 4 with
  | false =>
    refine err_case (k := 1) (b := 0) hI (by decide : sl1 exI ≤ 2000) (by omega) (la_count_1 c0 x (pm_count_i hNT x hA)) (fun X hX hXl => ?_)
    rw [set_hS]
    exact Do.eqh (moH_id hX) rfl (mo_count_e hXl x hA)
  | true =>
    obtain ⟨x', -, hx', rfl⟩ := wi_ex (a := 0) (b := 4) (by decide) (by decide) hA
    have d1 := Do.eqh rfl (hS_nil h).symm (pm_count (l := l) (G := G) c0 a1 b1 g1 x' hx')
    refine ok_case (L2 := [(27, MoO 0 w ht sd md pl sh sx sy ln hi), (32, ZA 12 As)]) (la_count_ok c0 _ d1 (ro c45 rfl)) (Do.eqh (hS_id (okS_cons (ro c27 rfl) (okS_cons (ro b7 rfl) okS_nil))) rfl (mo_count (by rw [hS_len]; omega) b10 hx')) (ro c27 rfl) rfl rfl (Inv_hS hI rfl rfl rfl rfl (GA_sm (Sm_hS rfl) gA) ?_ (GC_sm (Sm_hS rfl) gC) (GD_sm (Sm_hS rfl) gD) (GE_sm (Sm_hS rfl) gE) (GF_sm (Sm_hS rfl) gF))
    exact ⟨As, Bn, wh, sX, sY, ro b1 rfl, ro b2 rfl, ro b3 rfl, ro b4 rfl, ro b5 rfl, ro b6 rfl, rd hn rfl rfl, b8, b9, b10⟩
end P53
