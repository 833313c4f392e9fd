section P26
variable {l : Launch} {G : Gb} {h : List Ce} {w ht n : Nat} {f C Df ms wh P O PB OB Ln : Nat → Int32} {Dp F T : Nat → Nat} {As Bn op : Nat → Bool} {dn rc ra : Bool} {fx fy le sp bx y9 qd : Int32} {sd nm : Nat} {qu : Nat → Int32}
abbrev PmO : Ce := .inr (7, [.ref 2, .ref 4, .ref 6, .ref 10, .ref 13, .ref 18, .ref 22])
theorem wi_n {k b : Nat} (h1 : k ≤ b) (h2 : b < 2 ^ 31) : wiB (nI k) 0 (nI b) = true := by
  simp only [wiB, Bool.and_eq_true, decide_eq_true_eq]
  exact ⟨nI_pos' (by omega), nI_le h1 h2⟩
/-- pixel -/
theorem pm_pixel_i (hNT : NoTr l) (c_Pm : h[0]? = some PmO) (c_Ph : h[1]? = some (PhO w ht)) (p x y v : Int32) (hc : (wiB p 0 3 && (wiB x 0 (nI w - 1) && wiB y 0 (nI ht - 1))) = false) : Do l G k_Pm_pixel [.ref 1, .int p, .int x, .int y, .int v] h (.inr h.length) (h ++ [exI]) := by
  refine Do.of (by decide) (Nat.le_of_ble_eq_true rfl) kw_Pm_pixel ?_
  refine V_iload_n d_Pm_pixel_0 rfl ?_
  refine V_cS s_Pm_pixel_1 (do_isPhoto p) rfl rfl (Nat.le_of_ble_eq_true rfl) ?_
  refine V_if_eq (tgt := 23) d_Pm_pixel_4 (by decide) (fun c1 => ?_) (fun c1 => ?_)
  · refine V_iconst (v := 0) d_Pm_pixel_23 (by decide) ?_
    exact V_cSt s_Pm_pixel_24 (ndI_f hNT) rfl rfl (Nat.le_of_ble_eq_true rfl) rfl
  · have c1' : wiB p 0 3 = true := by simpa [bI_0] using c1
    rw [c1', Bool.true_and] at hc
    refine V_aload_n d_Pm_pixel_7 rfl ?_
    refine V_gf g_Pm_pixel_8 c_Pm rfl ?_
    refine V_iload_n d_Pm_pixel_11 rfl ?_
    refine V_iload_n d_Pm_pixel_12 rfl ?_
    refine V_cV s_Pm_pixel_13 (do_Ph_hasCell c_Ph x y) c_Ph rfl rfl (Nat.le_of_ble_eq_true rfl) ?_
    refine V_if_eq (tgt := 23) d_Pm_pixel_16 (by decide) (fun _ => ?_) (fun c9 => absurd (((bI_0 _).mpr hc)) c9)
    refine V_iconst (v := 0) d_Pm_pixel_23 (by decide) ?_
    exact V_cSt s_Pm_pixel_24 (ndI_f hNT) rfl rfl (Nat.le_of_ble_eq_true rfl) rfl
theorem pm_pixel_a (hNT : NoTr l) (c_Pm : h[0]? = some PmO) (c_Ph : h[1]? = some (PhO w ht)) (p x y v : Int32) (hc : (wiB p 0 3 && (wiB x 0 (nI w - 1) && wiB y 0 (nI ht - 1))) = true) (hv : wiB v 0 255 = false) : Do l G k_Pm_pixel [.ref 1, .int p, .int x, .int y, .int v] h (.inr h.length) (h ++ [exA]) := by
  refine Do.of (by decide) (Nat.le_of_ble_eq_true rfl) kw_Pm_pixel ?_
  simp only [Bool.and_eq_true] at hc
  refine V_iload_n d_Pm_pixel_0 rfl ?_
  refine V_cS s_Pm_pixel_1 (do_isPhoto p) rfl rfl (Nat.le_of_ble_eq_true rfl) ?_
  refine V_if_eq (tgt := 23) d_Pm_pixel_4 (by decide) (fun c9 => absurd c9 ((by rw [hc.1]; decide : ¬ bI (wiB p 0 3) = 0))) (fun _ => ?_)
  refine V_aload_n d_Pm_pixel_7 rfl ?_
  refine V_gf g_Pm_pixel_8 c_Pm rfl ?_
  refine V_iload_n d_Pm_pixel_11 rfl ?_
  refine V_iload_n d_Pm_pixel_12 rfl ?_
  refine V_cV s_Pm_pixel_13 (do_Ph_hasCell c_Ph x y) c_Ph rfl rfl (Nat.le_of_ble_eq_true rfl) ?_
  refine V_if_eq (tgt := 23) d_Pm_pixel_16 (by decide) (fun c9 => absurd c9 ((by rw [hc.2.1, hc.2.2]; decide : ¬ bI (wiB x 0 (nI w - 1) && wiB y 0 (nI ht - 1)) = 0))) (fun _ => ?_)
  refine V_iconst (v := 1) d_Pm_pixel_19 (by decide) ?_
  refine V_goto (tgt := 24) d_Pm_pixel_20 (by decide) ?_
  refine V_cS s_Pm_pixel_24 ndI_t rfl rfl (Nat.le_of_ble_eq_true rfl) ?_
  refine V_iload d_Pm_pixel_27 rfl ?_
  refine V_iconst (v := 0) d_Pm_pixel_29 (by decide) ?_
  refine V_sipush (v := 255) d_Pm_pixel_30 (by decide) ?_
  refine V_cS s_Pm_pixel_33 (do_isWithin v 0 255) rfl rfl (Nat.le_of_ble_eq_true rfl) ?_
  rw [hv]
  exact V_cSt s_Pm_pixel_36 (ndA_f hNT) rfl rfl (Nat.le_of_ble_eq_true rfl) rfl
theorem pm_pixel (c_Pm : h[0]? = some PmO) (c_Ph : h[1]? = some (PhO w ht)) (a_Ph_values : h[2]? = some (IA (4 * ht * w) f)) (hw : w ≤ 20) (hht : ht ≤ 20) (p x y : Nat) (v : Int32) (hp : p < 4) (hx : x < w) (hy : y < ht) (hv : wiB v 0 255 = true) : Do l G k_Pm_pixel [.ref 1, .int (nI p), .int (nI x), .int (nI y), .int v] h (ri (f (px w ht p x y))) (h.set 2 (IA (4 * ht * w) (upd f (px w ht p x y) v))) := by
  refine Do.of (by decide) (Nat.le_of_ble_eq_true rfl) kw_Pm_pixel ?_
  have hN : 4 * ht * w < 2 ^ 31 := by
    have : 4 * ht * w ≤ 4 * 20 * 20 := Nat.mul_le_mul (Nat.mul_le_mul_left _ hht) hw
    omega
  have e1 : wiB (nI p) 0 3 = true := wi_n (b := 3) (by omega) (by decide)
  have e2 : wiB (nI x) 0 (nI w - 1) = true := by rw [nIm1 (by omega)]; exact wi_n (by omega) (by omega)
  have e3 : wiB (nI y) 0 (nI ht - 1) = true := by rw [nIm1 (by omega)]; exact wi_n (by omega) (by omega)
  refine V_iload_n d_Pm_pixel_0 rfl ?_
  refine V_cS s_Pm_pixel_1 (do_isPhoto (nI p)) rfl rfl (Nat.le_of_ble_eq_true rfl) ?_
  refine V_if_eq (tgt := 23) d_Pm_pixel_4 (by decide) (fun c9 => absurd c9 ((by rw [e1]; decide : ¬ bI (wiB (nI p) 0 3) = 0))) (fun _ => ?_)
  refine V_aload_n d_Pm_pixel_7 rfl ?_
  refine V_gf g_Pm_pixel_8 c_Pm rfl ?_
  refine V_iload_n d_Pm_pixel_11 rfl ?_
  refine V_iload_n d_Pm_pixel_12 rfl ?_
  refine V_cV s_Pm_pixel_13 (do_Ph_hasCell c_Ph (nI x) (nI y)) c_Ph rfl rfl (Nat.le_of_ble_eq_true rfl) ?_
  refine V_if_eq (tgt := 23) d_Pm_pixel_16 (by decide) (fun c9 => absurd c9 ((by rw [e2, e3]; decide : ¬ bI (wiB (nI x) 0 (nI w - 1) && wiB (nI y) 0 (nI ht - 1)) = 0))) (fun _ => ?_)
  refine V_iconst (v := 1) d_Pm_pixel_19 (by decide) ?_
  refine V_goto (tgt := 24) d_Pm_pixel_20 (by decide) ?_
  refine V_cS s_Pm_pixel_24 ndI_t rfl rfl (Nat.le_of_ble_eq_true rfl) ?_
  refine V_iload d_Pm_pixel_27 rfl ?_
  refine V_iconst (v := 0) d_Pm_pixel_29 (by decide) ?_
  refine V_sipush (v := 255) d_Pm_pixel_30 (by decide) ?_
  refine V_cS s_Pm_pixel_33 (do_isWithin v 0 255) rfl rfl (Nat.le_of_ble_eq_true rfl) ?_
  rw [hv]
  refine V_cS s_Pm_pixel_36 ndA_t rfl rfl (Nat.le_of_ble_eq_true rfl) ?_
  refine V_aload_n d_Pm_pixel_39 rfl ?_
  refine V_gf g_Pm_pixel_40 c_Pm rfl ?_
  refine V_iload_n d_Pm_pixel_43 rfl ?_
  refine V_iload_n d_Pm_pixel_44 rfl ?_
  refine V_iload_n d_Pm_pixel_45 rfl ?_
  refine V_iload d_Pm_pixel_46 rfl ?_
  refine V_cV s_Pm_pixel_48 (do_Ph_change c_Ph a_Ph_values p x y v (px_lt hp hx hy) hN) c_Ph rfl rfl (Nat.le_of_ble_eq_true rfl) ?_
  exact V_iret d_Pm_pixel_51 rfl rfl
/-- match -/
theorem pm_match_i (hNT : NoTr l) (c_Pm : h[0]? = some PmO) (c_Ph : h[1]? = some (PhO w ht)) (a b x y : Int32) (hc : (wiB a 0 3 && (wiB b 0 3 && (wiB x 1 (nI w - 2) && wiB y 1 (nI ht - 2)))) = false) : Do l G k_Pm_match [.ref 1, .int a, .int b, .int x, .int y] h (.inr h.length) (h ++ [exI]) := by
  refine Do.of (by decide) (Nat.le_of_ble_eq_true rfl) kw_Pm_match ?_
  refine V_iload_n d_Pm_match_0 rfl ?_
  refine V_cS s_Pm_match_1 (do_isPhoto a) rfl rfl (Nat.le_of_ble_eq_true rfl) ?_
  refine V_if_eq (tgt := 31) d_Pm_match_4 (by decide) (fun c1 => ?_) (fun c1 => ?_)
  · refine V_iconst (v := 0) d_Pm_match_31 (by decide) ?_
    exact V_cSt s_Pm_match_32 (ndI_f hNT) rfl rfl (Nat.le_of_ble_eq_true rfl) rfl
  · have c1' : wiB a 0 3 = true := by simpa [bI_0] using c1
    rw [c1', Bool.true_and] at hc
    refine V_iload_n d_Pm_match_7 rfl ?_
    refine V_cS s_Pm_match_8 (do_isPhoto b) rfl rfl (Nat.le_of_ble_eq_true rfl) ?_
    refine V_if_eq (tgt := 31) d_Pm_match_11 (by decide) (fun c2 => ?_) (fun c2 => ?_)
    · refine V_iconst (v := 0) d_Pm_match_31 (by decide) ?_
      exact V_cSt s_Pm_match_32 (ndI_f hNT) rfl rfl (Nat.le_of_ble_eq_true rfl) rfl
    · have c2' : wiB b 0 3 = true := by simpa [bI_0] using c2
      rw [c2', Bool.true_and] at hc
      refine V_aload_n d_Pm_match_14 rfl ?_
      refine V_gf g_Pm_match_15 c_Pm rfl ?_
      refine V_iload_n d_Pm_match_18 rfl ?_
      refine V_iload d_Pm_match_19 rfl ?_
      refine V_cV s_Pm_match_21 (do_Ph_hasWindow c_Ph x y) c_Ph rfl rfl (Nat.le_of_ble_eq_true rfl) ?_
      refine V_if_eq (tgt := 31) d_Pm_match_24 (by decide) (fun _ => ?_) (fun c9 => absurd (((bI_0 _).mpr hc)) c9)
      refine V_iconst (v := 0) d_Pm_match_31 (by decide) ?_
      exact V_cSt s_Pm_match_32 (ndI_f hNT) rfl rfl (Nat.le_of_ble_eq_true rfl) rfl
theorem pm_match (hL : 27 ≤ h.length) (c_Pm : h[0]? = some PmO) (c_Ph : h[1]? = some (PhO w ht)) (a_Ph_values : h[2]? = some (IA (4 * ht * w) f)) (c_Se : h[3]? = some (SeO w ht dn fx fy le)) (a_Se_misses : h[4]? = some (IA (w * ht) ms)) (hw : 6 ≤ w ∧ w ≤ 20) (hht : 6 ≤ ht ∧ ht ≤ 20) (a b x y : Nat) (ha : a < 4) (hb : b < 4) (hx : 1 ≤ x ∧ x + 1 < w) (hy : 1 ≤ y ∧ y + 1 < ht) (S : Lk) (hS9 : S = lookR (fun u v => wmiss f w ht a x y b u v) w ht (-1, fx, fy, ms)) : Do l G k_Pm_match [.ref 1, .int (nI a), .int (nI b), .int (nI x), .int (nI y)] h (ri S.1) (lkH h w ht f true (lfR S.2.2.2 w ht S.2.1 S.2.2.1) S) := by
  refine Do.of (by decide) (Nat.le_of_ble_eq_true rfl) kw_Pm_match ?_
  have e1 : wiB (nI a) 0 3 = true := wi_n (b := 3) (by omega) (by decide)
  have e2 : wiB (nI b) 0 3 = true := wi_n (b := 3) (by omega) (by decide)
  have wi1 : ∀ k b : Nat, 1 ≤ k → k ≤ b → b < 1000 → wiB (nI k) 1 (nI b) = true := by
    intro k b q1 q2 q3
    simp only [wiB, Bool.and_eq_true, decide_eq_true_eq]
    exact ⟨nI_le (a := 1) q1 (by omega), nI_le q2 (by omega)⟩
  have e3 : wiB (nI x) 1 (nI w - 2) = true := by rw [nIm2 (by omega)]; exact wi1 _ _ hx.1 (by omega) (by omega)
  have e4 : wiB (nI y) 1 (nI ht - 2) = true := by rw [nIm2 (by omega)]; exact wi1 _ _ hy.1 (by omega) (by omega)
  refine V_iload_n d_Pm_match_0 rfl ?_
  refine V_cS s_Pm_match_1 (do_isPhoto (nI a)) rfl rfl (Nat.le_of_ble_eq_true rfl) ?_
  refine V_if_eq (tgt := 31) d_Pm_match_4 (by decide) (fun c9 => absurd c9 ((by rw [e1]; decide : ¬ bI (wiB (nI a) 0 3) = 0))) (fun _ => ?_)
  refine V_iload_n d_Pm_match_7 rfl ?_
  refine V_cS s_Pm_match_8 (do_isPhoto (nI b)) rfl rfl (Nat.le_of_ble_eq_true rfl) ?_
  refine V_if_eq (tgt := 31) d_Pm_match_11 (by decide) (fun c9 => absurd c9 ((by rw [e2]; decide : ¬ bI (wiB (nI b) 0 3) = 0))) (fun _ => ?_)
  refine V_aload_n d_Pm_match_14 rfl ?_
  refine V_gf g_Pm_match_15 c_Pm rfl ?_
  refine V_iload_n d_Pm_match_18 rfl ?_
  refine V_iload d_Pm_match_19 rfl ?_
  refine V_cV s_Pm_match_21 (do_Ph_hasWindow c_Ph (nI x) (nI y)) c_Ph rfl rfl (Nat.le_of_ble_eq_true rfl) ?_
  refine V_if_eq (tgt := 31) d_Pm_match_24 (by decide) (fun c9 => absurd c9 ((by rw [e3, e4]; decide : ¬ bI (wiB (nI x) 1 (nI w - 2) && wiB (nI y) 1 (nI ht - 2)) = 0))) (fun _ => ?_)
  refine V_iconst (v := 1) d_Pm_match_27 (by decide) ?_
  refine V_goto (tgt := 32) d_Pm_match_28 (by decide) ?_
  refine V_cS s_Pm_match_32 ndI_t rfl rfl (Nat.le_of_ble_eq_true rfl) ?_
  have hid : lkH h w ht f dn le (0, fx, fy, ms) = h := hS_id (okS_cons c_Ph (okS_cons a_Ph_values (okS_cons c_Se (okS_cons a_Se_misses okS_nil))))
  refine V_aload_n d_Pm_match_35 rfl ?_
  refine V_gf g_Pm_match_36 c_Pm rfl ?_
  refine V_aload_n d_Pm_match_39 rfl ?_
  refine V_gf g_Pm_match_40 c_Pm rfl ?_
  refine V_iload_n d_Pm_match_43 rfl ?_
  refine V_iload_n d_Pm_match_44 rfl ?_
  refine V_iload_n d_Pm_match_45 rfl ?_
  refine V_iload d_Pm_match_46 rfl ?_
  refine V_cV s_Pm_match_48 ((do_Se_look (dn := dn) (le := le) hL hw hht a b x y ha hb hx hy fx fy ms S hS9).eqh hid rfl) c_Se rfl rfl (Nat.le_of_ble_eq_true rfl) ?_
  exact V_iret d_Pm_match_51 rfl rfl
/-- found -/
theorem pm_found_i (hNT : NoTr l) (x : Int32) (hc : wiB x 0 2 = false) : Do l G k_Pm_found [.ref 1, .int x] h (.inr h.length) (h ++ [exI]) := by
  refine Do.of (by decide) (Nat.le_of_ble_eq_true rfl) kw_Pm_found ?_
  refine V_iload_n d_Pm_found_0 rfl ?_
  refine V_iconst (v := 0) d_Pm_found_1 (by decide) ?_
  refine V_iconst (v := 2) d_Pm_found_2 (by decide) ?_
  refine V_cS s_Pm_found_3 (do_isWithin x 0 2) rfl rfl (Nat.le_of_ble_eq_true rfl) ?_
  rw [hc]
  exact V_cSt s_Pm_found_6 (ndI_f hNT) rfl rfl (Nat.le_of_ble_eq_true rfl) rfl
theorem pm_found_s (hNT : NoTr l) (c_Pm : h[0]? = some PmO) (c_Se : h[3]? = some (SeO w ht false fx fy le)) (x : Int32) (hc : wiB x 0 2 = true) : Do l G k_Pm_found [.ref 1, .int x] h (.inr h.length) (h ++ [exS]) := by
  refine Do.of (by decide) (Nat.le_of_ble_eq_true rfl) kw_Pm_found ?_
  refine V_iload_n d_Pm_found_0 rfl ?_
  refine V_iconst (v := 0) d_Pm_found_1 (by decide) ?_
  refine V_iconst (v := 2) d_Pm_found_2 (by decide) ?_
  refine V_cS s_Pm_found_3 (do_isWithin x 0 2) rfl rfl (Nat.le_of_ble_eq_true rfl) ?_
  rw [hc]
  refine V_cS s_Pm_found_6 ndI_t rfl rfl (Nat.le_of_ble_eq_true rfl) ?_
  refine V_aload_n d_Pm_found_9 rfl ?_
  refine V_gf g_Pm_found_10 c_Pm rfl ?_
  refine V_cV s_Pm_found_13 (do_Se_isDone c_Se) c_Se rfl rfl (Nat.le_of_ble_eq_true rfl) ?_
  exact V_cSt s_Pm_found_16 (ndS_f hNT) rfl rfl (Nat.le_of_ble_eq_true rfl) rfl
theorem pm_found (c_Pm : h[0]? = some PmO) (c_Se : h[3]? = some (SeO w ht true fx fy le)) (x : Int32) (hc : wiB x 0 2 = true) : Do l G k_Pm_found [.ref 1, .int x] h (ri (if x = 2 then le else if x = 0 then fx else fy)) h := by
  refine Do.of (by decide) (Nat.le_of_ble_eq_true rfl) kw_Pm_found ?_
  refine V_iload_n d_Pm_found_0 rfl ?_
  refine V_iconst (v := 0) d_Pm_found_1 (by decide) ?_
  refine V_iconst (v := 2) d_Pm_found_2 (by decide) ?_
  refine V_cS s_Pm_found_3 (do_isWithin x 0 2) rfl rfl (Nat.le_of_ble_eq_true rfl) ?_
  rw [hc]
  refine V_cS s_Pm_found_6 ndI_t rfl rfl (Nat.le_of_ble_eq_true rfl) ?_
  refine V_aload_n d_Pm_found_9 rfl ?_
  refine V_gf g_Pm_found_10 c_Pm rfl ?_
  refine V_cV s_Pm_found_13 (do_Se_isDone c_Se) c_Se rfl rfl (Nat.le_of_ble_eq_true rfl) ?_
  refine V_cS s_Pm_found_16 ndS_t rfl rfl (Nat.le_of_ble_eq_true rfl) ?_
  refine V_aload_n d_Pm_found_19 rfl ?_
  refine V_gf g_Pm_found_20 c_Pm rfl ?_
  refine V_iload_n d_Pm_found_23 rfl ?_
  refine V_cV s_Pm_found_24 (do_Se_answer c_Se x) c_Se rfl rfl (Nat.le_of_ble_eq_true rfl) ?_
  exact V_iret d_Pm_found_27 rfl rfl
/-- place -/
theorem pm_place_s (hNT : NoTr l) (c_Pm : h[0]? = some PmO) (c_Pl : h[5]? = some (PlO 12 sp)) : Do l G k_Pm_place [.ref 1] h (.inr h.length) (h ++ [exS]) := by
  refine Do.of (by decide) (Nat.le_of_ble_eq_true rfl) kw_Pm_place ?_
  refine V_aload_n d_Pm_place_0 rfl ?_
  refine V_gf g_Pm_place_1 c_Pm rfl ?_
  refine V_cV s_Pm_place_4 (do_Pl_number c_Pl) c_Pl rfl rfl (Nat.le_of_ble_eq_true rfl) ?_
  refine V_bipush (v := 12) d_Pm_place_7 (by decide) ?_
  refine V_icmp_ge (tgt := 16) d_Pm_place_9 (by decide) (fun _ => ?_) (fun c9 => absurd ((by decide : (12 : Int32) ≤ nI 12)) c9)
  refine V_iconst (v := 0) d_Pm_place_16 (by decide) ?_
  exact V_cSt s_Pm_place_17 (ndS_f hNT) rfl rfl (Nat.le_of_ble_eq_true rfl) rfl
theorem pm_place (c_Pm : h[0]? = some PmO) (c_Pl : h[5]? = some (PlO n sp)) (hn : n < 12) : Do l G k_Pm_place [.ref 1] h (ri (nI n)) (h.set 5 (PlO (n + 1) sp)) := by
  refine Do.of (by decide) (Nat.le_of_ble_eq_true rfl) kw_Pm_place ?_
  refine V_aload_n d_Pm_place_0 rfl ?_
  refine V_gf g_Pm_place_1 c_Pm rfl ?_
  refine V_cV s_Pm_place_4 (do_Pl_number c_Pl) c_Pl rfl rfl (Nat.le_of_ble_eq_true rfl) ?_
  refine V_bipush (v := 12) d_Pm_place_7 (by decide) ?_
  refine V_icmp_ge (tgt := 16) d_Pm_place_9 (by decide) (fun c9 => absurd c9 ((nI_ge (b := 12) hn (by decide) : ¬ (12 : Int32) ≤ nI n))) (fun _ => ?_)
  refine V_iconst (v := 1) d_Pm_place_12 (by decide) ?_
  refine V_goto (tgt := 17) d_Pm_place_13 (by decide) ?_
  refine V_cS s_Pm_place_17 ndS_t rfl rfl (Nat.le_of_ble_eq_true rfl) ?_
  refine V_aload_n d_Pm_place_20 rfl ?_
  refine V_gf g_Pm_place_21 c_Pm rfl ?_
  refine V_cV s_Pm_place_24 (do_Pl_add c_Pl) c_Pl rfl rfl (Nat.le_of_ble_eq_true rfl) ?_
  exact V_iret d_Pm_place_27 rfl rfl
end P26
