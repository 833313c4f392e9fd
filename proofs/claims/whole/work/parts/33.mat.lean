section P33
variable {l : Launch} {G : Gb} {h h0 h' : List Ce} {r : Rs} {th sx sy : Int32} {w ht sd pl ln : Nat} {md sh hi : Bool} {f mf mt : Nat → Int32}
/-- the photos of class and model -/
def Rv (w ht : Nat) (f mf : Nat → Int32) : Prop := ∀ p x y, p < 4 → x < w → y < ht → mf (400 * p + 20 * y + x) = f (px w ht p x y) ∧ ∃ i : Nat, i ≤ 255 ∧ f (px w ht p x y) = nI i
theorem mo_pixel_p (c_Mo : h[27]? = some (MoO th w ht sd md pl sh sx sy ln hi)) (p x y v : Int32) (A : Bool) (hA : A = (wiB p 0 3 && (wiB x 0 (nI w - 1) && wiB y 0 (nI ht - 1)))) (kk : V l G k_Mo_pixel h0 35 [(0, .ref 28), (1, .int p), (2, .int x), (3, .int y), (4, .int v)] [.int (bI (A && wiB v 0 255 && true))] (h.set 27 (MoO (nI (gc A (wiB v 0 255) true)) w ht sd md pl sh sx sy ln hi)) r h') : V l G k_Mo_pixel h0 0 [(0, .ref 28), (1, .int p), (2, .int x), (3, .int y), (4, .int v)] [] h r h' := by
  have mid : V l G k_Mo_pixel h0 22 [(0, .ref 28), (1, .int p), (2, .int x), (3, .int y), (4, .int v)] [.int (bI A), .ref 28] h r h' := by
    refine V_iload d_Mo_pixel_22 rfl ?_
    refine V_iconst (v := 0) d_Mo_pixel_24 (by decide) ?_
    refine V_sipush (v := 255) d_Mo_pixel_25 (by decide) ?_
    refine V_cS s_Mo_pixel_28 (mo_within v 0 255) rfl rfl (Nat.le_of_ble_eq_true rfl) ?_
    refine V_iconst (v := 1) d_Mo_pixel_31 (by decide) ?_
    refine V_cV s_Mo_pixel_32 (mo_goes c_Mo A (wiB v 0 255) true) c_Mo rfl rfl (Nat.le_of_ble_eq_true rfl) ?_
    exact kk
  refine V_aload_n d_Mo_pixel_0 rfl ?_
  refine V_iload_n d_Mo_pixel_1 rfl ?_
  refine V_cS s_Mo_pixel_2 (mo_isPhoto p) rfl rfl (Nat.le_of_ble_eq_true rfl) ?_
  refine V_if_eq (tgt := 21) d_Mo_pixel_5 (by decide) (fun c1 => ?_) (fun c1 => ?_)
  · rw [show A = false by rw [hA, (bI_0 _).mp c1]; rfl] at mid
    refine V_iconst (v := 0) d_Mo_pixel_21 (by decide) ?_
    exact mid
  · rw [show A = (wiB x 0 (nI w - 1) && wiB y 0 (nI ht - 1)) by rw [hA, (show wiB p 0 3 = true by simpa [bI_0] using c1), Bool.true_and]] at mid
    refine V_aload_n d_Mo_pixel_8 rfl ?_
    refine V_iload_n d_Mo_pixel_9 rfl ?_
    refine V_iload_n d_Mo_pixel_10 rfl ?_
    refine V_cV s_Mo_pixel_11 (mo_isCell c_Mo x y) c_Mo rfl rfl (Nat.le_of_ble_eq_true rfl) ?_
    refine V_if_eq (tgt := 21) d_Mo_pixel_14 (by decide) (fun c2 => ?_) (fun c2 => ?_)
    · rw [(bI_0 _).mp c2] at mid
      refine V_iconst (v := 0) d_Mo_pixel_21 (by decide) ?_
      exact mid
    · rw [show (wiB x 0 (nI w - 1) && wiB y 0 (nI ht - 1)) = true by simpa [bI_0] using c2] at mid
      refine V_iconst (v := 1) d_Mo_pixel_17 (by decide) ?_
      refine V_goto (tgt := 22) d_Mo_pixel_18 (by decide) ?_
      exact mid
theorem mo_pixel_e (c_Mo : h[27]? = some (MoO th w ht sd md pl sh sx sy ln hi)) (p x y v : Int32) (A : Bool) (hA : A = (wiB p 0 3 && (wiB x 0 (nI w - 1) && wiB y 0 (nI ht - 1)))) (hE : (A && wiB v 0 255 && true) = false) : Do l G k_Mo_pixel [.ref 28, .int p, .int x, .int y, .int v] h (ri 0) (h.set 27 (MoO (nI (gc A (wiB v 0 255) true)) w ht sd md pl sh sx sy ln hi)) := by
  refine Do.of (by decide) (Nat.le_of_ble_eq_true rfl) kw_Mo_pixel ?_
  refine mo_pixel_p c_Mo p x y v A hA ?_
  refine V_if_ne (tgt := 40) d_Mo_pixel_35 (by decide) (fun c9 => absurd (((bI_0 _).mpr hE)) c9) (fun _ => ?_)
  refine V_iconst (v := 0) d_Mo_pixel_38 (by decide) ?_
  exact V_iret d_Mo_pixel_39 rfl rfl
theorem mo_pixel (c_Mo : h[27]? = some (MoO th w ht sd md pl sh sx sy ln hi)) (a_Mo_values : h[28]? = some (IA 1600 mf)) (hw : w ≤ 20) (hht : ht ≤ 20) (p x y : Nat) (v : Int32) (hp : p < 4) (hx : x < w) (hy : y < ht) (hv : wiB v 0 255 = true) : Do l G k_Mo_pixel [.ref 28, .int (nI p), .int (nI x), .int (nI y), .int v] h (ri (mf (400 * p + 20 * y + x))) ((h.set 27 (MoO 0 w ht sd md pl sh sx sy ln hi)).set 28 (IA 1600 (upd mf (400 * p + 20 * y + x) v))) := by
  refine Do.of (by decide) (Nat.le_of_ble_eq_true rfl) kw_Mo_pixel ?_
  have e1 : wiB (nI p) 0 3 = true := wi_n (b := 3) (by omega) (by decide)
  have e2 : wiB (nI x) 0 (nI w - 1) = true := by rw [nIm1 (by omega)]; exact wi_n (by omega) (by omega)
  have e3 : wiB (nI y) 0 (nI ht - 1) = true := by rw [nIm1 (by omega)]; exact wi_n (by omega) (by omega)
  refine mo_pixel_p c_Mo (nI p) (nI x) (nI y) v true (by rw [e1, e2, e3]; rfl) ?_
  rw [hv]
  have hl : 27 < h.length := (List.getElem?_eq_some_iff.mp c_Mo).1
  have c_Mo' : (h.set 27 (MoO (nI (gc true true true)) w ht sd md pl sh sx sy ln hi))[27]? = some (MoO 0 w ht sd md pl sh sx sy ln hi) := List.getElem?_set_self hl
  have a_Mo_values' : (h.set 27 (MoO (nI (gc true true true)) w ht sd md pl sh sx sy ln hi))[28]? = some (IA 1600 mf) := by rw [List.getElem?_set_ne (by decide)]; exact a_Mo_values
  revert c_Mo' a_Mo_values'
  rw [show MoO 0 w ht sd md pl sh sx sy ln hi = MoO (nI (gc true true true)) w ht sd md pl sh sx sy ln hi from rfl]
  generalize h.set 27 (MoO (nI (gc true true true)) w ht sd md pl sh sx sy ln hi) = E
  intro c_Mo a_Mo_values
  refine V_if_ne (tgt := 40) d_Mo_pixel_35 (by decide) (fun _ => ?_) (fun c9 => absurd (c9 : _) ((by decide : ¬ bI (true && true && true) = 0)))
  refine V_aload_n d_Mo_pixel_40 rfl ?_
  refine V_iload_n d_Mo_pixel_41 rfl ?_
  refine V_iload_n d_Mo_pixel_42 rfl ?_
  refine V_iload_n d_Mo_pixel_43 rfl ?_
  refine V_cV s_Mo_pixel_44 (mo_valueOf c_Mo a_Mo_values hp (by omega) (by omega)) c_Mo rfl rfl (Nat.le_of_ble_eq_true rfl) ?_
  refine V_istore d_Mo_pixel_47 (by decide) rfl ?_
  refine V_aload_n d_Mo_pixel_49 rfl ?_
  refine V_gf g_Mo_pixel_50 c_Mo rfl ?_
  refine V_sipush (v := 400) d_Mo_pixel_53 (by decide) ?_
  refine V_iload_n d_Mo_pixel_56 rfl ?_
  refine V_imul d_Mo_pixel_57 ?_
  refine V_bipush (v := 20) d_Mo_pixel_58 (by decide) ?_
  refine V_iload_n d_Mo_pixel_60 rfl ?_
  refine V_imul d_Mo_pixel_61 ?_
  refine V_iadd d_Mo_pixel_62 ?_
  refine V_iload_n d_Mo_pixel_63 rfl ?_
  refine V_iadd d_Mo_pixel_64 ?_
  refine V_iload d_Mo_pixel_65 rfl ?_
  refine V_iastN d_Mo_pixel_67 a_Mo_values (ix400 hp (show x < 20 by omega) (show y < 20 by omega)) ?_
  refine V_iload d_Mo_pixel_68 rfl ?_
  exact V_iret d_Mo_pixel_70 rfl rfl
/-- the model's miss: cell k of the windows -/
def mmS (mf : Nat → Int32) (a x y b u v k : Nat) (t : Int32) : Int32 := t + sqd (mf (400 * a + 20 * (y - 1 + k / 3) + (x - 1 + k % 3))) (mf (400 * b + 20 * (v - 1 + k / 3) + (u - 1 + k % 3)))
theorem mm_wmiss (hR : Rv w ht f mf) {a x y b u v : Nat} (ha : a < 4) (hb : b < 4) (hx : 1 ≤ x ∧ x + 1 < w) (hy : 1 ≤ y ∧ y + 1 < ht) (hu : 1 ≤ u ∧ u + 1 < w) (hv : 1 ≤ v ∧ v + 1 < ht) : fori (mmS mf a x y b u v) 9 0 0 = wmiss f w ht a x y b u v := by
  have eM : ∀ (c x y d e : Nat), c < 4 → (1 ≤ x ∧ x + 1 < w) → (1 ≤ y ∧ y + 1 < ht) → d < 3 → e < 3 → mf (400 * c + 20 * (y - 1 + d) + (x - 1 + e)) = f (px w ht c x (y - 1 + d) - 1 + e) := by
    intro c x y d e hc hx hy hd he
    rw [(hR c (x - 1 + e) (y - 1 + d) hc (by omega) (by omega)).1]
    congr 1
    unfold px
    omega
  show mmS mf a x y b u v 8 (mmS mf a x y b u v 7 (mmS mf a x y b u v 6 (mmS mf a x y b u v 5 (mmS mf a x y b u v 4 (mmS mf a x y b u v 3 (mmS mf a x y b u v 2 (mmS mf a x y b u v 1 (mmS mf a x y b u v 0 0)))))))) = _
  have s : ∀ (d e : Nat) (t : Int32), d < 3 → e < 3 → mmS mf a x y b u v (d * 3 + e) t = t + sqd (f (px w ht a x (y - 1 + d) - 1 + e)) (f (px w ht b u (v - 1 + d) - 1 + e)) := by
    intro d e t hd he
    unfold mmS
    rw [show (d * 3 + e) / 3 = d by omega, show (d * 3 + e) % 3 = e by omega]
    rw [eM a x y d e ha hx hy hd he, eM b u v d e hb hu hv hd he]
  rw [s 0 0 _ (by decide) (by decide), s 0 1 _ (by decide) (by decide), s 0 2 _ (by decide) (by decide), s 1 0 _ (by decide) (by decide), s 1 1 _ (by decide) (by decide), s 1 2 _ (by decide) (by decide), s 2 0 _ (by decide) (by decide), s 2 1 _ (by decide) (by decide), s 2 2 _ (by decide) (by decide)]
  rfl
theorem mo_missOf (c_Mo : h[27]? = some (MoO th w ht sd md pl sh sx sy ln hi)) (a_Mo_values : h[28]? = some (IA 1600 mf)) (hR : Rv w ht f mf) (hw : w ≤ 20) (hht : ht ≤ 20) (a b x y u v : Nat) (ha : a < 4) (hb : b < 4) (hx : 1 ≤ x ∧ x + 1 < w) (hy : 1 ≤ y ∧ y + 1 < ht) (hu : 1 ≤ u ∧ u + 1 < w) (hv : 1 ≤ v ∧ v + 1 < ht) : Do l G k_Mo_missOf [.ref 28, .int (nI a), .int (nI b), .int (nI x), .int (nI y), .int (nI u), .int (nI v)] h (ri (wmiss f w ht a x y b u v)) h := by
  refine Do.of (by decide) (Nat.le_of_ble_eq_true rfl) kw_Mo_missOf ?_
  rw [← mm_wmiss hR ha hb hx hy hu hv]
  have loop : ∀ (n k : Nat) (t : Int32), k + n = 9 → fori (mmS mf a x y b u v) 9 0 0 = fori (mmS mf a x y b u v) n k t → V l G k_Mo_missOf h 6 [(0, .ref 28), (1, .int (nI a)), (2, .int (nI b)), (3, .int (nI x)), (4, .int (nI y)), (5, .int (nI u)), (6, .int (nI v)), (7, .int t), (8, .int (nI k))] [] h (ri (fori (mmS mf a x y b u v) 9 0 0)) h := by
    intro n
    induction n with
    | zero =>
      intro k t hk e
      obtain rfl : k = 9 := by omega
      rw [e]
      refine V_iload d_Mo_missOf_6 rfl ?_
      refine V_bipush (v := 9) d_Mo_missOf_8 (by decide) ?_
      refine V_icmp_ge (tgt := 77) d_Mo_missOf_10 (by decide) (fun _ => ?_) (fun c9 => absurd ((by decide : (9 : Int32) ≤ nI 9)) c9)
      refine V_iload d_Mo_missOf_77 rfl ?_
      exact V_iret d_Mo_missOf_79 rfl rfl
    | succ n ih =>
      intro k t hk e
      rw [fori_s] at e
      have e1 : ∀ z : Nat, 1 ≤ z → nI z - 1 + (nI k - nI k / 3 * 3) = nI (z - 1 + k % 3) := by
        intro z hz
        rw [nIm1 hz, show (3 : Int32) = nI 3 from rfl, pk_rem (by omega) (by decide) (by decide), nI_add]
      have e2 : ∀ z : Nat, 1 ≤ z → nI z - 1 + nI k / 3 = nI (z - 1 + k / 3) := by
        intro z hz
        rw [nIm1 hz, show (3 : Int32) = nI 3 from rfl, pk_div (by omega) (by decide) (by decide), nI_add]
      refine V_iload d_Mo_missOf_6 rfl ?_
      refine V_bipush (v := 9) d_Mo_missOf_8 (by decide) ?_
      refine V_icmp_ge (tgt := 77) d_Mo_missOf_10 (by decide) (fun c9 => absurd c9 ((nI_ge (b := 9) (by omega) (by decide) : ¬ (9 : Int32) ≤ nI k))) (fun _ => ?_)
      refine V_aload_n d_Mo_missOf_13 rfl ?_
      refine V_iload_n d_Mo_missOf_14 rfl ?_
      refine V_iload_n d_Mo_missOf_15 rfl ?_
      refine V_iconst (v := 1) d_Mo_missOf_16 (by decide) ?_
      refine V_isub d_Mo_missOf_17 ?_
      refine V_iload d_Mo_missOf_18 rfl ?_
      refine V_iconst (v := 3) d_Mo_missOf_20 (by decide) ?_
      refine V_irem d_Mo_missOf_21 (by decide) ?_
      refine V_iadd d_Mo_missOf_22 ?_
      refine V_iload d_Mo_missOf_23 rfl ?_
      refine V_iconst (v := 1) d_Mo_missOf_25 (by decide) ?_
      refine V_isub d_Mo_missOf_26 ?_
      refine V_iload d_Mo_missOf_27 rfl ?_
      refine V_iconst (v := 3) d_Mo_missOf_29 (by decide) ?_
      refine V_idiv d_Mo_missOf_30 (by decide) ?_
      refine V_iadd d_Mo_missOf_31 ?_
      rw [e1 x hx.1, e2 y hy.1]
      refine V_cV s_Mo_missOf_32 (mo_valueOf c_Mo a_Mo_values ha (show x - 1 + k % 3 < 20 by omega) (show y - 1 + k / 3 < 20 by omega)) c_Mo rfl rfl (Nat.le_of_ble_eq_true rfl) ?_
      refine V_aload_n d_Mo_missOf_35 rfl ?_
      refine V_iload_n d_Mo_missOf_36 rfl ?_
      refine V_iload d_Mo_missOf_37 rfl ?_
      refine V_iconst (v := 1) d_Mo_missOf_39 (by decide) ?_
      refine V_isub d_Mo_missOf_40 ?_
      refine V_iload d_Mo_missOf_41 rfl ?_
      refine V_iconst (v := 3) d_Mo_missOf_43 (by decide) ?_
      refine V_irem d_Mo_missOf_44 (by decide) ?_
      refine V_iadd d_Mo_missOf_45 ?_
      refine V_iload d_Mo_missOf_46 rfl ?_
      refine V_iconst (v := 1) d_Mo_missOf_48 (by decide) ?_
      refine V_isub d_Mo_missOf_49 ?_
      refine V_iload d_Mo_missOf_50 rfl ?_
      refine V_iconst (v := 3) d_Mo_missOf_52 (by decide) ?_
      refine V_idiv d_Mo_missOf_53 (by decide) ?_
      refine V_iadd d_Mo_missOf_54 ?_
      rw [e1 u hu.1, e2 v hv.1]
      refine V_cV s_Mo_missOf_55 (mo_valueOf c_Mo a_Mo_values hb (show u - 1 + k % 3 < 20 by omega) (show v - 1 + k / 3 < 20 by omega)) c_Mo rfl rfl (Nat.le_of_ble_eq_true rfl) ?_
      refine V_isub d_Mo_missOf_58 ?_
      refine V_istore d_Mo_missOf_59 (by decide) rfl ?_
      refine V_iload d_Mo_missOf_61 rfl ?_
      refine V_iload d_Mo_missOf_63 rfl ?_
      refine V_iload d_Mo_missOf_65 rfl ?_
      refine V_imul d_Mo_missOf_67 ?_
      refine V_iadd d_Mo_missOf_68 ?_
      refine V_istore d_Mo_missOf_69 (by decide) rfl ?_
      refine V_iinc1 d_Mo_missOf_71 rfl (by decide) rfl ?_
      refine V_goto (tgt := 6) d_Mo_missOf_74 (by decide) ?_
      rw [nI_1]
      refine V_keep [0, 1, 2, 3, 4, 5, 6, 7, 8] ?_
      exact ih (k + 1) _ (by omega) e
  refine V_iconst (v := 0) d_Mo_missOf_0 (by decide) ?_
  refine V_istore d_Mo_missOf_1 (by decide) rfl ?_
  refine V_iconst (v := 0) d_Mo_missOf_3 (by decide) ?_
  refine V_istore d_Mo_missOf_4 (by decide) rfl ?_
  exact loop 9 0 0 (by omega) rfl
end P33
