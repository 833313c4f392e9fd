section P14
variable {l : Launch} {G : Gb} {h : List Ce} {w ht : Nat} {dn : Bool} {le : Int32} {f : Nat → Int32}
abbrev Lk : Type := Int32 × Int32 × Int32 × (Nat → Int32)
/-- one cell of the first search: least, its x and y, all misses -/
def lookS (M : Nat → Nat → Int32) (w y x : Nat) (s : Lk) : Lk := if lsB (M x y) s.1 = true then (M x y, nI x, nI y, upd s.2.2.2 (y * w + x) (M x y)) else (s.1, s.2.1, s.2.2.1, upd s.2.2.2 (y * w + x) (M x y))
def lookR (M : Nat → Nat → Int32) (w ht : Nat) (s : Lk) : Lk := fori (fun y s => fori (fun x s => lookS M w y x s) (w - 2) 1 s) (ht - 2) 1 s
abbrev lkH (h : List Ce) (w ht : Nat) (f : Nat → Int32) (dn : Bool) (le : Int32) (s : Lk) : List Ce := hS h [(1, PhO w ht), (2, IA (4 * ht * w) f), (3, SeO w ht dn s.2.1 s.2.2.1 le), (4, IA (w * ht) s.2.2.2)]
theorem do_Se_look (hL : 27 ≤ h.length) (hw : 6 ≤ w ∧ w ≤ 20) (hht : 6 ≤ ht ∧ ht ≤ 20) (a b x y : Nat) (ha : a < 4) (hb : b < 4) (hx : 1 ≤ x ∧ x + 1 < w) (hy : 1 ≤ y ∧ y + 1 < ht) (fx fy : Int32) (ms : Nat → Int32) (S : Lk) (hS9 : S = lookR (fun u v => wmiss f w ht a x y b u v) w ht (-1, fx, fy, ms)) : Do l G k_Se_look [.ref 4, .ref 2, .int (nI a), .int (nI b), .int (nI x), .int (nI y)] (lkH h w ht f dn le (0, fx, fy, ms)) (ri S.1) (lkH h w ht f true (lfR S.2.2.2 w ht S.2.1 S.2.2.1) S) := by
  refine Do.of (by decide) (Nat.le_of_ble_eq_true rfl) kw_Se_look ?_
  have hN : w * ht < 2 ^ 31 := by
    have : w * ht ≤ 20 * 20 := Nat.mul_le_mul hw.2 hht.2
    omega
  generalize hH0 : lkH h w ht f dn le (0, fx, fy, ms) = H0
  have inner : ∀ (v : Nat), 1 ≤ v → v + 1 < ht → ∀ (n u : Nat) (s : Lk), 1 ≤ u → u + n = w - 1 → V l G k_Se_look H0 96 [(0, .ref 4), (1, .ref 2), (2, .int (nI a)), (3, .int (nI b)), (4, .int (nI x)), (5, .int (nI y)), (6, .int (fori (fun u s => lookS (fun u v => wmiss f w ht a x y b u v) w v u s) n u s).1), (7, .int (nI v))] [] (lkH h w ht f dn le (fori (fun u s => lookS (fun u v => wmiss f w ht a x y b u v) w v u s) n u s)) (ri S.1) (lkH h w ht f true (lfR S.2.2.2 w ht S.2.1 S.2.2.1) S) → V l G k_Se_look H0 20 [(0, .ref 4), (1, .ref 2), (2, .int (nI a)), (3, .int (nI b)), (4, .int (nI x)), (5, .int (nI y)), (6, .int s.1), (7, .int (nI v)), (8, .int (nI u))] [] (lkH h w ht f dn le s) (ri S.1) (lkH h w ht f true (lfR S.2.2.2 w ht S.2.1 S.2.2.1) S) := by
    intro v hv1 hv2 n
    induction n with
    | zero =>
      intro u s hu e kk
      refine V_iload d_Se_look_20 rfl ?_
      refine V_aload_n d_Se_look_22 rfl ?_
      refine V_gf g_Se_look_23 (rd hL rfl rfl) rfl ?_
      refine V_iconst (v := 1) d_Se_look_26 (by decide) ?_
      refine V_isub d_Se_look_27 ?_
      rw [nIm1 (by omega)]
      refine V_icmp_ge (tgt := 96) d_Se_look_28 (by decide) (fun _ => ?_) (fun c9 => absurd ((nI_le (by omega) (by omega) : nI (w - 1) ≤ nI u)) c9)
      exact V_keep [0, 1, 2, 3, 4, 5, 6, 7] kk
    | succ n ih =>
      intro u s hu e kk
      have hlt : v * w + u < w * ht := by
        have h1 : (v + 1) * w ≤ ht * w := Nat.mul_le_mul_right _ (by omega)
        have h2 : (v + 1) * w = v * w + w := by rw [Nat.add_mul, Nat.one_mul]
        have h3 : ht * w = w * ht := Nat.mul_comm _ _
        omega
      refine V_iload d_Se_look_20 rfl ?_
      refine V_aload_n d_Se_look_22 rfl ?_
      refine V_gf g_Se_look_23 (rd hL rfl rfl) rfl ?_
      refine V_iconst (v := 1) d_Se_look_26 (by decide) ?_
      refine V_isub d_Se_look_27 ?_
      rw [nIm1 (by omega)]
      refine V_icmp_ge (tgt := 96) d_Se_look_28 (by decide) (fun c9 => absurd c9 ((nI_ge (by omega) (by omega) : ¬ nI (w - 1) ≤ nI u))) (fun _ => ?_)
      refine V_aload_n d_Se_look_31 rfl ?_
      refine V_iload_n d_Se_look_32 rfl ?_
      refine V_iload d_Se_look_33 rfl ?_
      refine V_iload d_Se_look_35 rfl ?_
      refine V_iload_n d_Se_look_37 rfl ?_
      refine V_iload d_Se_look_38 rfl ?_
      refine V_iload d_Se_look_40 rfl ?_
      refine V_cV s_Se_look_42 (do_Ph_windowMiss (rd hL rfl rfl) (rd hL rfl rfl) hw.2 hht.2 a x y b u v ha hb hx hy ⟨hu, by omega⟩ ⟨hv1, by omega⟩) (rd hL rfl rfl) rfl rfl (Nat.le_of_ble_eq_true rfl) ?_
      refine V_istore d_Se_look_45 (by decide) rfl ?_
      refine V_aload_n d_Se_look_47 rfl ?_
      refine V_gf g_Se_look_48 (rd hL rfl rfl) rfl ?_
      refine V_iload d_Se_look_51 rfl ?_
      refine V_aload_n d_Se_look_53 rfl ?_
      refine V_gf g_Se_look_54 (rd hL rfl rfl) rfl ?_
      refine V_imul d_Se_look_57 ?_
      refine V_iload d_Se_look_58 rfl ?_
      refine V_iadd d_Se_look_60 ?_
      refine V_iload d_Se_look_61 rfl ?_
      refine V_iastN d_Se_look_63 (rd hL rfl rfl) (⟨by rw [pk_mul, nI_add], hlt, hN⟩) ?_
      refine V_hS rfl ?_
      refine V_iload d_Se_look_64 rfl ?_
      refine V_iload d_Se_look_66 rfl ?_
      refine V_cS s_Se_look_68 (do_Se_isLess (wmiss f w ht a x y b u v) s.1) rfl rfl (Nat.le_of_ble_eq_true rfl) ?_
      refine V_if_eq (tgt := 90) d_Se_look_71 (by decide) (fun c1 => ?_) (fun c1 => ?_)
      · have es : lookS (fun u v => wmiss f w ht a x y b u v) w v u s = (s.1, s.2.1, s.2.2.1, upd s.2.2.2 (v * w + u) (wmiss f w ht a x y b u v)) := by
          unfold lookS
          rw [if_neg (by rw [(bI_0 _).mp c1]; exact Bool.false_ne_true)]
        refine V_iinc1 d_Se_look_90 rfl (by decide) rfl ?_
        refine V_goto (tgt := 20) d_Se_look_93 (by decide) ?_
        rw [nI_1]
        refine V_keep [0, 1, 2, 3, 4, 5, 6, 7, 8] ?_
        refine ih (u + 1) (s.1, s.2.1, s.2.2.1, upd s.2.2.2 (v * w + u) (wmiss f w ht a x y b u v)) (by omega) (by omega) ?_
        rw [← es]
        exact kk
      · have es : lookS (fun u v => wmiss f w ht a x y b u v) w v u s = (wmiss f w ht a x y b u v, nI u, nI v, upd s.2.2.2 (v * w + u) (wmiss f w ht a x y b u v)) := by
          unfold lookS
          rw [if_pos (by simpa [bI_0] using c1)]
        refine V_iload d_Se_look_74 rfl ?_
        refine V_istore d_Se_look_76 (by decide) rfl ?_
        refine V_aload_n d_Se_look_78 rfl ?_
        refine V_iload d_Se_look_79 rfl ?_
        refine V_pf p_Se_look_81 (rd hL rfl rfl) (Nat.le_of_ble_eq_true rfl) rfl rfl ?_
        refine V_hS rfl ?_
        refine V_aload_n d_Se_look_84 rfl ?_
        refine V_iload d_Se_look_85 rfl ?_
        refine V_pf p_Se_look_87 (rd hL rfl rfl) (Nat.le_of_ble_eq_true rfl) rfl rfl ?_
        refine V_hS rfl ?_
        refine V_iinc1 d_Se_look_90 rfl (by decide) rfl ?_
        refine V_goto (tgt := 20) d_Se_look_93 (by decide) ?_
        rw [nI_1]
        refine V_keep [0, 1, 2, 3, 4, 5, 6, 7, 8] ?_
        refine ih (u + 1) (wmiss f w ht a x y b u v, nI u, nI v, upd s.2.2.2 (v * w + u) (wmiss f w ht a x y b u v)) (by omega) (by omega) ?_
        rw [← es]
        exact kk
  have outer : ∀ (n v : Nat) (s : Lk), 1 ≤ v → v + n = ht - 1 → S = fori (fun y9 s => fori (fun x9 s => lookS (fun u v => wmiss f w ht a x y b u v) w y9 x9 s) (w - 2) 1 s) n v s → V l G k_Se_look H0 6 [(0, .ref 4), (1, .ref 2), (2, .int (nI a)), (3, .int (nI b)), (4, .int (nI x)), (5, .int (nI y)), (6, .int s.1), (7, .int (nI v))] [] (lkH h w ht f dn le s) (ri S.1) (lkH h w ht f true (lfR S.2.2.2 w ht S.2.1 S.2.2.1) S) := by
    intro n
    induction n with
    | zero =>
      intro v s hv e e2
      rw [show S = s from e2]
      refine V_iload d_Se_look_6 rfl ?_
      refine V_aload_n d_Se_look_8 rfl ?_
      refine V_gf g_Se_look_9 (rd hL rfl rfl) rfl ?_
      refine V_iconst (v := 1) d_Se_look_12 (by decide) ?_
      refine V_isub d_Se_look_13 ?_
      rw [nIm1 (by omega)]
      refine V_icmp_ge (tgt := 102) d_Se_look_14 (by decide) (fun _ => ?_) (fun c9 => absurd ((nI_le (by omega) (by omega) : nI (ht - 1) ≤ nI v)) c9)
      refine V_aload_n d_Se_look_102 rfl ?_
      refine V_aload_n d_Se_look_103 rfl ?_
      refine V_cV s_Se_look_104 (do_Se_lf (rd hL rfl rfl) (rd hL rfl rfl) hw hht) (rd hL rfl rfl) rfl rfl (Nat.le_of_ble_eq_true rfl) ?_
      refine V_pf p_Se_look_107 (rd hL rfl rfl) (Nat.le_of_ble_eq_true rfl) rfl rfl ?_
      refine V_hS rfl ?_
      refine V_aload_n d_Se_look_110 rfl ?_
      refine V_iconst (v := 1) d_Se_look_111 (by decide) ?_
      refine V_pf p_Se_look_112 (rd hL rfl rfl) (Nat.le_of_ble_eq_true rfl) rfl rfl ?_
      refine V_hS rfl ?_
      refine V_iload d_Se_look_115 rfl ?_
      exact V_iret d_Se_look_117 rfl rfl
    | succ n ih =>
      intro v s hv e e2
      refine V_iload d_Se_look_6 rfl ?_
      refine V_aload_n d_Se_look_8 rfl ?_
      refine V_gf g_Se_look_9 (rd hL rfl rfl) rfl ?_
      refine V_iconst (v := 1) d_Se_look_12 (by decide) ?_
      refine V_isub d_Se_look_13 ?_
      rw [nIm1 (by omega)]
      refine V_icmp_ge (tgt := 102) d_Se_look_14 (by decide) (fun c9 => absurd c9 ((nI_ge (by omega) (by omega) : ¬ nI (ht - 1) ≤ nI v))) (fun _ => ?_)
      refine V_iconst (v := 1) d_Se_look_17 (by decide) ?_
      refine V_istore d_Se_look_18 (by decide) rfl ?_
      refine inner v hv (by omega) (w - 2) 1 s (by omega) (by omega) ?_
      refine V_iinc1 d_Se_look_96 rfl (by decide) rfl ?_
      refine V_goto (tgt := 6) d_Se_look_99 (by decide) ?_
      rw [nI_1]
      exact ih (v + 1) _ (by omega) (by omega) e2
  refine V_iconst (v := (-1)) d_Se_look_0 (by decide) ?_
  refine V_istore d_Se_look_1 (by decide) rfl ?_
  refine V_iconst (v := 1) d_Se_look_3 (by decide) ?_
  refine V_istore d_Se_look_4 (by decide) rfl ?_
  rw [← hH0]
  rw [← hH0] at outer
  exact outer (ht - 2) 1 (-1, fx, fy, ms) (by omega) (by omega) hS9
end P14
