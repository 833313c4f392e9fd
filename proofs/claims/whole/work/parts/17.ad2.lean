section P17
variable {l : Launch} {G : Gb} {h : List Ce} {n : Nat} {sp : Int32} {As Bn : Nat → Bool} {wh P O PB OB : Nat → Int32}
abbrev Ac : Type := Int64 × Nat
/-- a photo's mean: one place -/
def mpS (As Bn : Nat → Bool) (wh P : Nat → Int32) (q x p : Nat) (s : Ac) : Ac := if !As p && Bn (p * 4 + q) then (s.1 + (1000 * (wh ((p * 4 + q) * 2 + x)).toInt64 - (P (p * 2 + x)).toInt64), s.2 + 1) else s
def mpR (As Bn : Nat → Bool) (wh P O : Nat → Int32) (n q x : Nat) : Nat → Int32 := upd O (q * 2 + x) (meanR (fori (mpS As Bn wh P q x) n 0 (0, 0)).1 (fori (mpS As Bn wh P q x) n 0 (0, 0)).2 (O (q * 2 + x)))
theorem do_Ad_movePhoto (hL : 27 ≤ h.length) (hn : n ≤ 12) (q x : Nat) (hq : q < 4) (hx : x < 2) : Do l G k_Ad_movePhoto [.ref 13, .ref 6, .int (nI q), .int (nI x)] (adH h n sp As Bn wh P O PB OB) rv (adH h n sp As Bn wh P (mpR As Bn wh P O n q x) PB OB) := by
  refine Do.of (by decide) (Nat.le_of_ble_eq_true rfl) kw_Ad_movePhoto ?_
  have loop : ∀ (H0 : List Ce) (m p : Nat) (s : Ac), p + m = n → s.2 ≤ p → fori (mpS As Bn wh P q x) n 0 (0, 0) = fori (mpS As Bn wh P q x) m p s → V l G k_Ad_movePhoto H0 9 [(0, .ref 13), (1, .ref 6), (2, .int (nI q)), (3, .int (nI x)), (4, .long s.1), (6, .int (nI s.2)), (7, .int (nI p))] [] (adH h n sp As Bn wh P O PB OB) rv (adH h n sp As Bn wh P (mpR As Bn wh P O n q x) PB OB) := by
    intro H0 m
    induction m with
    | zero =>
      intro p s hp hs e
      obtain rfl : p = n := by omega
      rw [mpR, show fori (mpS As Bn wh P q x) p 0 (0, 0) = s from e]
      refine V_iload d_Ad_movePhoto_9 rfl ?_
      refine V_aload_n d_Ad_movePhoto_11 rfl ?_
      refine V_cV s_Ad_movePhoto_12 (do_Pl_number (rd hL rfl rfl)) (rd hL rfl rfl) rfl rfl (Nat.le_of_ble_eq_true rfl) ?_
      refine V_icmp_ge (tgt := 73) d_Ad_movePhoto_15 (by decide) (fun _ => ?_) (fun c9 => absurd ((nI_le (Nat.le_refl _) (by omega))) c9)
      refine V_aload_n d_Ad_movePhoto_73 rfl ?_
      refine V_gf g_Ad_movePhoto_74 (rd hL rfl rfl) rfl ?_
      refine V_iload_n d_Ad_movePhoto_77 rfl ?_
      refine V_iconst (v := 2) d_Ad_movePhoto_78 (by decide) ?_
      refine V_imul d_Ad_movePhoto_79 ?_
      refine V_iload_n d_Ad_movePhoto_80 rfl ?_
      refine V_iadd d_Ad_movePhoto_81 ?_
      refine V_lload d_Ad_movePhoto_82 rfl ?_
      refine V_iload d_Ad_movePhoto_84 rfl ?_
      refine V_aload_n d_Ad_movePhoto_86 rfl ?_
      refine V_iload_n d_Ad_movePhoto_87 rfl ?_
      refine V_iload_n d_Ad_movePhoto_88 rfl ?_
      refine V_cV s_Ad_movePhoto_89 (do_Ad_moved (rd hL rfl rfl) (rd hL rfl rfl) q x hq hx) (rd hL rfl rfl) rfl rfl (Nat.le_of_ble_eq_true rfl) ?_
      refine V_cS s_Ad_movePhoto_92 (do_Ad_mean s.1 s.2 (by omega) (O (q * 2 + x))) rfl rfl (Nat.le_of_ble_eq_true rfl) ?_
      refine V_iastN d_Ad_movePhoto_95 (rd hL rfl rfl) (⟨by rw [show (2 : Int32) = nI 2 from rfl, pk_mul, nI_add], by omega, by decide⟩) ?_
      refine V_hS rfl ?_
      exact V_vret d_Ad_movePhoto_96 rfl
    | succ m ih =>
      intro p s hp hs e
      have next : ∀ s' : Ac, s' = mpS As Bn wh P q x p s → s'.2 ≤ p + 1 → V l G k_Ad_movePhoto H0 67 [(0, .ref 13), (1, .ref 6), (2, .int (nI q)), (3, .int (nI x)), (4, .long s'.1), (6, .int (nI s'.2)), (7, .int (nI p))] [] (adH h n sp As Bn wh P O PB OB) rv (adH h n sp As Bn wh P (mpR As Bn wh P O n q x) PB OB) := by
        intro s' e' h'
        refine V_iinc1 d_Ad_movePhoto_67 rfl (by decide) rfl ?_
        refine V_goto (tgt := 9) d_Ad_movePhoto_70 (by decide) ?_
        rw [nI_1]
        exact ih (p + 1) s' (by omega) h' (by rw [e']; exact e)
      refine V_iload d_Ad_movePhoto_9 rfl ?_
      refine V_aload_n d_Ad_movePhoto_11 rfl ?_
      refine V_cV s_Ad_movePhoto_12 (do_Pl_number (rd hL rfl rfl)) (rd hL rfl rfl) rfl rfl (Nat.le_of_ble_eq_true rfl) ?_
      refine V_icmp_ge (tgt := 73) d_Ad_movePhoto_15 (by decide) (fun c9 => absurd c9 ((nI_ge (by omega) (by omega) : ¬ nI n ≤ nI p))) (fun _ => ?_)
      refine V_aload_n d_Ad_movePhoto_18 rfl ?_
      refine V_iload d_Ad_movePhoto_19 rfl ?_
      refine V_cV s_Ad_movePhoto_21 (do_Pl_isSpare (rd hL rfl rfl) (rd hL rfl rfl) (show p < 12 by omega)) (rd hL rfl rfl) rfl rfl (Nat.le_of_ble_eq_true rfl) ?_
      refine V_if_ne (tgt := 67) d_Ad_movePhoto_24 (by decide) (fun c1 => ?_) (fun c1 => ?_)
      · have c1' : As p = true := by simpa [bI_0] using c1
        exact next s (by simp [mpS, c1']) (by omega)
      · refine V_aload_n d_Ad_movePhoto_27 rfl ?_
        refine V_iload d_Ad_movePhoto_28 rfl ?_
        refine V_iload_n d_Ad_movePhoto_30 rfl ?_
        refine V_cV s_Ad_movePhoto_31 (do_Pl_isNoted (rd hL rfl rfl) (rd hL rfl rfl) (show p < 12 by omega) hq) (rd hL rfl rfl) rfl rfl (Nat.le_of_ble_eq_true rfl) ?_
        refine V_if_eq (tgt := 67) d_Ad_movePhoto_34 (by decide) (fun c2 => ?_) (fun c2 => ?_)
        · exact next s (by simp [mpS, (bI_0 _).mp c2]) (by omega)
        · have c2' : Bn (p * 4 + q) = true := by simpa [bI_0] using c2
          refine V_lload d_Ad_movePhoto_37 rfl ?_
          refine V_ldc2 d_Ad_movePhoto_39 c_Ad_movePhoto_39 ?_
          refine V_aload_n d_Ad_movePhoto_42 rfl ?_
          refine V_iload d_Ad_movePhoto_43 rfl ?_
          refine V_iload_n d_Ad_movePhoto_45 rfl ?_
          refine V_iload_n d_Ad_movePhoto_46 rfl ?_
          refine V_cV s_Ad_movePhoto_47 (do_Pl_where (rd hL rfl rfl) (rd hL rfl rfl) (show p < 12 by omega) hq hx) (rd hL rfl rfl) rfl rfl (Nat.le_of_ble_eq_true rfl) ?_
          refine V_i2l d_Ad_movePhoto_50 ?_
          refine V_lmul d_Ad_movePhoto_51 ?_
          refine V_aload_n d_Ad_movePhoto_52 rfl ?_
          refine V_iload d_Ad_movePhoto_53 rfl ?_
          refine V_iload_n d_Ad_movePhoto_55 rfl ?_
          refine V_cV s_Ad_movePhoto_56 (do_Ad_position (rd hL rfl rfl) (rd hL rfl rfl) p x (by omega) hx) (rd hL rfl rfl) rfl rfl (Nat.le_of_ble_eq_true rfl) ?_
          refine V_i2l d_Ad_movePhoto_59 ?_
          refine V_lsub d_Ad_movePhoto_60 ?_
          refine V_ladd d_Ad_movePhoto_61 ?_
          refine V_lstore d_Ad_movePhoto_62 (by decide) rfl ?_
          refine V_iinc1 d_Ad_movePhoto_64 rfl (by decide) rfl ?_
          rw [nI_1]
          exact next (s.1 + (1000 * (wh ((p * 4 + q) * 2 + x)).toInt64 - (P (p * 2 + x)).toInt64), s.2 + 1) (by simp [mpS, (bI_0 _).mp c1, c2']) (by show s.2 + 1 ≤ p + 1; omega)
  refine V_lconst (v := 0) d_Ad_movePhoto_0 (by decide) ?_
  refine V_lstore d_Ad_movePhoto_1 (by decide) rfl ?_
  refine V_iconst (v := 0) d_Ad_movePhoto_3 (by decide) ?_
  refine V_istore d_Ad_movePhoto_4 (by decide) rfl ?_
  refine V_iconst (v := 0) d_Ad_movePhoto_6 (by decide) ?_
  refine V_istore d_Ad_movePhoto_7 (by decide) rfl ?_
  exact loop _ n 0 (0, 0) (by omega) (Nat.le_refl _) rfl
/-- a place's mean: one photo -/
def plS (Bn : Nat → Bool) (wh O : Nat → Int32) (p x q : Nat) (s : Ac) : Ac := if Bn (p * 4 + q) then (s.1 + (1000 * (wh ((p * 4 + q) * 2 + x)).toInt64 - (O (q * 2 + x)).toInt64), s.2 + 1) else s
def plR (Bn : Nat → Bool) (wh O : Nat → Int32) (p x : Nat) (P : Nat → Int32) : Nat → Int32 := upd P (p * 2 + x) (meanR (fori (plS Bn wh O p x) 4 0 (0, 0)).1 (fori (plS Bn wh O p x) 4 0 (0, 0)).2 0)
theorem do_Ad_movePlace (hL : 27 ≤ h.length) (p x : Nat) (hp : p < 12) (hx : x < 2) : Do l G k_Ad_movePlace [.ref 13, .ref 6, .int (nI p), .int (nI x)] (adH h n sp As Bn wh P O PB OB) rv (adH h n sp As Bn wh (plR Bn wh O p x P) O PB OB) := by
  refine Do.of (by decide) (Nat.le_of_ble_eq_true rfl) kw_Ad_movePlace ?_
  have loop : ∀ (H0 : List Ce) (m q : Nat) (s : Ac), q + m = 4 → s.2 ≤ q → fori (plS Bn wh O p x) 4 0 (0, 0) = fori (plS Bn wh O p x) m q s → V l G k_Ad_movePlace H0 9 [(0, .ref 13), (1, .ref 6), (2, .int (nI p)), (3, .int (nI x)), (4, .long s.1), (6, .int (nI s.2)), (7, .int (nI q))] [] (adH h n sp As Bn wh P O PB OB) rv (adH h n sp As Bn wh (plR Bn wh O p x P) O PB OB) := by
    intro H0 m
    induction m with
    | zero =>
      intro q s hq hs e
      obtain rfl : q = 4 := by omega
      rw [plR, show fori (plS Bn wh O p x) 4 0 (0, 0) = s from e]
      refine V_iload d_Ad_movePlace_9 rfl ?_
      refine V_iconst (v := 4) d_Ad_movePlace_11 (by decide) ?_
      refine V_icmp_ge (tgt := 61) d_Ad_movePlace_12 (by decide) (fun _ => ?_) (fun c9 => absurd ((by decide : (4 : Int32) ≤ nI 4)) c9)
      refine V_aload_n d_Ad_movePlace_61 rfl ?_
      refine V_gf g_Ad_movePlace_62 (rd hL rfl rfl) rfl ?_
      refine V_iload_n d_Ad_movePlace_65 rfl ?_
      refine V_iconst (v := 2) d_Ad_movePlace_66 (by decide) ?_
      refine V_imul d_Ad_movePlace_67 ?_
      refine V_iload_n d_Ad_movePlace_68 rfl ?_
      refine V_iadd d_Ad_movePlace_69 ?_
      refine V_lload d_Ad_movePlace_70 rfl ?_
      refine V_iload d_Ad_movePlace_72 rfl ?_
      refine V_iconst (v := 0) d_Ad_movePlace_74 (by decide) ?_
      refine V_cS s_Ad_movePlace_75 (do_Ad_mean s.1 s.2 (by omega) 0) rfl rfl (Nat.le_of_ble_eq_true rfl) ?_
      refine V_iastN d_Ad_movePlace_78 (rd hL rfl rfl) (⟨by rw [show (2 : Int32) = nI 2 from rfl, pk_mul, nI_add], by omega, by decide⟩) ?_
      refine V_hS rfl ?_
      exact V_vret d_Ad_movePlace_79 rfl
    | succ m ih =>
      intro q s hq hs e
      have next : ∀ s' : Ac, s' = plS Bn wh O p x q s → s'.2 ≤ q + 1 → V l G k_Ad_movePlace H0 55 [(0, .ref 13), (1, .ref 6), (2, .int (nI p)), (3, .int (nI x)), (4, .long s'.1), (6, .int (nI s'.2)), (7, .int (nI q))] [] (adH h n sp As Bn wh P O PB OB) rv (adH h n sp As Bn wh (plR Bn wh O p x P) O PB OB) := by
        intro s' e' h'
        refine V_iinc1 d_Ad_movePlace_55 rfl (by decide) rfl ?_
        refine V_goto (tgt := 9) d_Ad_movePlace_58 (by decide) ?_
        rw [nI_1]
        exact ih (q + 1) s' (by omega) h' (by rw [e']; exact e)
      refine V_iload d_Ad_movePlace_9 rfl ?_
      refine V_iconst (v := 4) d_Ad_movePlace_11 (by decide) ?_
      refine V_icmp_ge (tgt := 61) d_Ad_movePlace_12 (by decide) (fun c9 => absurd c9 ((nI_ge (b := 4) (by omega) (by decide) : ¬ (4 : Int32) ≤ nI q))) (fun _ => ?_)
      refine V_aload_n d_Ad_movePlace_15 rfl ?_
      refine V_iload_n d_Ad_movePlace_16 rfl ?_
      refine V_iload d_Ad_movePlace_17 rfl ?_
      refine V_cV s_Ad_movePlace_19 (do_Pl_isNoted (rd hL rfl rfl) (rd hL rfl rfl) hp (show q < 4 by omega)) (rd hL rfl rfl) rfl rfl (Nat.le_of_ble_eq_true rfl) ?_
      refine V_if_eq (tgt := 55) d_Ad_movePlace_22 (by decide) (fun c2 => ?_) (fun c2 => ?_)
      · exact next s (by simp [plS, (bI_0 _).mp c2]) (by omega)
      · have c2' : Bn (p * 4 + q) = true := by simpa [bI_0] using c2
        refine V_lload d_Ad_movePlace_25 rfl ?_
        refine V_ldc2 d_Ad_movePlace_27 c_Ad_movePlace_27 ?_
        refine V_aload_n d_Ad_movePlace_30 rfl ?_
        refine V_iload_n d_Ad_movePlace_31 rfl ?_
        refine V_iload d_Ad_movePlace_32 rfl ?_
        refine V_iload_n d_Ad_movePlace_34 rfl ?_
        refine V_cV s_Ad_movePlace_35 (do_Pl_where (rd hL rfl rfl) (rd hL rfl rfl) hp (show q < 4 by omega) hx) (rd hL rfl rfl) rfl rfl (Nat.le_of_ble_eq_true rfl) ?_
        refine V_i2l d_Ad_movePlace_38 ?_
        refine V_lmul d_Ad_movePlace_39 ?_
        refine V_aload_n d_Ad_movePlace_40 rfl ?_
        refine V_iload d_Ad_movePlace_41 rfl ?_
        refine V_iload_n d_Ad_movePlace_43 rfl ?_
        refine V_cV s_Ad_movePlace_44 (do_Ad_moved (rd hL rfl rfl) (rd hL rfl rfl) q x (by omega) hx) (rd hL rfl rfl) rfl rfl (Nat.le_of_ble_eq_true rfl) ?_
        refine V_i2l d_Ad_movePlace_47 ?_
        refine V_lsub d_Ad_movePlace_48 ?_
        refine V_ladd d_Ad_movePlace_49 ?_
        refine V_lstore d_Ad_movePlace_50 (by decide) rfl ?_
        refine V_iinc1 d_Ad_movePlace_52 rfl (by decide) rfl ?_
        rw [nI_1]
        exact next (s.1 + (1000 * (wh ((p * 4 + q) * 2 + x)).toInt64 - (O (q * 2 + x)).toInt64), s.2 + 1) (by simp [plS, c2']) (by show s.2 + 1 ≤ q + 1; omega)
  refine V_lconst (v := 0) d_Ad_movePlace_0 (by decide) ?_
  refine V_lstore d_Ad_movePlace_1 (by decide) rfl ?_
  refine V_iconst (v := 0) d_Ad_movePlace_3 (by decide) ?_
  refine V_istore d_Ad_movePlace_4 (by decide) rfl ?_
  refine V_iconst (v := 0) d_Ad_movePlace_6 (by decide) ?_
  refine V_istore d_Ad_movePlace_7 (by decide) rfl ?_
  exact loop _ 4 0 (0, 0) (by omega) (Nat.le_refl _) rfl
def psR (Bn : Nat → Bool) (wh O : Nat → Int32) (n : Nat) (P : Nat → Int32) : Nat → Int32 := fori (fun p P => fori (fun x P => plR Bn wh O p x P) 2 0 P) n 0 P
theorem do_Ad_movePlaces (hL : 27 ≤ h.length) (hn : n ≤ 12) : Do l G k_Ad_movePlaces [.ref 13, .ref 6] (adH h n sp As Bn wh P O PB OB) rv (adH h n sp As Bn wh (psR Bn wh O n P) O PB OB) := by
  refine Do.of (by decide) (Nat.le_of_ble_eq_true rfl) kw_Ad_movePlaces ?_
  have inner : ∀ (H0 H9 : List Ce) (p : Nat), p < 12 → ∀ (m x : Nat) (P : Nat → Int32), x + m = 2 → V l G k_Ad_movePlaces H0 30 [(0, .ref 13), (1, .ref 6), (2, .int (nI p))] [] (adH h n sp As Bn wh (fori (fun x P => plR Bn wh O p x P) m x P) O PB OB) rv H9 → V l G k_Ad_movePlaces H0 12 [(0, .ref 13), (1, .ref 6), (2, .int (nI p)), (3, .int (nI x))] [] (adH h n sp As Bn wh P O PB OB) rv H9 := by
    intro H0 H9 p hp m
    induction m with
    | zero =>
      intro x P hx kk
      obtain rfl : x = 2 := by omega
      refine V_iload_n d_Ad_movePlaces_12 rfl ?_
      refine V_iconst (v := 2) d_Ad_movePlaces_13 (by decide) ?_
      refine V_icmp_ge (tgt := 30) d_Ad_movePlaces_14 (by decide) (fun _ => ?_) (fun c9 => absurd ((by decide : (2 : Int32) ≤ nI 2)) c9)
      exact V_keep [0, 1, 2] kk
    | succ m ih =>
      intro x P hx kk
      refine V_iload_n d_Ad_movePlaces_12 rfl ?_
      refine V_iconst (v := 2) d_Ad_movePlaces_13 (by decide) ?_
      refine V_icmp_ge (tgt := 30) d_Ad_movePlaces_14 (by decide) (fun c9 => absurd c9 ((nI_ge (b := 2) (by omega) (by decide) : ¬ (2 : Int32) ≤ nI x))) (fun _ => ?_)
      refine V_aload_n d_Ad_movePlaces_17 rfl ?_
      refine V_aload_n d_Ad_movePlaces_18 rfl ?_
      refine V_iload_n d_Ad_movePlaces_19 rfl ?_
      refine V_iload_n d_Ad_movePlaces_20 rfl ?_
      refine V_cV s_Ad_movePlaces_21 (do_Ad_movePlace hL p x hp (by omega)) (rd hL rfl rfl) rfl rfl (Nat.le_of_ble_eq_true rfl) ?_
      refine V_iinc1 d_Ad_movePlaces_24 rfl (by decide) rfl ?_
      refine V_goto (tgt := 12) d_Ad_movePlaces_27 (by decide) ?_
      rw [nI_1]
      exact ih (x + 1) _ (by omega) kk
  have outer : ∀ (H0 : List Ce) (m p : Nat) (P9 : Nat → Int32), p + m = n → psR Bn wh O n P = fori (fun p P => fori (fun x P => plR Bn wh O p x P) 2 0 P) m p P9 → V l G k_Ad_movePlaces H0 2 [(0, .ref 13), (1, .ref 6), (2, .int (nI p))] [] (adH h n sp As Bn wh P9 O PB OB) rv (adH h n sp As Bn wh (psR Bn wh O n P) O PB OB) := by
    intro H0 m
    induction m with
    | zero =>
      intro p P9 hp e
      obtain rfl : p = n := by omega
      rw [e]
      refine V_iload_n d_Ad_movePlaces_2 rfl ?_
      refine V_aload_n d_Ad_movePlaces_3 rfl ?_
      refine V_cV s_Ad_movePlaces_4 (do_Pl_number (rd hL rfl rfl)) (rd hL rfl rfl) rfl rfl (Nat.le_of_ble_eq_true rfl) ?_
      refine V_icmp_ge (tgt := 36) d_Ad_movePlaces_7 (by decide) (fun _ => ?_) (fun c9 => absurd ((nI_le (Nat.le_refl _) (by omega))) c9)
      exact V_vret d_Ad_movePlaces_36 rfl
    | succ m ih =>
      intro p P9 hp e
      refine V_iload_n d_Ad_movePlaces_2 rfl ?_
      refine V_aload_n d_Ad_movePlaces_3 rfl ?_
      refine V_cV s_Ad_movePlaces_4 (do_Pl_number (rd hL rfl rfl)) (rd hL rfl rfl) rfl rfl (Nat.le_of_ble_eq_true rfl) ?_
      refine V_icmp_ge (tgt := 36) d_Ad_movePlaces_7 (by decide) (fun c9 => absurd c9 ((nI_ge (by omega) (by omega) : ¬ nI n ≤ nI p))) (fun _ => ?_)
      refine V_iconst (v := 0) d_Ad_movePlaces_10 (by decide) ?_
      refine V_istore_n d_Ad_movePlaces_11 (by decide) rfl ?_
      refine inner H0 _ p (by omega) 2 0 P9 (by omega) ?_
      refine V_iinc1 d_Ad_movePlaces_30 rfl (by decide) rfl ?_
      refine V_goto (tgt := 2) d_Ad_movePlaces_33 (by decide) ?_
      rw [nI_1]
      exact ih (p + 1) _ (by omega) e
  refine V_iconst (v := 0) d_Ad_movePlaces_0 (by decide) ?_
  refine V_istore_n d_Ad_movePlaces_1 (by decide) rfl ?_
  exact outer _ n 0 P (by omega) rfl
def roO (As Bn : Nat → Bool) (wh P : Nat → Int32) (n : Nat) (O : Nat → Int32) : Nat → Int32 := fori (fun q O => fori (fun x O => mpR As Bn wh P O n q x) 2 0 O) 3 1 O
theorem do_Ad_doRound (hL : 27 ≤ h.length) (hn : n ≤ 12) : Do l G k_Ad_doRound [.ref 13, .ref 6] (adH h n sp As Bn wh P O PB OB) rv (adH h n sp As Bn wh (psR Bn wh (roO As Bn wh P n O) n P) (roO As Bn wh P n O) PB OB) := by
  refine Do.of (by decide) (Nat.le_of_ble_eq_true rfl) kw_Ad_doRound ?_
  have inner : ∀ (H0 H9 : List Ce) (q : Nat), q < 4 → ∀ (m x : Nat) (O : Nat → Int32), x + m = 2 → V l G k_Ad_doRound H0 27 [(0, .ref 13), (1, .ref 6), (2, .int (nI q))] [] (adH h n sp As Bn wh P (fori (fun x O => mpR As Bn wh P O n q x) m x O) PB OB) rv H9 → V l G k_Ad_doRound H0 9 [(0, .ref 13), (1, .ref 6), (2, .int (nI q)), (3, .int (nI x))] [] (adH h n sp As Bn wh P O PB OB) rv H9 := by
    intro H0 H9 q hq m
    induction m with
    | zero =>
      intro x O hx kk
      obtain rfl : x = 2 := by omega
      refine V_iload_n d_Ad_doRound_9 rfl ?_
      refine V_iconst (v := 2) d_Ad_doRound_10 (by decide) ?_
      refine V_icmp_ge (tgt := 27) d_Ad_doRound_11 (by decide) (fun _ => ?_) (fun c9 => absurd ((by decide : (2 : Int32) ≤ nI 2)) c9)
      exact V_keep [0, 1, 2] kk
    | succ m ih =>
      intro x O hx kk
      refine V_iload_n d_Ad_doRound_9 rfl ?_
      refine V_iconst (v := 2) d_Ad_doRound_10 (by decide) ?_
      refine V_icmp_ge (tgt := 27) d_Ad_doRound_11 (by decide) (fun c9 => absurd c9 ((nI_ge (b := 2) (by omega) (by decide) : ¬ (2 : Int32) ≤ nI x))) (fun _ => ?_)
      refine V_aload_n d_Ad_doRound_14 rfl ?_
      refine V_aload_n d_Ad_doRound_15 rfl ?_
      refine V_iload_n d_Ad_doRound_16 rfl ?_
      refine V_iload_n d_Ad_doRound_17 rfl ?_
      refine V_cV s_Ad_doRound_18 (do_Ad_movePhoto hL hn q x hq (by omega)) (rd hL rfl rfl) rfl rfl (Nat.le_of_ble_eq_true rfl) ?_
      refine V_iinc1 d_Ad_doRound_21 rfl (by decide) rfl ?_
      refine V_goto (tgt := 9) d_Ad_doRound_24 (by decide) ?_
      rw [nI_1]
      exact ih (x + 1) _ (by omega) kk
  have outer : ∀ (H0 : List Ce) (m q : Nat) (O9 : Nat → Int32), q + m = 4 → roO As Bn wh P n O = fori (fun q O => fori (fun x O => mpR As Bn wh P O n q x) 2 0 O) m q O9 → V l G k_Ad_doRound H0 2 [(0, .ref 13), (1, .ref 6), (2, .int (nI q))] [] (adH h n sp As Bn wh P O9 PB OB) rv (adH h n sp As Bn wh (psR Bn wh (roO As Bn wh P n O) n P) (roO As Bn wh P n O) PB OB) := by
    intro H0 m
    induction m with
    | zero =>
      intro q O9 hq e
      obtain rfl : q = 4 := by omega
      rw [e]
      refine V_iload_n d_Ad_doRound_2 rfl ?_
      refine V_iconst (v := 4) d_Ad_doRound_3 (by decide) ?_
      refine V_icmp_ge (tgt := 33) d_Ad_doRound_4 (by decide) (fun _ => ?_) (fun c9 => absurd ((by decide : (4 : Int32) ≤ nI 4)) c9)
      refine V_aload_n d_Ad_doRound_33 rfl ?_
      refine V_aload_n d_Ad_doRound_34 rfl ?_
      refine V_cV s_Ad_doRound_35 (do_Ad_movePlaces hL hn) (rd hL rfl rfl) rfl rfl (Nat.le_of_ble_eq_true rfl) ?_
      exact V_vret d_Ad_doRound_38 rfl
    | succ m ih =>
      intro q O9 hq e
      refine V_iload_n d_Ad_doRound_2 rfl ?_
      refine V_iconst (v := 4) d_Ad_doRound_3 (by decide) ?_
      refine V_icmp_ge (tgt := 33) d_Ad_doRound_4 (by decide) (fun c9 => absurd c9 ((nI_ge (b := 4) (by omega) (by decide) : ¬ (4 : Int32) ≤ nI q))) (fun _ => ?_)
      refine V_iconst (v := 0) d_Ad_doRound_7 (by decide) ?_
      refine V_istore_n d_Ad_doRound_8 (by decide) rfl ?_
      refine inner H0 _ q (by omega) 2 0 O9 (by omega) ?_
      refine V_iinc1 d_Ad_doRound_27 rfl (by decide) rfl ?_
      refine V_goto (tgt := 2) d_Ad_doRound_30 (by decide) ?_
      rw [nI_1]
      exact ih (q + 1) _ (by omega) e
  refine V_iconst (v := 1) d_Ad_doRound_0 (by decide) ?_
  refine V_istore_n d_Ad_doRound_1 (by decide) rfl ?_
  exact outer _ 3 1 O (by omega) rfl
def z8 (O : Nat → Int32) : Nat → Int32 := fori (fun i f => upd f i 0) 8 0 O
theorem do_Ad_begin (hL : 27 ≤ h.length) (hn : n ≤ 12) : Do l G k_Ad_begin [.ref 13, .ref 6] (adH h n sp As Bn wh P O PB OB) rv (adH h n sp As Bn wh (psR Bn wh (z8 O) n P) (z8 O) PB OB) := by
  refine Do.of (by decide) (Nat.le_of_ble_eq_true rfl) kw_Ad_begin ?_
  refine V_aload_n d_Ad_begin_0 rfl ?_
  refine V_gf g_Ad_begin_1 (rd hL rfl rfl) rfl ?_
  refine V_iconst (v := 0) d_Ad_begin_4 (by decide) ?_
  refine V_cS s_Ad_begin_5 (do_fill (a := 14) (rd hL rfl rfl) (by decide) 0) rfl rfl (Nat.le_of_ble_eq_true rfl) ?_
  refine V_hS rfl ?_
  refine V_aload_n d_Ad_begin_8 rfl ?_
  refine V_aload_n d_Ad_begin_9 rfl ?_
  refine V_cV s_Ad_begin_10 (do_Ad_movePlaces (O := z8 O) hL hn) (rd hL rfl rfl) rfl rfl (Nat.le_of_ble_eq_true rfl) ?_
  exact V_vret d_Ad_begin_13 rfl
theorem do_Ad_remember (hL : 27 ≤ h.length) : Do l G k_Ad_remember [.ref 13] (adH h n sp As Bn wh P O PB OB) rv (adH h n sp As Bn wh P O (va_cpy P PB 0 0 24) (va_cpy O OB 0 0 8)) := by
  refine Do.of (by decide) (Nat.le_of_ble_eq_true rfl) kw_Ad_remember ?_
  refine V_aload_n d_Ad_remember_0 rfl ?_
  refine V_gf g_Ad_remember_1 (rd hL rfl rfl) rfl ?_
  refine V_iconst (v := 0) d_Ad_remember_4 (by decide) ?_
  refine V_aload_n d_Ad_remember_5 rfl ?_
  refine V_gf g_Ad_remember_6 (rd hL rfl rfl) rfl ?_
  refine V_iconst (v := 0) d_Ad_remember_9 (by decide) ?_
  refine V_aload_n d_Ad_remember_10 rfl ?_
  refine V_gf g_Ad_remember_11 (rd hL rfl rfl) rfl ?_
  refine V_ialen d_Ad_remember_14 (rd hL rfl rfl) ?_
  refine V_cpy s_Ad_remember_15 (rd hL rfl rfl) (rd hL rfl rfl) (by decide) (by decide) (by decide) (by decide) (by decide) (Nat.le_of_ble_eq_true rfl) ?_
  refine V_hS rfl ?_
  refine V_aload_n d_Ad_remember_18 rfl ?_
  refine V_gf g_Ad_remember_19 (rd hL rfl rfl) rfl ?_
  refine V_iconst (v := 0) d_Ad_remember_22 (by decide) ?_
  refine V_aload_n d_Ad_remember_23 rfl ?_
  refine V_gf g_Ad_remember_24 (rd hL rfl rfl) rfl ?_
  refine V_iconst (v := 0) d_Ad_remember_27 (by decide) ?_
  refine V_aload_n d_Ad_remember_28 rfl ?_
  refine V_gf g_Ad_remember_29 (rd hL rfl rfl) rfl ?_
  refine V_ialen d_Ad_remember_32 (rd hL rfl rfl) ?_
  refine V_cpy s_Ad_remember_33 (rd hL rfl rfl) (rd hL rfl rfl) (by decide) (by decide) (by decide) (by decide) (by decide) (Nat.le_of_ble_eq_true rfl) ?_
  refine V_hS rfl ?_
  exact V_vret d_Ad_remember_36 rfl
theorem do_Ad_undo (hL : 27 ≤ h.length) : Do l G k_Ad_undo [.ref 13] (adH h n sp As Bn wh P O PB OB) rv (adH h n sp As Bn wh (va_cpy PB P 0 0 24) (va_cpy OB O 0 0 8) PB OB) := by
  refine Do.of (by decide) (Nat.le_of_ble_eq_true rfl) kw_Ad_undo ?_
  refine V_aload_n d_Ad_undo_0 rfl ?_
  refine V_gf g_Ad_undo_1 (rd hL rfl rfl) rfl ?_
  refine V_iconst (v := 0) d_Ad_undo_4 (by decide) ?_
  refine V_aload_n d_Ad_undo_5 rfl ?_
  refine V_gf g_Ad_undo_6 (rd hL rfl rfl) rfl ?_
  refine V_iconst (v := 0) d_Ad_undo_9 (by decide) ?_
  refine V_aload_n d_Ad_undo_10 rfl ?_
  refine V_gf g_Ad_undo_11 (rd hL rfl rfl) rfl ?_
  refine V_ialen d_Ad_undo_14 (rd hL rfl rfl) ?_
  refine V_cpy s_Ad_undo_15 (rd hL rfl rfl) (rd hL rfl rfl) (by decide) (by decide) (by decide) (by decide) (by decide) (Nat.le_of_ble_eq_true rfl) ?_
  refine V_hS rfl ?_
  refine V_aload_n d_Ad_undo_18 rfl ?_
  refine V_gf g_Ad_undo_19 (rd hL rfl rfl) rfl ?_
  refine V_iconst (v := 0) d_Ad_undo_22 (by decide) ?_
  refine V_aload_n d_Ad_undo_23 rfl ?_
  refine V_gf g_Ad_undo_24 (rd hL rfl rfl) rfl ?_
  refine V_iconst (v := 0) d_Ad_undo_27 (by decide) ?_
  refine V_aload_n d_Ad_undo_28 rfl ?_
  refine V_gf g_Ad_undo_29 (rd hL rfl rfl) rfl ?_
  refine V_ialen d_Ad_undo_32 (rd hL rfl rfl) ?_
  refine V_cpy s_Ad_undo_33 (rd hL rfl rfl) (rd hL rfl rfl) (by decide) (by decide) (by decide) (by decide) (by decide) (Nat.le_of_ble_eq_true rfl) ?_
  refine V_hS rfl ?_
  exact V_vret d_Ad_undo_36 rfl
abbrev Aj : Type := Nat × (Nat → Int32) × (Nat → Int32) × (Nat → Int32) × (Nat → Int32)
/-- rounds, as long as they are kept -/
def ajR (As Bn : Nat → Bool) (wh : Nat → Int32) (n : Nat) : Nat → Nat → Int64 → (Nat → Int32) → (Nat → Int32) → (Nat → Int32) → (Nat → Int32) → Aj
  | 0, k, _, P, O, PB, OB => (k, P, O, PB, OB)
  | m + 1, k, t, P, O, PB, OB => if 0 < lg_cmp (toR As Bn wh (psR Bn wh (roO As Bn wh P n O) n P) (roO As Bn wh P n O) n) t
      then (k, va_cpy (va_cpy P PB 0 0 24) (psR Bn wh (roO As Bn wh P n O) n P) 0 0 24, va_cpy (va_cpy O OB 0 0 8) (roO As Bn wh P n O) 0 0 8, va_cpy P PB 0 0 24, va_cpy O OB 0 0 8)
      else ajR As Bn wh n m (k + 1) (toR As Bn wh (psR Bn wh (roO As Bn wh P n O) n P) (roO As Bn wh P n O) n) (psR Bn wh (roO As Bn wh P n O) n P) (roO As Bn wh P n O) (va_cpy P PB 0 0 24) (va_cpy O OB 0 0 8)
theorem do_Ad_adjust (hL : 27 ≤ h.length) (hn : n ≤ 12) (rounds : Nat) (hr : rounds ≤ 20) (R : Aj) (hR : R = ajR As Bn wh n rounds 0 (toR As Bn wh (psR Bn wh (z8 O) n P) (z8 O) n) (psR Bn wh (z8 O) n P) (z8 O) PB OB) : Do l G k_Ad_adjust [.ref 13, .ref 6, .int (nI rounds)] (adH h n sp As Bn wh P O PB OB) (ri (nI R.1)) (adH h n sp As Bn wh R.2.1 R.2.2.1 R.2.2.2.1 R.2.2.2.2) := by
  refine Do.of (by decide) (Nat.le_of_ble_eq_true rfl) kw_Ad_adjust ?_
  have loop : ∀ (H0 : List Ce) (m k : Nat) (t : Int64) (P O PB OB : Nat → Int32), k + m = rounds → R = ajR As Bn wh n m k t P O PB OB → V l G k_Ad_adjust H0 14 [(0, .ref 13), (1, .ref 6), (2, .int (nI rounds)), (3, .long t), (5, .int (nI k))] [] (adH h n sp As Bn wh P O PB OB) (ri (nI R.1)) (adH h n sp As Bn wh R.2.1 R.2.2.1 R.2.2.2.1 R.2.2.2.2) := by
    intro H0 m
    induction m with
    | zero =>
      intro k t P O PB OB hk e
      obtain rfl : k = rounds := by omega
      rw [e]
      refine V_iload d_Ad_adjust_14 rfl ?_
      refine V_iload_n d_Ad_adjust_16 rfl ?_
      refine V_icmp_ge (tgt := 59) d_Ad_adjust_17 (by decide) (fun _ => ?_) (fun c9 => absurd ((nI_le (Nat.le_refl _) (by omega))) c9)
      refine V_iload_n d_Ad_adjust_59 rfl ?_
      exact V_iret d_Ad_adjust_60 rfl rfl
    | succ m ih =>
      intro k t P O PB OB hk e
      refine V_iload d_Ad_adjust_14 rfl ?_
      refine V_iload_n d_Ad_adjust_16 rfl ?_
      refine V_icmp_ge (tgt := 59) d_Ad_adjust_17 (by decide) (fun c9 => absurd c9 ((nI_ge (by omega) (by omega) : ¬ nI rounds ≤ nI k))) (fun _ => ?_)
      refine V_aload_n d_Ad_adjust_20 rfl ?_
      refine V_cV s_Ad_adjust_21 (do_Ad_remember hL) (rd hL rfl rfl) rfl rfl (Nat.le_of_ble_eq_true rfl) ?_
      refine V_aload_n d_Ad_adjust_24 rfl ?_
      refine V_aload_n d_Ad_adjust_25 rfl ?_
      refine V_cV s_Ad_adjust_26 (do_Ad_doRound hL hn) (rd hL rfl rfl) rfl rfl (Nat.le_of_ble_eq_true rfl) ?_
      refine V_aload_n d_Ad_adjust_29 rfl ?_
      refine V_aload_n d_Ad_adjust_30 rfl ?_
      refine V_cV s_Ad_adjust_31 (do_Ad_total hL hn) (rd hL rfl rfl) rfl rfl (Nat.le_of_ble_eq_true rfl) ?_
      refine V_lstore d_Ad_adjust_34 (by decide) rfl ?_
      refine V_lload d_Ad_adjust_36 rfl ?_
      refine V_lload_n d_Ad_adjust_38 rfl ?_
      refine V_lcmp d_Ad_adjust_39 ?_
      rw [ajR] at e
      refine V_if_le (tgt := 50) d_Ad_adjust_40 (by decide) (fun c1 => ?_) (fun c1 => ?_)
      · rw [if_neg (nlt_iff.mpr c1)] at e
        refine V_lload d_Ad_adjust_50 rfl ?_
        refine V_lstore_n d_Ad_adjust_52 (by decide) rfl ?_
        refine V_iinc1 d_Ad_adjust_53 rfl (by decide) rfl ?_
        refine V_goto (tgt := 14) d_Ad_adjust_56 (by decide) ?_
        rw [nI_1]
        refine V_keep [0, 1, 2, 3, 5] ?_
        exact ih (k + 1) _ _ _ _ _ (by omega) e
      · rw [if_pos (nle_iff.mp c1)] at e
        rw [e]
        refine V_aload_n d_Ad_adjust_43 rfl ?_
        refine V_cV s_Ad_adjust_44 (do_Ad_undo hL) (rd hL rfl rfl) rfl rfl (Nat.le_of_ble_eq_true rfl) ?_
        refine V_iload d_Ad_adjust_47 rfl ?_
        exact V_iret d_Ad_adjust_49 rfl rfl
  refine V_aload_n d_Ad_adjust_0 rfl ?_
  refine V_aload_n d_Ad_adjust_1 rfl ?_
  refine V_cV s_Ad_adjust_2 (do_Ad_begin hL hn) (rd hL rfl rfl) rfl rfl (Nat.le_of_ble_eq_true rfl) ?_
  refine V_aload_n d_Ad_adjust_5 rfl ?_
  refine V_aload_n d_Ad_adjust_6 rfl ?_
  refine V_cV s_Ad_adjust_7 (do_Ad_total hL hn) (rd hL rfl rfl) rfl rfl (Nat.le_of_ble_eq_true rfl) ?_
  refine V_lstore_n d_Ad_adjust_10 (by decide) rfl ?_
  refine V_iconst (v := 0) d_Ad_adjust_11 (by decide) ?_
  refine V_istore d_Ad_adjust_12 (by decide) rfl ?_
  exact loop _ rounds 0 _ _ _ _ _ (by omega) hR
end P17
