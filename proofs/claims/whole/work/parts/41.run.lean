section P41
theorem r8 {k : Nat} (hk : k < 100) : Ix (nI k - nI k / 8 * 8) (k % 8) 8 := ⟨by rw [show (8 : Int32) = nI 8 from rfl, pk_rem (by omega) (by decide) (by decide)], by omega, by decide⟩
variable {l : Launch} {G : Gb} {h h0 h' : List Ce} {r : Rs} {th sx sy : Int32} {w ht sd pl ln : Nat} {md sh hi : Bool} {sX sY wh P O KP KO PB OB : Nat → Int32} {Bn As : Nat → Bool}
theorem bd_le {f : Nat → Int32} {N : Nat} {B B' : Int} (hb : bd f N B) (h1 : B ≤ B') : bd f N B' := fun k hk => by have := hb k hk; omega
theorem mo_run_l (hL : 45 ≤ h.length) (hn : pl ≤ 12) (hR : RS Bn wh sX sY) {x : Nat} (hx : x ≤ 20) : ∀ (m k : Nat) (P O PB OB KP KO : Nat → Int32) (R : Aj), k + m = x → bd P 24 (1000000 * (2 * (k : Int) + 1)) → bd O 8 (1000000 * (2 * (k : Int))) → Un Bn pl P → R = ajR As Bn wh pl m k (toR As Bn wh P O pl) P O PB OB → ∃ KP' KO', (∀ H0, V l G k_Mo_run H0 26 [(0, .ref 28), (1, .int (nI x)), (2, .int (nI k)), (3, .int 1)] [] (moA h th w ht sd md pl sh sx sy ln hi sX sY As P O KP KO) (ri (nI R.1)) (moA h th w ht sd md pl sh sx sy ln hi sX sY As R.2.1 R.2.2.1 KP' KO')) ∧ bd R.2.1 24 50000000 ∧ bd R.2.2.1 8 50000000 ∧ (∀ j, 2 * pl ≤ j → R.2.1 j = P j) := by
  intro m
  induction m with
  | zero =>
    intro k P O PB OB KP KO R hk hP hO hU e
    have e' : R = (k, P, O, PB, OB) := e
    rw [e']
    refine ⟨KP, KO, fun H0 => ?_, bd_le hP (by omega), bd_le hO (by omega), fun _ _ => rfl⟩
    refine V_iload_n d_Mo_run_26 rfl ?_
    refine V_iload_n d_Mo_run_27 rfl ?_
    refine V_icmp_ge (tgt := 180) d_Mo_run_28 (by decide) (fun _ => ?_) (fun c9 => absurd ((nI_le (by omega) (by omega) : nI x ≤ nI k)) c9)
    refine V_iload_n d_Mo_run_180 rfl ?_
    exact V_iret d_Mo_run_181 rfl rfl
  | succ m ih =>
    intro k P O PB OB KP KO R hk hP hO hU e
    have hO' : bd (roO As Bn wh P pl O) 8 (1000000 * (2 * (k : Int) + 2)) := by
      rw [← flO_ro]
      exact flO_b hR (B := 1000000 * (2 * (k : Int) + 1)) (by omega) hP hn (by omega) (bd_le hO (by omega)) 6 (by omega)
    have hrd : ∀ KP KO, Do l G k_Mo_round [.ref 28] (moA h th w ht sd md pl sh sx sy ln hi sX sY As P O KP KO) rv (moA h th w ht sd md pl sh sx sy ln hi sX sY As (psR Bn wh (roO As Bn wh P pl O) pl P) (roO As Bn wh P pl O) KP KO) := fun KP KO => mo_round hL hn hR (B := 1000000 * (2 * (k : Int) + 1)) (B' := 1000000 * (2 * (k : Int) + 2)) (by omega) hP (by omega) (bd_le hO (by omega)) hU
    have hP' : bd (psR Bn wh (roO As Bn wh P pl O) pl P) 24 (1000000 * (2 * (k : Int) + 3)) := ps_b hR (by omega) hO' hn (by omega) (fun j _ h2 => by have := hP j h2; omega)
    have hU' : Un Bn pl (psR Bn wh (roO As Bn wh P pl O) pl P) := un_ps _ _ _ _ _
    have hZ : ∀ j, 2 * pl ≤ j → psR Bn wh (roO As Bn wh P pl O) pl P j = P j := fun j hj => by rw [ps_pt, if_neg (by omega)]
    have e2 : R = if 0 < lg_cmp (toR As Bn wh (psR Bn wh (roO As Bn wh P pl O) pl P) (roO As Bn wh P pl O) pl) (toR As Bn wh P O pl) then (k, va_cpy (va_cpy P PB 0 0 24) (psR Bn wh (roO As Bn wh P pl O) pl P) 0 0 24, va_cpy (va_cpy O OB 0 0 8) (roO As Bn wh P pl O) 0 0 8, va_cpy P PB 0 0 24, va_cpy O OB 0 0 8) else ajR As Bn wh pl m (k + 1) (toR As Bn wh (psR Bn wh (roO As Bn wh P pl O) pl P) (roO As Bn wh P pl O) pl) (psR Bn wh (roO As Bn wh P pl O) pl P) (roO As Bn wh P pl O) (va_cpy P PB 0 0 24) (va_cpy O OB 0 0 8) := e
    clear e
    generalize roO As Bn wh P pl O = O' at *
    generalize psR Bn wh O' pl P = P' at *
    have save : ∀ (H0 : List Ce) (r : Rs) (h' : List Ce) (t : Int64), V l G k_Mo_run H0 91 [(0, .ref 28), (1, .int (nI x)), (2, .int (nI k)), (3, .int 1), (4, .long t), (6, .int (nI 24))] [] (moA h th w ht sd md pl sh sx sy ln hi sX sY As P O (fori (fun k f => upd f k (P k)) 24 0 KP) (fori (fun k f => upd f (k % 8) (O (k % 8))) 24 0 KO)) r h' → ∀ (m k9 : Nat), k9 + m = 24 → V l G k_Mo_run H0 44 [(0, .ref 28), (1, .int (nI x)), (2, .int (nI k)), (3, .int 1), (4, .long t), (6, .int (nI k9))] [] (moA h th w ht sd md pl sh sx sy ln hi sX sY As P O (fori (fun k f => upd f k (P k)) k9 0 KP) (fori (fun k f => upd f (k % 8) (O (k % 8))) k9 0 KO)) r h' := by
      intro H0 r h' t kk m
      induction m with
      | zero =>
        intro k9 hk9
        obtain rfl : k9 = 24 := by omega
        refine V_iload d_Mo_run_44 rfl ?_
        refine V_bipush (v := 24) d_Mo_run_46 (by decide) ?_
        refine V_icmp_ge (tgt := 91) d_Mo_run_48 (by decide) (fun _ => ?_) (fun c9 => absurd ((by decide : (24 : Int32) ≤ nI 24)) c9)
        exact kk
      | succ m ih =>
        intro k9 hk9
        have i2 := ih (k9 + 1) (by omega)
        rw [fori_snoc, fori_snoc, Nat.zero_add] at i2
        refine V_iload d_Mo_run_44 rfl ?_
        refine V_bipush (v := 24) d_Mo_run_46 (by decide) ?_
        refine V_icmp_ge (tgt := 91) d_Mo_run_48 (by decide) (fun c9 => absurd c9 ((nI_ge (b := 24) (by omega) (by decide) : ¬ (24 : Int32) ≤ nI k9))) (fun _ => ?_)
        refine V_aload_n d_Mo_run_51 rfl ?_
        refine V_gf g_Mo_run_52 (rd hL rfl rfl) rfl ?_
        refine V_iload d_Mo_run_55 rfl ?_
        refine V_aload_n d_Mo_run_57 rfl ?_
        refine V_gf g_Mo_run_58 (rd hL rfl rfl) rfl ?_
        refine V_iload d_Mo_run_61 rfl ?_
        refine V_ialdN d_Mo_run_63 (rd hL rfl rfl) (Ix.of (show k9 < 24 by omega) (by decide)) ?_
        refine V_iastN d_Mo_run_64 (rd hL rfl rfl) (Ix.of (show k9 < 24 by omega) (by decide)) ?_
        refine V_hS rfl ?_
        refine V_aload_n d_Mo_run_65 rfl ?_
        refine V_gf g_Mo_run_66 (rd hL rfl rfl) rfl ?_
        refine V_iload d_Mo_run_69 rfl ?_
        refine V_bipush (v := 8) d_Mo_run_71 (by decide) ?_
        refine V_irem d_Mo_run_73 (by decide) ?_
        refine V_aload_n d_Mo_run_74 rfl ?_
        refine V_gf g_Mo_run_75 (rd hL rfl rfl) rfl ?_
        refine V_iload d_Mo_run_78 rfl ?_
        refine V_bipush (v := 8) d_Mo_run_80 (by decide) ?_
        refine V_irem d_Mo_run_82 (by decide) ?_
        refine V_ialdN d_Mo_run_83 (rd hL rfl rfl) (r8 (by omega)) ?_
        refine V_iastN d_Mo_run_84 (rd hL rfl rfl) (r8 (by omega)) ?_
        refine V_hS rfl ?_
        refine V_iinc1 d_Mo_run_85 rfl (by decide) rfl ?_
        refine V_goto (tgt := 44) d_Mo_run_88 (by decide) ?_
        rw [nI_1]
        exact i2
    have first : ∀ (H0 : List Ce) (r : Rs) (h' : List Ce), V l G k_Mo_run H0 102 [(0, .ref 28), (1, .int (nI x)), (2, .int (nI k)), (3, .int 1), (4, .long (toR As Bn wh P O pl)), (6, .int (nI 24))] [.int (lg_cmp (toR As Bn wh P' O' pl) (toR As Bn wh P O pl))] (moA h th w ht sd md pl sh sx sy ln hi sX sY As P' O' (fori (fun k f => upd f k (P k)) 24 0 KP) (fori (fun k f => upd f (k % 8) (O (k % 8))) 24 0 KO)) r h' → V l G k_Mo_run H0 26 [(0, .ref 28), (1, .int (nI x)), (2, .int (nI k)), (3, .int 1)] [] (moA h th w ht sd md pl sh sx sy ln hi sX sY As P O KP KO) r h' := by
      intro H0 r h' kk
      refine V_iload_n d_Mo_run_26 rfl ?_
      refine V_iload_n d_Mo_run_27 rfl ?_
      refine V_icmp_ge (tgt := 180) d_Mo_run_28 (by decide) (fun c9 => absurd c9 ((nI_ge (by omega) (by omega) : ¬ nI x ≤ nI k))) (fun _ => ?_)
      refine V_iload_n d_Mo_run_31 rfl ?_
      refine V_if_eq (tgt := 180) d_Mo_run_32 (by decide) (fun c9 => absurd c9 ((by decide : ¬ (1 : Int32) = 0))) (fun _ => ?_)
      refine V_aload_n d_Mo_run_35 rfl ?_
      refine V_cV s_Mo_run_36 (mo_all (rd hL rfl rfl) (rd hL rfl rfl) (rd hL rfl rfl) (rd hL rfl rfl) (rd hL rfl rfl) (rd hL rfl rfl) hR (bd_le hP (by omega)) (bd_le hO (by omega)) hn) (rd hL rfl rfl) rfl rfl (Nat.le_of_ble_eq_true rfl) ?_
      refine V_lstore d_Mo_run_39 (by decide) rfl ?_
      refine V_iconst (v := 0) d_Mo_run_41 (by decide) ?_
      refine V_istore d_Mo_run_42 (by decide) rfl ?_
      refine save H0 r h' _ ?_ 24 0 (by omega)
      refine V_aload_n d_Mo_run_91 rfl ?_
      refine V_cV s_Mo_run_92 (hrd _ _) (rd hL rfl rfl) rfl rfl (Nat.le_of_ble_eq_true rfl) ?_
      refine V_aload_n d_Mo_run_95 rfl ?_
      refine V_cV s_Mo_run_96 (mo_all (rd hL rfl rfl) (rd hL rfl rfl) (rd hL rfl rfl) (rd hL rfl rfl) (rd hL rfl rfl) (rd hL rfl rfl) hR (bd_le hP' (by omega)) (bd_le hO' (by omega)) hn) (rd hL rfl rfl) rfl rfl (Nat.le_of_ble_eq_true rfl) ?_
      refine V_lload d_Mo_run_99 rfl ?_
      refine V_lcmp d_Mo_run_101 ?_
      exact kk
    by_cases c : 0 < lg_cmp (toR As Bn wh P' O' pl) (toR As Bn wh P O pl)
    · rw [if_pos c] at e2
      rw [e2]
      have eP : fori (fun k f => upd f k (fori (fun k f => upd f k (P k)) 24 0 KP k)) 24 0 P' = va_cpy (va_cpy P PB 0 0 24) P' 0 0 24 := by
        funext j
        rw [cp_pt]
        by_cases q : j < 24
        · rw [if_pos q, cp_pt, if_pos q, pk_cpy_in (by omega) (by omega), pk_cpy_in (by omega) (by omega)]
          congr 1; omega
        · rw [if_neg q, pk_cpy_out (by omega)]
      have eO : fori (fun k f => upd f (k % 8) (fori (fun k f => upd f (k % 8) (O (k % 8))) 24 0 KO (k % 8))) 24 0 O' = va_cpy (va_cpy O OB 0 0 8) O' 0 0 8 := by
        funext j
        rw [cp8_pt]
        by_cases q : j < 8
        · rw [if_pos (by omega), cp8_pt, if_pos (by omega), pk_cpy_in (by omega) (by omega), pk_cpy_in (by omega) (by omega)]
          congr 1; omega
        · rw [if_neg (by omega), pk_cpy_out (by omega)]
      have pP : ∀ j, j < 24 → va_cpy (va_cpy P PB 0 0 24) P' 0 0 24 j = P j := fun j hj => by
        rw [pk_cpy_in (by omega) (by omega), pk_cpy_in (by omega) (by omega)]; congr 1; omega
      have pO : ∀ j, j < 8 → va_cpy (va_cpy O OB 0 0 8) O' 0 0 8 j = O j := fun j hj => by
        rw [pk_cpy_in (by omega) (by omega), pk_cpy_in (by omega) (by omega)]; congr 1; omega
      refine ⟨fori (fun k f => upd f k (P k)) 24 0 KP, fori (fun k f => upd f (k % 8) (O (k % 8))) 24 0 KO, fun H0 => first H0 _ _ ?_, ?_, ?_, ?_⟩
      rotate_left
      · intro j hj
        show -50000000 ≤ (va_cpy (va_cpy P PB 0 0 24) P' 0 0 24 j).toInt ∧ (va_cpy (va_cpy P PB 0 0 24) P' 0 0 24 j).toInt ≤ 50000000
        rw [pP j hj]
        have := hP j hj
        omega
      · intro j hj
        show -50000000 ≤ (va_cpy (va_cpy O OB 0 0 8) O' 0 0 8 j).toInt ∧ (va_cpy (va_cpy O OB 0 0 8) O' 0 0 8 j).toInt ≤ 50000000
        rw [pO j hj]
        have := hO j hj
        omega
      · intro j hj
        show va_cpy (va_cpy P PB 0 0 24) P' 0 0 24 j = P j
        rcases Nat.lt_or_ge j 24 with q | q
        · exact pP j q
        · rw [pk_cpy_out (by omega)]
          exact hZ j hj
      · have back : ∀ (m k9 : Nat), k9 + m = 24 → V l G k_Mo_run H0 114 [(0, .ref 28), (1, .int (nI x)), (2, .int (nI k)), (3, .int 0), (4, .long (toR As Bn wh P O pl)), (6, .int (nI k9))] [] (moA h th w ht sd md pl sh sx sy ln hi sX sY As (fori (fun k f => upd f k (fori (fun k f => upd f k (P k)) 24 0 KP k)) k9 0 P') (fori (fun k f => upd f (k % 8) (fori (fun k f => upd f (k % 8) (O (k % 8))) 24 0 KO (k % 8))) k9 0 O') (fori (fun k f => upd f k (P k)) 24 0 KP) (fori (fun k f => upd f (k % 8) (O (k % 8))) 24 0 KO)) (ri (nI k)) (moA h th w ht sd md pl sh sx sy ln hi sX sY As (va_cpy (va_cpy P PB 0 0 24) P' 0 0 24) (va_cpy (va_cpy O OB 0 0 8) O' 0 0 8) (fori (fun k f => upd f k (P k)) 24 0 KP) (fori (fun k f => upd f (k % 8) (O (k % 8))) 24 0 KO)) := by
          intro m
          induction m with
          | zero =>
            intro k9 hk9
            obtain rfl : k9 = 24 := by omega
            rw [eP, eO]
            refine V_iload d_Mo_run_114 rfl ?_
            refine V_bipush (v := 24) d_Mo_run_116 (by decide) ?_
            refine V_icmp_ge (tgt := 165) d_Mo_run_118 (by decide) (fun _ => ?_) (fun c9 => absurd ((by decide : (24 : Int32) ≤ nI 24)) c9)
            refine V_iload_n d_Mo_run_165 rfl ?_
            refine V_if_eq (tgt := 175) d_Mo_run_166 (by decide) (fun _ => ?_) (fun c9 => absurd ((rfl : (0 : Int32) = 0)) c9)
            refine V_iload_n d_Mo_run_175 rfl ?_
            refine V_istore_n d_Mo_run_176 (by decide) rfl ?_
            refine V_goto (tgt := 26) d_Mo_run_177 (by decide) ?_
            refine V_iload_n d_Mo_run_26 rfl ?_
            refine V_iload_n d_Mo_run_27 rfl ?_
            refine V_icmp_ge (tgt := 180) d_Mo_run_28 (by decide) (fun c9 => absurd c9 ((nI_ge (by omega) (by omega) : ¬ nI x ≤ nI k))) (fun _ => ?_)
            refine V_iload_n d_Mo_run_31 rfl ?_
            refine V_if_eq (tgt := 180) d_Mo_run_32 (by decide) (fun _ => ?_) (fun c9 => absurd ((rfl : (0 : Int32) = 0)) c9)
            refine V_iload_n d_Mo_run_180 rfl ?_
            exact V_iret d_Mo_run_181 rfl rfl
          | succ m ih =>
            intro k9 hk9
            have i2 := ih (k9 + 1) (by omega)
            rw [fori_snoc _ k9, fori_snoc _ k9, Nat.zero_add] at i2
            refine V_iload d_Mo_run_114 rfl ?_
            refine V_bipush (v := 24) d_Mo_run_116 (by decide) ?_
            refine V_icmp_ge (tgt := 165) d_Mo_run_118 (by decide) (fun c9 => absurd c9 ((nI_ge (b := 24) (by omega) (by decide) : ¬ (24 : Int32) ≤ nI k9))) (fun _ => ?_)
            refine V_iload_n d_Mo_run_121 rfl ?_
            refine V_if_ne (tgt := 165) d_Mo_run_122 (by decide) (fun c9 => absurd ((rfl : (0 : Int32) = 0)) c9) (fun _ => ?_)
            refine V_aload_n d_Mo_run_125 rfl ?_
            refine V_gf g_Mo_run_126 (rd hL rfl rfl) rfl ?_
            refine V_iload d_Mo_run_129 rfl ?_
            refine V_aload_n d_Mo_run_131 rfl ?_
            refine V_gf g_Mo_run_132 (rd hL rfl rfl) rfl ?_
            refine V_iload d_Mo_run_135 rfl ?_
            refine V_ialdN d_Mo_run_137 (rd hL rfl rfl) (Ix.of (show k9 < 24 by omega) (by decide)) ?_
            refine V_iastN d_Mo_run_138 (rd hL rfl rfl) (Ix.of (show k9 < 24 by omega) (by decide)) ?_
            refine V_hS rfl ?_
            refine V_aload_n d_Mo_run_139 rfl ?_
            refine V_gf g_Mo_run_140 (rd hL rfl rfl) rfl ?_
            refine V_iload d_Mo_run_143 rfl ?_
            refine V_bipush (v := 8) d_Mo_run_145 (by decide) ?_
            refine V_irem d_Mo_run_147 (by decide) ?_
            refine V_aload_n d_Mo_run_148 rfl ?_
            refine V_gf g_Mo_run_149 (rd hL rfl rfl) rfl ?_
            refine V_iload d_Mo_run_152 rfl ?_
            refine V_bipush (v := 8) d_Mo_run_154 (by decide) ?_
            refine V_irem d_Mo_run_156 (by decide) ?_
            refine V_ialdN d_Mo_run_157 (rd hL rfl rfl) (r8 (by omega)) ?_
            refine V_iastN d_Mo_run_158 (rd hL rfl rfl) (r8 (by omega)) ?_
            refine V_hS rfl ?_
            refine V_iinc1 d_Mo_run_159 rfl (by decide) rfl ?_
            refine V_goto (tgt := 114) d_Mo_run_162 (by decide) ?_
            rw [nI_1]
            exact i2
        refine V_if_gt (tgt := 109) d_Mo_run_102 (by decide) (fun _ => ?_) (fun c9 => absurd (c) c9)
        refine V_iconst (v := 0) d_Mo_run_109 (by decide) ?_
        refine V_istore_n d_Mo_run_110 (by decide) rfl ?_
        refine V_iconst (v := 0) d_Mo_run_111 (by decide) ?_
        refine V_istore d_Mo_run_112 (by decide) rfl ?_
        exact back 24 0 (by omega)
    · rw [if_neg c] at e2
      obtain ⟨KP', KO', i1, i2, i3, i4⟩ := ih (k + 1) P' O' (va_cpy P PB 0 0 24) (va_cpy O OB 0 0 8) (fori (fun k f => upd f k (P k)) 24 0 KP) (fori (fun k f => upd f (k % 8) (O (k % 8))) 24 0 KO) R (by omega) (bd_le hP' (by omega)) (bd_le hO' (by omega)) hU' e2
      refine ⟨KP', KO', fun H0 => first H0 _ _ ?_, i2, i3, fun j hj => by rw [i4 j hj, hZ j hj]⟩
      refine V_if_gt (tgt := 109) d_Mo_run_102 (by decide) (fun c9 => absurd c9 (c)) (fun _ => ?_)
      refine V_iconst (v := 1) d_Mo_run_105 (by decide) ?_
      refine V_goto (tgt := 110) d_Mo_run_106 (by decide) ?_
      refine V_istore_n d_Mo_run_110 (by decide) rfl ?_
      refine V_iconst (v := 0) d_Mo_run_111 (by decide) ?_
      refine V_istore d_Mo_run_112 (by decide) rfl ?_
      refine V_iload d_Mo_run_114 rfl ?_
      refine V_bipush (v := 24) d_Mo_run_116 (by decide) ?_
      refine V_icmp_ge (tgt := 165) d_Mo_run_118 (by decide) (fun c9 => absurd c9 ((by decide : ¬ (24 : Int32) ≤ 0))) (fun _ => ?_)
      refine V_iload_n d_Mo_run_121 rfl ?_
      refine V_if_ne (tgt := 165) d_Mo_run_122 (by decide) (fun _ => ?_) (fun c9 => absurd (c9 : _) ((by decide : ¬ (1 : Int32) = 0)))
      refine V_iload_n d_Mo_run_165 rfl ?_
      refine V_if_eq (tgt := 175) d_Mo_run_166 (by decide) (fun c9 => absurd c9 ((by decide : ¬ (1 : Int32) = 0))) (fun _ => ?_)
      refine V_iload_n d_Mo_run_169 rfl ?_
      refine V_iconst (v := 1) d_Mo_run_170 (by decide) ?_
      refine V_iadd d_Mo_run_171 ?_
      rw [nI_1]
      refine V_goto (tgt := 176) d_Mo_run_172 (by decide) ?_
      refine V_istore_n d_Mo_run_176 (by decide) rfl ?_
      refine V_goto (tgt := 26) d_Mo_run_177 (by decide) ?_
      refine V_keep [0, 1, 2, 3] ?_
      exact i1 H0
theorem mo_run_e (hL : 45 ≤ h.length) (x : Int32) (hE : wiB x 0 20 = false) : Do l G k_Mo_run [.ref 28, .int x] (moH h th w ht sd md pl sh sx sy ln hi) (ri 0) (moH h 1 w ht sd md pl sh sx sy ln hi) := by
  refine Do.of (by decide) (Nat.le_of_ble_eq_true rfl) kw_Mo_run ?_
  refine V_aload_n d_Mo_run_0 rfl ?_
  refine V_iload_n d_Mo_run_1 rfl ?_
  refine V_iconst (v := 0) d_Mo_run_2 (by decide) ?_
  refine V_bipush (v := 20) d_Mo_run_3 (by decide) ?_
  refine V_cS s_Mo_run_5 (mo_within x 0 20) rfl rfl (Nat.le_of_ble_eq_true rfl) ?_
  refine V_iconst (v := 1) d_Mo_run_8 (by decide) ?_
  refine V_iconst (v := 1) d_Mo_run_9 (by decide) ?_
  rw [hE]
  refine V_cV s_Mo_run_10 (mo_goes (rd hL rfl rfl) false true true) (rd hL rfl rfl) rfl rfl (Nat.le_of_ble_eq_true rfl) ?_
  refine V_hS rfl ?_
  refine V_if_ne (tgt := 18) d_Mo_run_13 (by decide) (fun c9 => absurd ((rfl : bI (false && true && true) = 0)) c9) (fun _ => ?_)
  refine V_iconst (v := 0) d_Mo_run_16 (by decide) ?_
  exact V_iret d_Mo_run_17 rfl rfl
theorem mo_run (hL : 45 ≤ h.length) (hn : pl ≤ 12) (hR : RS Bn wh sX sY) {x : Nat} (hx : x ≤ 20) (hZ : ∀ k, 2 * pl ≤ k → P k = 0) (R : Aj) (hR9 : R = ajR As Bn wh pl x 0 (toR As Bn wh (psR Bn wh (z8 O) pl P) (z8 O) pl) (psR Bn wh (z8 O) pl P) (z8 O) PB OB) : ∃ KP' KO', Do l G k_Mo_run [.ref 28, .int (nI x)] (moA h th w ht sd md pl sh sx sy ln hi sX sY As P O KP KO) (ri (nI R.1)) (moA h 0 w ht sd md pl sh sx sy ln hi sX sY As R.2.1 R.2.2.1 KP' KO') ∧ bd R.2.1 24 50000000 ∧ bd R.2.2.1 8 50000000 ∧ (∀ j, 2 * pl ≤ j → R.2.1 j = 0) := by
  have hO6 : bd (z8 O) 8 0 := fun k hk => by rw [z8_pt O hk]; decide
  have hP6 : bd (psR Bn wh (z8 O) pl P) 24 1000000 := ps_b hR (by omega) hO6 hn (by omega) (fun k h1 h2 => by rw [hZ k h1]; decide)
  obtain ⟨KP', KO', i1, i2, i3, i4⟩ := mo_run_l (l := l) (G := G) (th := 0) (w := w) (ht := ht) (sd := sd) (md := md) (sh := sh) (sx := sx) (sy := sy) (ln := ln) (hi := hi) hL hn hR hx x 0 (psR Bn wh (z8 O) pl P) (z8 O) PB OB KP KO R (by omega) (bd_le hP6 (by omega)) (bd_le hO6 (by omega)) (un_ps _ _ _ _ _) hR9
  refine ⟨KP', KO', ?_, i2, i3, fun j hj => by rw [i4 j hj, ps_pt, if_neg (by omega)]; exact hZ j hj⟩
  refine Do.of (by decide) (Nat.le_of_ble_eq_true rfl) kw_Mo_run ?_
  refine V_aload_n d_Mo_run_0 rfl ?_
  refine V_iload_n d_Mo_run_1 rfl ?_
  refine V_iconst (v := 0) d_Mo_run_2 (by decide) ?_
  refine V_bipush (v := 20) d_Mo_run_3 (by decide) ?_
  refine V_cS s_Mo_run_5 (mo_within (nI x) 0 20) rfl rfl (Nat.le_of_ble_eq_true rfl) ?_
  refine V_iconst (v := 1) d_Mo_run_8 (by decide) ?_
  refine V_iconst (v := 1) d_Mo_run_9 (by decide) ?_
  rw [show wiB (nI x) 0 20 = true from wi_n (b := 20) hx (by decide)]
  refine V_cV s_Mo_run_10 (mo_goes (rd hL rfl rfl) true true true) (rd hL rfl rfl) rfl rfl (Nat.le_of_ble_eq_true rfl) ?_
  refine V_hS rfl ?_
  refine V_if_ne (tgt := 18) d_Mo_run_13 (by decide) (fun _ => ?_) (fun c9 => absurd (c9 : _) ((by decide : ¬ bI (true && true && true) = 0)))
  refine V_aload_n d_Mo_run_18 rfl ?_
  refine V_cV s_Mo_run_19 (mo_begin hL hn hR) (rd hL rfl rfl) rfl rfl (Nat.le_of_ble_eq_true rfl) ?_
  refine V_iconst (v := 0) d_Mo_run_22 (by decide) ?_
  refine V_istore_n d_Mo_run_23 (by decide) rfl ?_
  refine V_iconst (v := 1) d_Mo_run_24 (by decide) ?_
  refine V_istore_n d_Mo_run_25 (by decide) rfl ?_
  exact i1 _
theorem mo_sum (hL : 45 ≤ h.length) (hn : pl ≤ 12) (hR : RS Bn wh sX sY) (hP : bd P 24 50000000) (hO : bd O 8 50000000) : Do l G k_Mo_sum [.ref 28] (moA h th w ht sd md pl sh sx sy ln hi sX sY As P O KP KO) (rl (toR As Bn wh P O pl)) (moA h 0 w ht sd md pl sh sx sy ln hi sX sY As P O KP KO) := by
  refine Do.of (by decide) (Nat.le_of_ble_eq_true rfl) kw_Mo_sum ?_
  refine V_aload_n d_Mo_sum_0 rfl ?_
  refine V_iconst (v := 0) d_Mo_sum_1 (by decide) ?_
  refine V_pf p_Mo_sum_2 (rd hL rfl rfl) (Nat.le_of_ble_eq_true rfl) rfl rfl ?_
  refine V_hS rfl ?_
  refine V_aload_n d_Mo_sum_5 rfl ?_
  refine V_cV s_Mo_sum_6 (mo_all (rd hL rfl rfl) (rd hL rfl rfl) (rd hL rfl rfl) (rd hL rfl rfl) (rd hL rfl rfl) (rd hL rfl rfl) hR (bd_le hP (by omega)) (bd_le hO (by omega)) hn) (rd hL rfl rfl) rfl rfl (Nat.le_of_ble_eq_true rfl) ?_
  exact V_lret d_Mo_sum_9 rfl
theorem mo_miss_e (hL : 45 ≤ h.length) (hn : pl ≤ 12) (p : Int32) (hE : hasB p pl = false) : Do l G k_Mo_miss [.ref 28, .int p] (moH h th w ht sd md pl sh sx sy ln hi) (rl 0) (moH h 1 w ht sd md pl sh sx sy ln hi) := by
  refine Do.of (by decide) (Nat.le_of_ble_eq_true rfl) kw_Mo_miss ?_
  refine V_aload_n d_Mo_miss_0 rfl ?_
  refine V_aload_n d_Mo_miss_1 rfl ?_
  refine V_iload_n d_Mo_miss_2 rfl ?_
  refine V_cV s_Mo_miss_3 (mo_isPlace (rd hL rfl rfl) hn p) (rd hL rfl rfl) rfl rfl (Nat.le_of_ble_eq_true rfl) ?_
  refine V_iconst (v := 1) d_Mo_miss_6 (by decide) ?_
  refine V_iconst (v := 1) d_Mo_miss_7 (by decide) ?_
  rw [hE]
  refine V_cV s_Mo_miss_8 (mo_goes (rd hL rfl rfl) false true true) (rd hL rfl rfl) rfl rfl (Nat.le_of_ble_eq_true rfl) ?_
  refine V_hS rfl ?_
  refine V_if_eq (tgt := 22) d_Mo_miss_11 (by decide) (fun _ => ?_) (fun c9 => absurd ((rfl : bI (false && true && true) = 0)) c9)
  refine V_lconst (v := 0) d_Mo_miss_22 (by decide) ?_
  exact V_lret d_Mo_miss_23 rfl
theorem mo_miss (hL : 45 ≤ h.length) (hn : pl ≤ 12) (hR : RS Bn wh sX sY) (hP : bd P 24 50000000) (hO : bd O 8 50000000) {p : Nat} (hp : p < pl) : Do l G k_Mo_miss [.ref 28, .int (nI p)] (moA h th w ht sd md pl sh sx sy ln hi sX sY As P O KP KO) (rl (shR Bn wh P O p)) (moA h 0 w ht sd md pl sh sx sy ln hi sX sY As P O KP KO) := by
  refine Do.of (by decide) (Nat.le_of_ble_eq_true rfl) kw_Mo_miss ?_
  refine V_aload_n d_Mo_miss_0 rfl ?_
  refine V_aload_n d_Mo_miss_1 rfl ?_
  refine V_iload_n d_Mo_miss_2 rfl ?_
  refine V_cV s_Mo_miss_3 (mo_isPlace (rd hL rfl rfl) hn (nI p)) (rd hL rfl rfl) rfl rfl (Nat.le_of_ble_eq_true rfl) ?_
  refine V_iconst (v := 1) d_Mo_miss_6 (by decide) ?_
  refine V_iconst (v := 1) d_Mo_miss_7 (by decide) ?_
  rw [show hasB (nI p) pl = true from has_n hp (by omega)]
  refine V_cV s_Mo_miss_8 (mo_goes (rd hL rfl rfl) true true true) (rd hL rfl rfl) rfl rfl (Nat.le_of_ble_eq_true rfl) ?_
  refine V_hS rfl ?_
  refine V_if_eq (tgt := 22) d_Mo_miss_11 (by decide) (fun c9 => absurd c9 ((by decide : ¬ bI (true && true && true) = 0))) (fun _ => ?_)
  refine V_aload_n d_Mo_miss_14 rfl ?_
  refine V_iload_n d_Mo_miss_15 rfl ?_
  refine V_cV s_Mo_miss_16 (mo_missed (rd hL rfl rfl) (rd hL rfl rfl) (rd hL rfl rfl) (rd hL rfl rfl) (rd hL rfl rfl) hR (bd_le hP (by omega)) (bd_le hO (by omega)) (show p < 12 by omega)) (rd hL rfl rfl) rfl rfl (Nat.le_of_ble_eq_true rfl) ?_
  refine V_goto (tgt := 23) d_Mo_miss_19 (by decide) ?_
  exact V_lret d_Mo_miss_23 rfl
/-- how many places are spare -/
def cnA (As : Nat → Bool) (n : Nat) : Nat := fori (fun p c => if As p then c + 1 else c) n 0 0
theorem cnA_le (As : Nat → Bool) : ∀ n, cnA As n ≤ n
  | 0 => Nat.le_refl _
  | n + 1 => by
    have := cnA_le As n
    unfold cnA at *
    rw [fori_snoc]
    split <;> omega
theorem mo_count_e (hL : 45 ≤ h.length) (x : Int32) (hE : wiB x 0 4 = false) : Do l G k_Mo_count [.ref 28, .int x] (moH h th w ht sd md pl sh sx sy ln hi) (ri 0) (moH h 1 w ht sd md pl sh sx sy ln hi) := by
  refine Do.of (by decide) (Nat.le_of_ble_eq_true rfl) kw_Mo_count ?_
  refine V_aload_n d_Mo_count_0 rfl ?_
  refine V_iload_n d_Mo_count_1 rfl ?_
  refine V_iconst (v := 0) d_Mo_count_2 (by decide) ?_
  refine V_iconst (v := 4) d_Mo_count_3 (by decide) ?_
  refine V_cS s_Mo_count_4 (mo_within x 0 4) rfl rfl (Nat.le_of_ble_eq_true rfl) ?_
  refine V_iconst (v := 1) d_Mo_count_7 (by decide) ?_
  refine V_iconst (v := 1) d_Mo_count_8 (by decide) ?_
  rw [hE]
  refine V_cV s_Mo_count_9 (mo_goes (rd hL rfl rfl) false true true) (rd hL rfl rfl) rfl rfl (Nat.le_of_ble_eq_true rfl) ?_
  refine V_hS rfl ?_
  refine V_if_ne (tgt := 17) d_Mo_count_12 (by decide) (fun c9 => absurd ((rfl : bI (false && true && true) = 0)) c9) (fun _ => ?_)
  refine V_iconst (v := 0) d_Mo_count_15 (by decide) ?_
  exact V_iret d_Mo_count_16 rfl rfl
theorem mo_count (hL : 45 ≤ h.length) (hn : pl ≤ 12) {x : Nat} (hx : x ≤ 4) : Do l G k_Mo_count [.ref 28, .int (nI x)] (hS h [(27, MoO th w ht sd md pl sh sx sy ln hi), (32, ZA 12 As)]) (ri (if x = 0 then nI w else if x = 1 then nI ht else if x = 2 then nI pl else if x = 3 then nI ln else nI (cnA As pl))) (hS h [(27, MoO 0 w ht sd md pl sh sx sy ln hi), (32, ZA 12 As)]) := by
  refine Do.of (by decide) (Nat.le_of_ble_eq_true rfl) kw_Mo_count ?_
  have loop : ∀ (H0 : List Ce) (m p c : Nat), p + m = pl → cnA As pl = fori (fun p c => if As p then c + 1 else c) m p c → V l G k_Mo_count H0 21 [(0, .ref 28), (1, .int (nI x)), (2, .int (nI c)), (3, .int (nI p))] [] (hS h [(27, MoO 0 w ht sd md pl sh sx sy ln hi), (32, ZA 12 As)]) (ri (if x = 0 then nI w else if x = 1 then nI ht else if x = 2 then nI pl else if x = 3 then nI ln else nI (cnA As pl))) (hS h [(27, MoO 0 w ht sd md pl sh sx sy ln hi), (32, ZA 12 As)]) := by
    intro H0 m
    induction m with
    | zero =>
      intro p c hp e
      rw [e]
      refine V_iload_n d_Mo_count_21 rfl ?_
      refine V_aload_n d_Mo_count_22 rfl ?_
      refine V_gf g_Mo_count_23 (rd hL rfl rfl) rfl ?_
      refine V_icmp_ge (tgt := 52) d_Mo_count_26 (by decide) (fun _ => ?_) (fun c9 => absurd ((nI_le (by omega) (by omega) : nI pl ≤ nI p)) c9)
      refine V_iload_n d_Mo_count_52 rfl ?_
      rcases (show x = 0 ∨ x = 1 ∨ x = 2 ∨ x = 3 ∨ x = 4 by omega) with z | z | z | z | z <;> subst z
      · refine V_if_ne (tgt := 63) d_Mo_count_53 (by decide) (fun c9 => absurd ((by decide : nI 0 = 0)) c9) (fun _ => ?_)
        refine V_aload_n d_Mo_count_56 rfl ?_
        refine V_gf g_Mo_count_57 (rd hL rfl rfl) rfl ?_
        refine V_goto (tgt := 100) d_Mo_count_60 (by decide) ?_
        exact V_iret d_Mo_count_100 rfl rfl
      · refine V_if_ne (tgt := 63) d_Mo_count_53 (by decide) (fun _ => ?_) (fun c9 => absurd (c9 : _) ((by decide : ¬ nI 1 = 0)))
        refine V_iload_n d_Mo_count_63 rfl ?_
        refine V_iconst (v := 1) d_Mo_count_64 (by decide) ?_
        refine V_icmp_ne (tgt := 75) d_Mo_count_65 (by decide) (fun c9 => absurd ((by decide : nI 1 = 1)) c9) (fun _ => ?_)
        refine V_aload_n d_Mo_count_68 rfl ?_
        refine V_gf g_Mo_count_69 (rd hL rfl rfl) rfl ?_
        refine V_goto (tgt := 100) d_Mo_count_72 (by decide) ?_
        exact V_iret d_Mo_count_100 rfl rfl
      · refine V_if_ne (tgt := 63) d_Mo_count_53 (by decide) (fun _ => ?_) (fun c9 => absurd (c9 : _) ((by decide : ¬ nI 2 = 0)))
        refine V_iload_n d_Mo_count_63 rfl ?_
        refine V_iconst (v := 1) d_Mo_count_64 (by decide) ?_
        refine V_icmp_ne (tgt := 75) d_Mo_count_65 (by decide) (fun _ => ?_) (fun c9 => absurd (c9 : _) ((by decide : ¬ nI 2 = 1)))
        refine V_iload_n d_Mo_count_75 rfl ?_
        refine V_iconst (v := 2) d_Mo_count_76 (by decide) ?_
        refine V_icmp_ne (tgt := 87) d_Mo_count_77 (by decide) (fun c9 => absurd ((by decide : nI 2 = 2)) c9) (fun _ => ?_)
        refine V_aload_n d_Mo_count_80 rfl ?_
        refine V_gf g_Mo_count_81 (rd hL rfl rfl) rfl ?_
        refine V_goto (tgt := 100) d_Mo_count_84 (by decide) ?_
        exact V_iret d_Mo_count_100 rfl rfl
      · refine V_if_ne (tgt := 63) d_Mo_count_53 (by decide) (fun _ => ?_) (fun c9 => absurd (c9 : _) ((by decide : ¬ nI 3 = 0)))
        refine V_iload_n d_Mo_count_63 rfl ?_
        refine V_iconst (v := 1) d_Mo_count_64 (by decide) ?_
        refine V_icmp_ne (tgt := 75) d_Mo_count_65 (by decide) (fun _ => ?_) (fun c9 => absurd (c9 : _) ((by decide : ¬ nI 3 = 1)))
        refine V_iload_n d_Mo_count_75 rfl ?_
        refine V_iconst (v := 2) d_Mo_count_76 (by decide) ?_
        refine V_icmp_ne (tgt := 87) d_Mo_count_77 (by decide) (fun _ => ?_) (fun c9 => absurd (c9 : _) ((by decide : ¬ nI 3 = 2)))
        refine V_iload_n d_Mo_count_87 rfl ?_
        refine V_iconst (v := 3) d_Mo_count_88 (by decide) ?_
        refine V_icmp_ne (tgt := 99) d_Mo_count_89 (by decide) (fun c9 => absurd ((by decide : nI 3 = 3)) c9) (fun _ => ?_)
        refine V_aload_n d_Mo_count_92 rfl ?_
        refine V_gf g_Mo_count_93 (rd hL rfl rfl) rfl ?_
        refine V_goto (tgt := 100) d_Mo_count_96 (by decide) ?_
        exact V_iret d_Mo_count_100 rfl rfl
      · refine V_if_ne (tgt := 63) d_Mo_count_53 (by decide) (fun _ => ?_) (fun c9 => absurd (c9 : _) ((by decide : ¬ nI 4 = 0)))
        refine V_iload_n d_Mo_count_63 rfl ?_
        refine V_iconst (v := 1) d_Mo_count_64 (by decide) ?_
        refine V_icmp_ne (tgt := 75) d_Mo_count_65 (by decide) (fun _ => ?_) (fun c9 => absurd (c9 : _) ((by decide : ¬ nI 4 = 1)))
        refine V_iload_n d_Mo_count_75 rfl ?_
        refine V_iconst (v := 2) d_Mo_count_76 (by decide) ?_
        refine V_icmp_ne (tgt := 87) d_Mo_count_77 (by decide) (fun _ => ?_) (fun c9 => absurd (c9 : _) ((by decide : ¬ nI 4 = 2)))
        refine V_iload_n d_Mo_count_87 rfl ?_
        refine V_iconst (v := 3) d_Mo_count_88 (by decide) ?_
        refine V_icmp_ne (tgt := 99) d_Mo_count_89 (by decide) (fun _ => ?_) (fun c9 => absurd (c9 : _) ((by decide : ¬ nI 4 = 3)))
        refine V_iload_n d_Mo_count_99 rfl ?_
        exact V_iret d_Mo_count_100 rfl rfl
    | succ m ih =>
      intro p c hp e
      rw [fori_s] at e
      refine V_iload_n d_Mo_count_21 rfl ?_
      refine V_aload_n d_Mo_count_22 rfl ?_
      refine V_gf g_Mo_count_23 (rd hL rfl rfl) rfl ?_
      refine V_icmp_ge (tgt := 52) d_Mo_count_26 (by decide) (fun c9 => absurd c9 ((nI_ge (by omega) (by omega) : ¬ nI pl ≤ nI p))) (fun _ => ?_)
      refine V_aload_n d_Mo_count_29 rfl ?_
      refine V_gf g_Mo_count_30 (rd hL rfl rfl) rfl ?_
      refine V_iload_n d_Mo_count_33 rfl ?_
      refine V_zaldN d_Mo_count_34 (rd hL rfl rfl) (Ix.of (show p < 12 by omega) (by decide)) ?_
      refine V_if_eq (tgt := 44) d_Mo_count_35 (by decide) (fun c1 => ?_) (fun c1 => ?_)
      · rw [if_neg (by rw [(bI_0 _).mp c1]; decide)] at e
        refine V_iload_n d_Mo_count_44 rfl ?_
        refine V_istore_n d_Mo_count_45 (by decide) rfl ?_
        refine V_iinc1 d_Mo_count_46 rfl (by decide) rfl ?_
        refine V_goto (tgt := 21) d_Mo_count_49 (by decide) ?_
        rw [nI_1]
        exact ih (p + 1) c (by omega) e
      · rw [if_pos (show As p = true by simpa [bI_0] using c1)] at e
        refine V_iload_n d_Mo_count_38 rfl ?_
        refine V_iconst (v := 1) d_Mo_count_39 (by decide) ?_
        refine V_iadd d_Mo_count_40 ?_
        rw [nI_1]
        refine V_goto (tgt := 45) d_Mo_count_41 (by decide) ?_
        refine V_istore_n d_Mo_count_45 (by decide) rfl ?_
        refine V_iinc1 d_Mo_count_46 rfl (by decide) rfl ?_
        refine V_goto (tgt := 21) d_Mo_count_49 (by decide) ?_
        rw [nI_1]
        exact ih (p + 1) (c + 1) (by omega) e
  refine V_aload_n d_Mo_count_0 rfl ?_
  refine V_iload_n d_Mo_count_1 rfl ?_
  refine V_iconst (v := 0) d_Mo_count_2 (by decide) ?_
  refine V_iconst (v := 4) d_Mo_count_3 (by decide) ?_
  refine V_cS s_Mo_count_4 (mo_within (nI x) 0 4) rfl rfl (Nat.le_of_ble_eq_true rfl) ?_
  refine V_iconst (v := 1) d_Mo_count_7 (by decide) ?_
  refine V_iconst (v := 1) d_Mo_count_8 (by decide) ?_
  rw [show wiB (nI x) 0 4 = true from wi_n (b := 4) hx (by decide)]
  refine V_cV s_Mo_count_9 (mo_goes (rd hL rfl rfl) true true true) (rd hL rfl rfl) rfl rfl (Nat.le_of_ble_eq_true rfl) ?_
  refine V_hS rfl ?_
  refine V_if_ne (tgt := 17) d_Mo_count_12 (by decide) (fun _ => ?_) (fun c9 => absurd (c9 : _) ((by decide : ¬ bI (true && true && true) = 0)))
  refine V_iconst (v := 0) d_Mo_count_17 (by decide) ?_
  refine V_istore_n d_Mo_count_18 (by decide) rfl ?_
  refine V_iconst (v := 0) d_Mo_count_19 (by decide) ?_
  refine V_istore_n d_Mo_count_20 (by decide) rfl ?_
  exact loop _ pl 0 0 (by omega) rfl
end P41
