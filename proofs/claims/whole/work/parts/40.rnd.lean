section P40
/-- one cell after the other is set -/
theorem cp_pt (g : Nat → Int32) (f : Nat → Int32) (j : Nat) : ∀ m, fori (fun k f => upd f k (g k)) m 0 f j = if j < m then g j else f j
  | 0 => rfl
  | m + 1 => by
    rw [fori_snoc, Nat.zero_add]
    show (if j = m then g m else fori (fun k f => upd f k (g k)) m 0 f j) = _
    rw [cp_pt g f j m]
    by_cases e : j = m
    · subst e
      rw [if_pos rfl, if_pos (by omega)]
    · rw [if_neg e]
      by_cases q : j < m
      · rw [if_pos q, if_pos (by omega)]
      · rw [if_neg q, if_neg (by omega)]
theorem cp8_pt (g : Nat → Int32) (f : Nat → Int32) (j : Nat) : ∀ m, fori (fun k f => upd f (k % 8) (g (k % 8))) m 0 f j = if j < 8 ∧ j < m then g j else f j
  | 0 => by rw [if_neg (by omega)]; rfl
  | m + 1 => by
    rw [fori_snoc, Nat.zero_add]
    show (if j = m % 8 then g (m % 8) else fori (fun k f => upd f (k % 8) (g (k % 8))) m 0 f j) = _
    rw [cp8_pt g f j m]
    by_cases e : j = m % 8
    · rw [if_pos e, if_pos (by omega), e]
    · rw [if_neg e]
      by_cases q : j < 8 ∧ j < m
      · rw [if_pos q, if_pos (by omega)]
      · rw [if_neg q, if_neg (by omega)]
def flP (Bn : Nat → Bool) (wh O : Nat → Int32) (m : Nat) (P : Nat → Int32) : Nat → Int32 := fori (fun k P => plR Bn wh O (k / 2) (k % 2) P) m 0 P
theorem flP_s (Bn : Nat → Bool) (wh O : Nat → Int32) (m : Nat) (P : Nat → Int32) : flP Bn wh O (m + 1) P = plR Bn wh O (m / 2) (m % 2) (flP Bn wh O m P) := by
  unfold flP
  rw [fori_snoc, Nat.zero_add]
theorem flP_ps (Bn : Nat → Bool) (wh O : Nat → Int32) (n : Nat) (P : Nat → Int32) : flP Bn wh O (2 * n) P = psR Bn wh O n P := by
  unfold flP psR
  exact (flat2 (fun p x P => plR Bn wh O p x P) n 0 P).symm
theorem pl_u (Bn : Nat → Bool) (wh O : Nat → Int32) (k : Nat) (P : Nat → Int32) : plR Bn wh O (k / 2) (k % 2) P = upd P k (mvR Bn wh O (k / 2) (k % 2)) := by
  unfold plR mvR
  rw [show k / 2 * 2 + k % 2 = k by omega]
theorem flP_pt (Bn : Nat → Bool) (wh O P : Nat → Int32) (j : Nat) : ∀ m, flP Bn wh O m P j = if j < m then mvR Bn wh O (j / 2) (j % 2) else P j
  | 0 => rfl
  | m + 1 => by
    rw [flP_s, pl_u]
    unfold upd
    rw [flP_pt Bn wh O P j m]
    by_cases e : j = m
    · subst e
      rw [if_pos rfl, if_pos (by omega)]
    · rw [if_neg e]
      by_cases q : j < m
      · rw [if_pos q, if_pos (by omega)]
      · rw [if_neg q, if_neg (by omega)]
theorem ps_pt (Bn : Nat → Bool) (wh O : Nat → Int32) (n : Nat) (P : Nat → Int32) (j : Nat) : psR Bn wh O n P j = if j < 2 * n then mvR Bn wh O (j / 2) (j % 2) else P j := by
  rw [← flP_ps, flP_pt]
def flO (As Bn : Nat → Bool) (wh P : Nat → Int32) (n m : Nat) (O : Nat → Int32) : Nat → Int32 := fori (fun k O => mpR As Bn wh P O n (k / 2) (k % 2)) m 2 O
theorem flO_s (As Bn : Nat → Bool) (wh P : Nat → Int32) (n m : Nat) (O : Nat → Int32) : flO As Bn wh P n (m + 1) O = mpR As Bn wh P (flO As Bn wh P n m O) n ((2 + m) / 2) ((2 + m) % 2) := by
  unfold flO
  rw [fori_snoc]
theorem flO_ro (As Bn : Nat → Bool) (wh P : Nat → Int32) (n : Nat) (O : Nat → Int32) : flO As Bn wh P n 6 O = roO As Bn wh P n O := by
  unfold flO roO
  exact (flat2 (fun q x O => mpR As Bn wh P O n q x) 3 1 O).symm
/-- how many photos see the place -/
def cnS (Bn : Nat → Bool) (p : Nat) : Nat := fori (fun q c => if Bn (p * 4 + q) then c + 1 else c) 4 0 0
theorem cn_eq (Bn : Nat → Bool) (wh O : Nat → Int32) (p x : Nat) : ∀ (n i : Nat) (s : Ac), (fori (plS Bn wh O p x) n i s).2 = fori (fun q c => if Bn (p * 4 + q) then c + 1 else c) n i s.2
  | 0, _, _ => rfl
  | n + 1, i, s => by
    rw [fori_s, fori_s, cn_eq Bn wh O p x n]
    congr 1
    unfold plS
    split <;> rfl
/-- a place that no photo sees is at 0, 0 -/
def Un (Bn : Nat → Bool) (n : Nat) (P : Nat → Int32) : Prop := ∀ k, k < 2 * n → cnS Bn (k / 2) = 0 → P k = 0
theorem un_ps (Bn : Nat → Bool) (wh O : Nat → Int32) (n : Nat) (P : Nat → Int32) : Un Bn n (psR Bn wh O n P) := by
  intro k hk hc
  rw [ps_pt, if_pos hk]
  unfold mvR meanR
  rw [if_pos (by rw [cn_eq]; exact hc)]
theorem z8_pt (O : Nat → Int32) {k : Nat} (hk : k < 8) : z8 O k = 0 := by
  unfold z8
  rw [cp_pt (fun _ => 0) O k 8, if_pos hk]
variable {l : Launch} {G : Gb} {h h0 h' : List Ce} {r : Rs} {th sx sy : Int32} {w ht sd pl ln : Nat} {md sh hi : Bool} {sX sY wh P O KP KO : Nat → Int32} {Bn As : Nat → Bool}
theorem ps_b (hR : RS Bn wh sX sY) {B B' : Int} (hB : 0 ≤ B ∧ B ≤ 100000000) (hO : bd O 8 B) (hn : pl ≤ 12) (h1 : 999000 + B ≤ B') (hP : ∀ k, 2 * pl ≤ k → k < 24 → -B' ≤ (P k).toInt ∧ (P k).toInt ≤ B') : bd (psR Bn wh O pl P) 24 B' := by
  intro k hk
  rw [ps_pt]
  by_cases q : k < 2 * pl
  · rw [if_pos q]
    have := mv_b hR hB hO (show k / 2 < 12 by omega) (show k % 2 < 2 by omega)
    omega
  · rw [if_neg q]
    exact hP k (by omega) hk
theorem flO_b (hR : RS Bn wh sX sY) {B B' : Int} (hB : 0 ≤ B ∧ B ≤ 100000000) (hP : bd P 24 B) (hn : pl ≤ 12) (h1 : 999000 + B ≤ B') (hO : bd O 8 B') : ∀ m, m ≤ 6 → bd (flO As Bn wh P pl m O) 8 B'
  | 0, _ => hO
  | m + 1, hm => by
    have ih := flO_b hR hB hP hn h1 hO m (by omega)
    rw [flO_s]
    intro k hk
    by_cases e : k = (2 + m) / 2 * 2 + (2 + m) % 2
    · have := mp_b (As := As) (O := flO As Bn wh P pl m O) hR hB hP hn (show (2 + m) / 2 < 4 by omega) (show (2 + m) % 2 < 2 by omega)
      rw [← e] at this
      rcases this with a | a
      · omega
      · rw [a]
        exact ih k hk
    · unfold mpR upd
      rw [if_neg e]
      exact ih k hk
abbrev moA (h : List Ce) (th : Int32) (w ht sd : Nat) (md : Bool) (pl : Nat) (sh : Bool) (sx sy : Int32) (ln : Nat) (hi : Bool) (sX sY : Nat → Int32) (As : Nat → Bool) (P O KP KO : Nat → Int32) : List Ce := hS h [(27, MoO th w ht sd md pl sh sx sy ln hi), (30, IA 48 sX), (31, IA 48 sY), (32, ZA 12 As), (33, IA 24 P), (34, IA 8 O), (35, IA 24 KP), (36, IA 8 KO)]
theorem mo_round (hL : 45 ≤ h.length) (hn : pl ≤ 12) (hR : RS Bn wh sX sY) {B B' : Int} (hB : 0 ≤ B ∧ B ≤ 90000000) (hP : bd P 24 B) (h1 : 999000 + B ≤ B' ∧ B' ≤ 100000000) (hO : bd O 8 B') (hU : Un Bn pl P) : Do l G k_Mo_round [.ref 28] (moA h th w ht sd md pl sh sx sy ln hi sX sY As P O KP KO) rv (moA h th w ht sd md pl sh sx sy ln hi sX sY As (psR Bn wh (roO As Bn wh P pl O) pl P) (roO As Bn wh P pl O) KP KO) := by
  refine Do.of (by decide) (Nat.le_of_ble_eq_true rfl) kw_Mo_round ?_
  have hO6 : bd (roO As Bn wh P pl O) 8 B' := by rw [← flO_ro]; exact flO_b hR (by omega) hP hn h1.1 hO 6 (by omega)
  generalize hO9 : roO As Bn wh P pl O = O9 at hO6
  have loop2 : ∀ (m k : Nat), k + m = 2 * pl → V l G k_Mo_round (moA h th w ht sd md pl sh sx sy ln hi sX sY As P O KP KO) 26 [(0, .ref 28), (1, .int (nI k))] [] (moA h th w ht sd md pl sh sx sy ln hi sX sY As (flP Bn wh O9 k P) O9 KP KO) rv (moA h th w ht sd md pl sh sx sy ln hi sX sY As (psR Bn wh O9 pl P) O9 KP KO) := by
    intro m
    induction m with
    | zero =>
      intro k hk
      obtain rfl : k = 2 * pl := by omega
      rw [flP_ps]
      refine V_iload_n d_Mo_round_26 rfl ?_
      refine V_iconst (v := 2) d_Mo_round_27 (by decide) ?_
      refine V_aload_n d_Mo_round_28 rfl ?_
      refine V_gf g_Mo_round_29 (rd hL rfl rfl) rfl ?_
      refine V_imul d_Mo_round_32 ?_
      rw [show (2 : Int32) = nI 2 from rfl, pk_mul]
      refine V_icmp_ge (tgt := 52) d_Mo_round_33 (by decide) (fun _ => ?_) (fun c9 => absurd ((nI_le (by omega) (by omega) : nI (2 * pl) ≤ nI (2 * pl))) c9)
      exact V_vret d_Mo_round_52 rfl
    | succ m ih =>
      intro k hk
      refine V_iload_n d_Mo_round_26 rfl ?_
      refine V_iconst (v := 2) d_Mo_round_27 (by decide) ?_
      refine V_aload_n d_Mo_round_28 rfl ?_
      refine V_gf g_Mo_round_29 (rd hL rfl rfl) rfl ?_
      refine V_imul d_Mo_round_32 ?_
      rw [show (2 : Int32) = nI 2 from rfl, pk_mul]
      refine V_icmp_ge (tgt := 52) d_Mo_round_33 (by decide) (fun c9 => absurd c9 ((nI_ge (by omega) (by omega) : ¬ nI (2 * pl) ≤ nI k))) (fun _ => ?_)
      refine V_aload_n d_Mo_round_36 rfl ?_
      refine V_iload_n d_Mo_round_37 rfl ?_
      refine V_iconst (v := 2) d_Mo_round_38 (by decide) ?_
      refine V_idiv d_Mo_round_39 (by decide) ?_
      refine V_iload_n d_Mo_round_40 rfl ?_
      refine V_iconst (v := 2) d_Mo_round_41 (by decide) ?_
      refine V_irem d_Mo_round_42 (by decide) ?_
      rw [r2 (by omega), d2 (by omega)]
      refine V_cV s_Mo_round_43 (mo_put (rd hL rfl rfl) (rd hL rfl rfl) (rd hL rfl rfl) (rd hL rfl rfl) (rd hL rfl rfl) hR (B := B') (by omega) hO6 (show k / 2 < 12 by omega) (show k % 2 < 2 by omega) (fun hc => ?_)) (rd hL rfl rfl) rfl rfl (Nat.le_of_ble_eq_true rfl) ?_
      · rw [show k / 2 * 2 + k % 2 = k by omega, flP_pt, if_neg (by omega)]
        exact hU k (by omega) (by rw [cn_eq] at hc; exact hc)
      · refine V_hS rfl ?_
        rw [← flP_s]
        refine V_iinc1 d_Mo_round_46 rfl (by decide) rfl ?_
        refine V_goto (tgt := 26) d_Mo_round_49 (by decide) ?_
        rw [nI_1]
        exact ih (k + 1) (by omega)
  have loop1 : ∀ (m k : Nat), k + m = 6 → V l G k_Mo_round (moA h th w ht sd md pl sh sx sy ln hi sX sY As P O KP KO) 2 [(0, .ref 28), (1, .int (nI (2 + k)))] [] (moA h th w ht sd md pl sh sx sy ln hi sX sY As P (flO As Bn wh P pl k O) KP KO) rv (moA h th w ht sd md pl sh sx sy ln hi sX sY As (psR Bn wh O9 pl P) O9 KP KO) := by
    intro m
    induction m with
    | zero =>
      intro k hk
      obtain rfl : k = 6 := by omega
      rw [flO_ro, hO9]
      refine V_iload_n d_Mo_round_2 rfl ?_
      refine V_bipush (v := 8) d_Mo_round_3 (by decide) ?_
      refine V_icmp_ge (tgt := 24) d_Mo_round_5 (by decide) (fun _ => ?_) (fun c9 => absurd ((by decide : (8 : Int32) ≤ nI (2 + 6))) c9)
      refine V_iconst (v := 0) d_Mo_round_24 (by decide) ?_
      refine V_istore_n d_Mo_round_25 (by decide) rfl ?_
      exact loop2 (2 * pl) 0 (by omega)
    | succ m ih =>
      intro k hk
      refine V_iload_n d_Mo_round_2 rfl ?_
      refine V_bipush (v := 8) d_Mo_round_3 (by decide) ?_
      refine V_icmp_ge (tgt := 24) d_Mo_round_5 (by decide) (fun c9 => absurd c9 ((nI_ge (b := 8) (by omega) (by decide) : ¬ (8 : Int32) ≤ nI (2 + k)))) (fun _ => ?_)
      refine V_aload_n d_Mo_round_8 rfl ?_
      refine V_iload_n d_Mo_round_9 rfl ?_
      refine V_iconst (v := 2) d_Mo_round_10 (by decide) ?_
      refine V_idiv d_Mo_round_11 (by decide) ?_
      refine V_iload_n d_Mo_round_12 rfl ?_
      refine V_iconst (v := 2) d_Mo_round_13 (by decide) ?_
      refine V_irem d_Mo_round_14 (by decide) ?_
      rw [r2 (by omega), d2 (by omega)]
      refine V_cV s_Mo_round_15 (mo_move (rd hL rfl rfl) (rd hL rfl rfl) (rd hL rfl rfl) (rd hL rfl rfl) (rd hL rfl rfl) (rd hL rfl rfl) hR (B := B) (by omega) hP hn (show (2 + k) / 2 < 4 by omega) (show (2 + k) % 2 < 2 by omega)) (rd hL rfl rfl) rfl rfl (Nat.le_of_ble_eq_true rfl) ?_
      refine V_hS rfl ?_
      rw [← flO_s]
      refine V_iinc1 d_Mo_round_18 rfl (by decide) rfl ?_
      refine V_goto (tgt := 2) d_Mo_round_21 (by decide) ?_
      rw [nI_1]
      exact ih (k + 1) (by omega)
  refine V_iconst (v := 2) d_Mo_round_0 (by decide) ?_
  refine V_istore_n d_Mo_round_1 (by decide) rfl ?_
  exact loop1 6 0 (by omega)
theorem mo_begin (hL : 45 ≤ h.length) (hn : pl ≤ 12) (hR : RS Bn wh sX sY) : Do l G k_Mo_begin [.ref 28] (moA h th w ht sd md pl sh sx sy ln hi sX sY As P O KP KO) rv (moA h th w ht sd md pl sh sx sy ln hi sX sY As (psR Bn wh (z8 O) pl P) (z8 O) KP KO) := by
  refine Do.of (by decide) (Nat.le_of_ble_eq_true rfl) kw_Mo_begin ?_
  have hO6 : bd (z8 O) 8 0 := fun k hk => by rw [z8_pt O hk]; decide
  generalize hO9 : z8 O = O9 at hO6
  have loop2 : ∀ (m k : Nat), k + m = 2 * pl → V l G k_Mo_begin (moA h th w ht sd md pl sh sx sy ln hi sX sY As P O KP KO) 23 [(0, .ref 28), (1, .int (nI k))] [] (moA h th w ht sd md pl sh sx sy ln hi sX sY As (flP Bn wh O9 k P) O9 KP KO) rv (moA h th w ht sd md pl sh sx sy ln hi sX sY As (psR Bn wh O9 pl P) O9 KP KO) := by
    intro m
    induction m with
    | zero =>
      intro k hk
      obtain rfl : k = 2 * pl := by omega
      rw [flP_ps]
      refine V_iload_n d_Mo_begin_23 rfl ?_
      refine V_iconst (v := 2) d_Mo_begin_24 (by decide) ?_
      refine V_aload_n d_Mo_begin_25 rfl ?_
      refine V_gf g_Mo_begin_26 (rd hL rfl rfl) rfl ?_
      refine V_imul d_Mo_begin_29 ?_
      rw [show (2 : Int32) = nI 2 from rfl, pk_mul]
      refine V_icmp_ge (tgt := 56) d_Mo_begin_30 (by decide) (fun _ => ?_) (fun c9 => absurd ((nI_le (by omega) (by omega) : nI (2 * pl) ≤ nI (2 * pl))) c9)
      exact V_vret d_Mo_begin_56 rfl
    | succ m ih =>
      intro k hk
      refine V_iload_n d_Mo_begin_23 rfl ?_
      refine V_iconst (v := 2) d_Mo_begin_24 (by decide) ?_
      refine V_aload_n d_Mo_begin_25 rfl ?_
      refine V_gf g_Mo_begin_26 (rd hL rfl rfl) rfl ?_
      refine V_imul d_Mo_begin_29 ?_
      rw [show (2 : Int32) = nI 2 from rfl, pk_mul]
      refine V_icmp_ge (tgt := 56) d_Mo_begin_30 (by decide) (fun c9 => absurd c9 ((nI_ge (by omega) (by omega) : ¬ nI (2 * pl) ≤ nI k))) (fun _ => ?_)
      refine V_aload_n d_Mo_begin_33 rfl ?_
      refine V_gf g_Mo_begin_34 (rd hL rfl rfl) rfl ?_
      refine V_iload_n d_Mo_begin_37 rfl ?_
      refine V_iconst (v := 0) d_Mo_begin_38 (by decide) ?_
      refine V_iastN d_Mo_begin_39 (rd hL rfl rfl) (Ix.of (show k < 24 by omega) (by decide)) ?_
      refine V_hS rfl ?_
      refine V_aload_n d_Mo_begin_40 rfl ?_
      refine V_iload_n d_Mo_begin_41 rfl ?_
      refine V_iconst (v := 2) d_Mo_begin_42 (by decide) ?_
      refine V_idiv d_Mo_begin_43 (by decide) ?_
      refine V_iload_n d_Mo_begin_44 rfl ?_
      refine V_iconst (v := 2) d_Mo_begin_45 (by decide) ?_
      refine V_irem d_Mo_begin_46 (by decide) ?_
      rw [r2 (by omega), d2 (by omega)]
      refine V_cV s_Mo_begin_47 (mo_put (rd hL rfl rfl) (rd hL rfl rfl) (rd hL rfl rfl) (rd hL rfl rfl) (rd hL rfl rfl) hR (B := 0) (by omega) hO6 (show k / 2 < 12 by omega) (show k % 2 < 2 by omega) (fun hc => ?_)) (rd hL rfl rfl) rfl rfl (Nat.le_of_ble_eq_true rfl) ?_
      · rw [show k / 2 * 2 + k % 2 = k by omega]
        exact if_pos rfl
      · refine V_hS rfl ?_
        have e : plR Bn wh O9 (k / 2) (k % 2) (upd (flP Bn wh O9 k P) k 0) = flP Bn wh O9 (k + 1) P := by
          rw [flP_s, pl_u, pl_u]
          funext j
          unfold upd
          by_cases q : j = k
          · rw [if_pos q, if_pos q]
          · rw [if_neg q, if_neg q, if_neg q]
        rw [e]
        refine V_iinc1 d_Mo_begin_50 rfl (by decide) rfl ?_
        refine V_goto (tgt := 23) d_Mo_begin_53 (by decide) ?_
        rw [nI_1]
        exact ih (k + 1) (by omega)
  have loop1 : ∀ (m k : Nat) (f : Nat → Int32), k + m = 8 → O9 = fori (fun i f => upd f i 0) m k f → V l G k_Mo_begin (moA h th w ht sd md pl sh sx sy ln hi sX sY As P O KP KO) 2 [(0, .ref 28), (1, .int (nI k))] [] (moA h th w ht sd md pl sh sx sy ln hi sX sY As P f KP KO) rv (moA h th w ht sd md pl sh sx sy ln hi sX sY As (psR Bn wh O9 pl P) O9 KP KO) := by
    intro m
    induction m with
    | zero =>
      intro k f hk e
      obtain rfl : k = 8 := by omega
      rw [show f = O9 from e.symm]
      refine V_iload_n d_Mo_begin_2 rfl ?_
      refine V_bipush (v := 8) d_Mo_begin_3 (by decide) ?_
      refine V_icmp_ge (tgt := 21) d_Mo_begin_5 (by decide) (fun _ => ?_) (fun c9 => absurd ((by decide : (8 : Int32) ≤ nI 8)) c9)
      refine V_iconst (v := 0) d_Mo_begin_21 (by decide) ?_
      refine V_istore_n d_Mo_begin_22 (by decide) rfl ?_
      exact loop2 (2 * pl) 0 (by omega)
    | succ m ih =>
      intro k f hk e
      rw [fori_s] at e
      refine V_iload_n d_Mo_begin_2 rfl ?_
      refine V_bipush (v := 8) d_Mo_begin_3 (by decide) ?_
      refine V_icmp_ge (tgt := 21) d_Mo_begin_5 (by decide) (fun c9 => absurd c9 ((nI_ge (b := 8) (by omega) (by decide) : ¬ (8 : Int32) ≤ nI k))) (fun _ => ?_)
      refine V_aload_n d_Mo_begin_8 rfl ?_
      refine V_gf g_Mo_begin_9 (rd hL rfl rfl) rfl ?_
      refine V_iload_n d_Mo_begin_12 rfl ?_
      refine V_iconst (v := 0) d_Mo_begin_13 (by decide) ?_
      refine V_iastN d_Mo_begin_14 (rd hL rfl rfl) (Ix.of (show k < 8 by omega) (by decide)) ?_
      refine V_hS rfl ?_
      refine V_iinc1 d_Mo_begin_15 rfl (by decide) rfl ?_
      refine V_goto (tgt := 2) d_Mo_begin_18 (by decide) ?_
      rw [nI_1]
      exact ih (k + 1) _ (by omega) e
  refine V_iconst (v := 0) d_Mo_begin_0 (by decide) ?_
  refine V_istore_n d_Mo_begin_1 (by decide) rfl ?_
  exact loop1 8 0 O (by omega) hO9.symm
end P40
