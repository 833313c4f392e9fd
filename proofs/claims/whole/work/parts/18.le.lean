section P18
variable {l : Launch} {G : Gb} {h : List Ce} {n : Nat} {P Ln : Nat → Int32} {F T : Nat → Nat}
theorem lgc0 (x y : Int64) : lg_cmp x y = 0 ↔ x = y := by
  unfold lg_cmp
  constructor
  · intro e
    split at e
    · exact absurd e (by decide)
    · split at e
      · assumption
      · exact absurd e (by decide)
  · rintro rfl
    have : ¬ x < x := by rw [Int64.lt_iff_toInt_lt]; omega
    simp [this]
/-- a loop downwards: k = n - 1 first, 0 last -/
def ford {σ : Type} (f : Nat → σ → σ) : Nat → σ → σ
  | 0, s => s
  | n + 1, s => ford f n (f n s)
abbrev NA (N : Nat) (F : Nat → Nat) : Ce := IA N (fun i => nI (F i))
def updN (F : Nat → Nat) (k v : Nat) : Nat → Nat := fun i => if i = k then v else F i
theorem updN_I (F : Nat → Nat) (k v : Nat) : upd (fun i => nI (F i)) k (nI v) = fun i => nI (updN F k v i) := by
  funext i
  simp only [upd, updN]
  by_cases e : i = k <;> simp [e]
abbrev LeO (n : Nat) : Ce := .inr (2, [.ref 19, .ref 20, .ref 21, .int (nI n)])
theorem do_Le_number (c_Le : h[17]? = some (LeO n)) : Do l G k_Le_number [.ref 18] h (ri (nI n)) h := by
  refine Do.of (by decide) (Nat.le_of_ble_eq_true rfl) kw_Le_number ?_
  refine V_aload_n d_Le_number_0 rfl ?_
  refine V_gf g_Le_number_1 c_Le rfl ?_
  exact V_iret d_Le_number_4 rfl rfl
abbrev leH (h : List Ce) (P : Nat → Int32) (n : Nat) (F T : Nat → Nat) (Ln : Nat → Int32) : List Ce := hS h [(12, AdO), (13, IA 24 P), (17, LeO n), (18, NA 10 F), (19, NA 10 T), (20, IA 10 Ln)]
theorem do_Le_add (hL : 27 ≤ h.length) (hn : n < 10) (a b : Nat) (k : Int32) : Do l G k_Le_add [.ref 18, .int (nI a), .int (nI b), .int k] (leH h P n F T Ln) (ri (nI (n + 1))) (leH h P (n + 1) (updN F n a) (updN T n b) (upd Ln n k)) := by
  refine Do.of (by decide) (Nat.le_of_ble_eq_true rfl) kw_Le_add ?_
  show V l G k_Le_add _ 0 _ _ _ _ (hS h [(12, AdO), (13, IA 24 P), (17, LeO (n + 1)), (18, IA 10 (fun i => nI (updN F n a i))), (19, IA 10 (fun i => nI (updN T n b i))), (20, IA 10 (upd Ln n k))])
  rw [← updN_I, ← updN_I]
  refine V_aload_n d_Le_add_0 rfl ?_
  refine V_gf g_Le_add_1 (rd hL rfl rfl) rfl ?_
  refine V_aload_n d_Le_add_4 rfl ?_
  refine V_gf g_Le_add_5 (rd hL rfl rfl) rfl ?_
  refine V_iload_n d_Le_add_8 rfl ?_
  refine V_iastN d_Le_add_9 (rd hL rfl rfl) (Ix.of hn (by decide)) ?_
  refine V_hS rfl ?_
  refine V_aload_n d_Le_add_10 rfl ?_
  refine V_gf g_Le_add_11 (rd hL rfl rfl) rfl ?_
  refine V_aload_n d_Le_add_14 rfl ?_
  refine V_gf g_Le_add_15 (rd hL rfl rfl) rfl ?_
  refine V_iload_n d_Le_add_18 rfl ?_
  refine V_iastN d_Le_add_19 (rd hL rfl rfl) (Ix.of hn (by decide)) ?_
  refine V_hS rfl ?_
  refine V_aload_n d_Le_add_20 rfl ?_
  refine V_gf g_Le_add_21 (rd hL rfl rfl) rfl ?_
  refine V_aload_n d_Le_add_24 rfl ?_
  refine V_gf g_Le_add_25 (rd hL rfl rfl) rfl ?_
  refine V_iload_n d_Le_add_28 rfl ?_
  refine V_iastN d_Le_add_29 (rd hL rfl rfl) (Ix.of hn (by decide)) ?_
  refine V_hS rfl ?_
  refine V_aload_n d_Le_add_30 rfl ?_
  refine V_dup d_Le_add_31 rfl ?_
  refine V_gf g_Le_add_32 (rd hL rfl rfl) rfl ?_
  refine V_iconst (v := 1) d_Le_add_35 (by decide) ?_
  refine V_iadd d_Le_add_36 ?_
  rw [nI_1]
  refine V_pf p_Le_add_37 (rd hL rfl rfl) (Nat.le_of_ble_eq_true rfl) rfl rfl ?_
  refine V_hS rfl ?_
  refine V_aload_n d_Le_add_40 rfl ?_
  refine V_gf g_Le_add_41 (rd hL rfl rfl) rfl ?_
  exact V_iret d_Le_add_44 rfl rfl
/-- the square root, rounded down, bit by bit -/
def rdS (v : Int64) (k : Nat) (r : Int64) : Int64 := if (0 : Int32) < lg_cmp ((r + (1 : Int64) <<< ((nI k).toInt64 &&& 63)) * (r + (1 : Int64) <<< ((nI k).toInt64 &&& 63))) v then r else r + (1 : Int64) <<< ((nI k).toInt64 &&& 63)
def rdR (v : Int64) : Int64 := ford (rdS v) 31 0
theorem nI_m1 (k : Nat) : nI k + Int32.ofInt (-1) = nI k - 1 := by
  rw [Int32.sub_eq_add_neg]; rfl
theorem do_Le_rootDown (v : Int64) : Do l G k_Le_rootDown [.long v] h (rl (rdR v)) h := by
  refine Do.of (by decide) (Nat.le_of_ble_eq_true rfl) kw_Le_rootDown ?_
  have loop : ∀ (m : Nat) (r : Int64), m ≤ 31 → rdR v = ford (rdS v) m r → V l G k_Le_rootDown h 6 [(0, .long v), (2, .long r), (4, .int (nI m - 1))] [] h (rl (rdR v)) h := by
    intro m
    induction m with
    | zero =>
      intro r hm e
      rw [e]
      refine V_iload d_Le_rootDown_6 rfl ?_
      refine V_if_lt (tgt := 38) d_Le_rootDown_8 (by decide) (fun _ => ?_) (fun c9 => absurd ((by decide : nI 0 - 1 < 0)) c9)
      refine V_lload_n d_Le_rootDown_38 rfl ?_
      exact V_lret d_Le_rootDown_39 rfl
    | succ m ih =>
      intro r hm e
      rw [nI_pred]
      have next : ∀ r' : Int64, r' = rdS v m r → V l G k_Le_rootDown h 32 [(0, .long v), (2, .long r'), (4, .int (nI m))] [] h (rl (rdR v)) h := by
        intro r' e'
        refine V_iinc d_Le_rootDown_32 rfl rfl (by decide) rfl ?_
        refine V_goto (tgt := 6) d_Le_rootDown_35 (by decide) ?_
        rw [nI_m1]
        exact ih r' (by omega) (by rw [e']; exact e)
      refine V_iload d_Le_rootDown_6 rfl ?_
      refine V_if_lt (tgt := 38) d_Le_rootDown_8 (by decide) (fun c9 => absurd c9 ((nI_pos (by omega) : ¬ nI m < 0))) (fun _ => ?_)
      refine V_lload_n d_Le_rootDown_11 rfl ?_
      refine V_lconst (v := 1) d_Le_rootDown_12 (by decide) ?_
      refine V_iload d_Le_rootDown_13 rfl ?_
      refine V_lshl d_Le_rootDown_15 rfl ?_
      refine V_ladd d_Le_rootDown_16 ?_
      refine V_lstore d_Le_rootDown_17 (by decide) rfl ?_
      refine V_lload d_Le_rootDown_19 rfl ?_
      refine V_lload d_Le_rootDown_21 rfl ?_
      refine V_lmul d_Le_rootDown_23 ?_
      refine V_lload_n d_Le_rootDown_24 rfl ?_
      refine V_lcmp d_Le_rootDown_25 ?_
      refine V_if_gt (tgt := 32) d_Le_rootDown_26 (by decide) (fun c1 => ?_) (fun c1 => ?_)
      · refine V_keep [0, 2, 4] ?_
        exact next r (by unfold rdS; rw [if_pos c1])
      · refine V_lload d_Le_rootDown_29 rfl ?_
        refine V_lstore_n d_Le_rootDown_31 (by decide) rfl ?_
        refine V_keep [0, 2, 4] ?_
        exact next _ (by unfold rdS; rw [if_neg c1])
  refine V_lconst (v := 0) d_Le_rootDown_0 (by decide) ?_
  refine V_lstore_n d_Le_rootDown_1 (by decide) rfl ?_
  refine V_bipush (v := 30) d_Le_rootDown_2 (by decide) ?_
  refine V_istore d_Le_rootDown_4 (by decide) rfl ?_
  exact loop 31 0 (by omega) rfl
/-- the greatest common divisor, in at most so many steps -/
def cdR : Nat → Int64 → Int64 → Int64
  | 0, a, _ => a
  | m + 1, a, b => if b = 0 then a else cdR m b (a - a / b * b)
theorem do_Le_cd (a0 b0 : Int64) : Do l G k_Le_commonDivisor [.long a0, .long b0] h (rl (cdR 100 a0 b0)) h := by
  refine Do.of (by decide) (Nat.le_of_ble_eq_true rfl) kw_Le_commonDivisor ?_
  have loop : ∀ (m k : Nat) (a b : Int64), k + m = 100 → cdR 100 a0 b0 = cdR m a b → V l G k_Le_commonDivisor h 9 [(0, .long a0), (2, .long b0), (4, .long a), (6, .long b), (8, .int (nI k))] [] h (rl (cdR 100 a0 b0)) h := by
    intro m
    induction m with
    | zero =>
      intro k a b hk e
      obtain rfl : k = 100 := by omega
      rw [e]
      refine V_iload d_Le_commonDivisor_9 rfl ?_
      refine V_bipush (v := 100) d_Le_commonDivisor_11 (by decide) ?_
      refine V_icmp_ge (tgt := 44) d_Le_commonDivisor_13 (by decide) (fun _ => ?_) (fun c9 => absurd ((by decide : (100 : Int32) ≤ nI 100)) c9)
      refine V_lload d_Le_commonDivisor_44 rfl ?_
      exact V_lret d_Le_commonDivisor_46 rfl
    | succ m ih =>
      intro k a b hk e
      refine V_iload d_Le_commonDivisor_9 rfl ?_
      refine V_bipush (v := 100) d_Le_commonDivisor_11 (by decide) ?_
      refine V_icmp_ge (tgt := 44) d_Le_commonDivisor_13 (by decide) (fun c9 => absurd c9 ((nI_ge (b := 100) (by omega) (by decide) : ¬ (100 : Int32) ≤ nI k))) (fun _ => ?_)
      refine V_lload d_Le_commonDivisor_16 rfl ?_
      refine V_lconst (v := 0) d_Le_commonDivisor_18 (by decide) ?_
      refine V_lcmp d_Le_commonDivisor_19 ?_
      refine V_if_eq (tgt := 44) d_Le_commonDivisor_20 (by decide) (fun c1 => ?_) (fun c1 => ?_)
      · have c1 := (lgc0 _ _).mp c1
        rw [e, cdR, if_pos c1]
        refine V_lload d_Le_commonDivisor_44 rfl ?_
        exact V_lret d_Le_commonDivisor_46 rfl
      · have c1 : ¬ b = 0 := fun q => c1 ((lgc0 _ _).mpr q)
        have e : cdR 100 a0 b0 = cdR m b (a - a / b * b) := by
          rw [e]
          show (if b = 0 then a else cdR m b (a - a / b * b)) = _
          rw [if_neg c1]
        refine V_lload d_Le_commonDivisor_23 rfl ?_
        refine V_lload d_Le_commonDivisor_25 rfl ?_
        refine V_lrem d_Le_commonDivisor_27 (c1) ?_
        refine V_lstore d_Le_commonDivisor_28 (by decide) rfl ?_
        refine V_lload d_Le_commonDivisor_30 rfl ?_
        refine V_lstore d_Le_commonDivisor_32 (by decide) rfl ?_
        refine V_lload d_Le_commonDivisor_34 rfl ?_
        refine V_lstore d_Le_commonDivisor_36 (by decide) rfl ?_
        refine V_iinc1 d_Le_commonDivisor_38 rfl (by decide) rfl ?_
        refine V_goto (tgt := 9) d_Le_commonDivisor_41 (by decide) ?_
        rw [nI_1]
        refine V_keep [0, 2, 4, 6, 8] ?_
        exact ih (k + 1) _ _ (by omega) e
  refine V_lload_n d_Le_commonDivisor_0 rfl ?_
  refine V_lstore d_Le_commonDivisor_1 (by decide) rfl ?_
  refine V_lload_n d_Le_commonDivisor_3 rfl ?_
  refine V_lstore d_Le_commonDivisor_4 (by decide) rfl ?_
  refine V_iconst (v := 0) d_Le_commonDivisor_6 (by decide) ?_
  refine V_istore d_Le_commonDivisor_7 (by decide) rfl ?_
  exact loop 100 0 a0 b0 (by omega) rfl
def dsR (P : Nat → Int32) (a b : Nat) : Int64 := rdR (((P (a * 2 + 0)).toInt64 - (P (b * 2 + 0)).toInt64) * ((P (a * 2 + 0)).toInt64 - (P (b * 2 + 0)).toInt64) + ((P (a * 2 + 1)).toInt64 - (P (b * 2 + 1)).toInt64) * ((P (a * 2 + 1)).toInt64 - (P (b * 2 + 1)).toInt64))
theorem do_Le_distance (c_Ad : h[12]? = some AdO) (a_Ad_positions : h[13]? = some (IA 24 P)) (a b : Nat) (ha : a < 12) (hb : b < 12) : Do l G k_Le_distance [.ref 13, .int (nI a), .int (nI b)] h (rl (dsR P a b)) h := by
  refine Do.of (by decide) (Nat.le_of_ble_eq_true rfl) kw_Le_distance ?_
  refine V_aload_n d_Le_distance_0 rfl ?_
  refine V_iload_n d_Le_distance_1 rfl ?_
  refine V_iconst (v := 0) d_Le_distance_2 (by decide) ?_
  refine V_cV s_Le_distance_3 (do_Ad_position c_Ad a_Ad_positions a 0 ha (by decide)) c_Ad rfl rfl (Nat.le_of_ble_eq_true rfl) ?_
  refine V_i2l d_Le_distance_6 ?_
  refine V_aload_n d_Le_distance_7 rfl ?_
  refine V_iload_n d_Le_distance_8 rfl ?_
  refine V_iconst (v := 0) d_Le_distance_9 (by decide) ?_
  refine V_cV s_Le_distance_10 (do_Ad_position c_Ad a_Ad_positions b 0 hb (by decide)) c_Ad rfl rfl (Nat.le_of_ble_eq_true rfl) ?_
  refine V_i2l d_Le_distance_13 ?_
  refine V_lsub d_Le_distance_14 ?_
  refine V_lstore_n d_Le_distance_15 (by decide) rfl ?_
  refine V_aload_n d_Le_distance_16 rfl ?_
  refine V_iload_n d_Le_distance_17 rfl ?_
  refine V_iconst (v := 1) d_Le_distance_18 (by decide) ?_
  refine V_cV s_Le_distance_19 (do_Ad_position c_Ad a_Ad_positions a 1 ha (by decide)) c_Ad rfl rfl (Nat.le_of_ble_eq_true rfl) ?_
  refine V_i2l d_Le_distance_22 ?_
  refine V_aload_n d_Le_distance_23 rfl ?_
  refine V_iload_n d_Le_distance_24 rfl ?_
  refine V_iconst (v := 1) d_Le_distance_25 (by decide) ?_
  refine V_cV s_Le_distance_26 (do_Ad_position c_Ad a_Ad_positions b 1 hb (by decide)) c_Ad rfl rfl (Nat.le_of_ble_eq_true rfl) ?_
  refine V_i2l d_Le_distance_29 ?_
  refine V_lsub d_Le_distance_30 ?_
  refine V_lstore d_Le_distance_31 (by decide) rfl ?_
  refine V_lload_n d_Le_distance_33 rfl ?_
  refine V_lload_n d_Le_distance_34 rfl ?_
  refine V_lmul d_Le_distance_35 ?_
  refine V_lload d_Le_distance_36 rfl ?_
  refine V_lload d_Le_distance_38 rfl ?_
  refine V_lmul d_Le_distance_40 ?_
  refine V_ladd d_Le_distance_41 ?_
  refine V_cS s_Le_distance_42 (do_Le_rootDown _) rfl rfl (Nat.le_of_ble_eq_true rfl) ?_
  exact V_lret d_Le_distance_45 rfl
theorem fori_s {σ : Type} (f : Nat → σ → σ) (n i : Nat) (s : σ) : fori f (n + 1) i s = fori f n (i + 1) (f i s) := rfl
theorem ford_s {σ : Type} (f : Nat → σ → σ) (n : Nat) (s : σ) : ford f (n + 1) s = ford f n (f n s) := rfl
abbrev Fr : Type := Int64 × Int64
def frS (P Ln : Nat → Int32) (F T : Nat → Nat) (i : Nat) (s : Fr) : Fr := (s.1 + (Ln i).toInt64 * dsR P (F i) (T i), s.2 + dsR P (F i) (T i) * dsR P (F i) (T i))
def frR (P Ln : Nat → Int32) (F T : Nat → Nat) (n : Nat) : Fr := fori (frS P Ln F T) n 0 (0, 0)
def frA (s : Fr) (part : Int32) : Int64 := if cdR 100 s.1 s.2 = 0 then (if part = 0 then 0 else 1) else (if part = 0 then s.1 else s.2) / cdR 100 s.1 s.2
theorem do_Le_fraction (hL : 27 ≤ h.length) (hn : n ≤ 10) (hF : ∀ i, i < n → F i < 12 ∧ T i < 12) (part : Int32) : Do l G k_Le_fraction [.ref 18, .ref 13, .int part] (leH h P n F T Ln) (rl (frA (frR P Ln F T n) part)) (leH h P n F T Ln) := by
  refine Do.of (by decide) (Nat.le_of_ble_eq_true rfl) kw_Le_fraction ?_
  have loop : ∀ (H0 : List Ce) (m i : Nat) (s : Fr), i + m = n → frR P Ln F T n = fori (frS P Ln F T) m i s → V l G k_Le_fraction H0 8 [(0, .ref 18), (1, .ref 13), (2, .int part), (3, .long s.1), (5, .long s.2), (7, .int (nI i))] [] (leH h P n F T Ln) (rl (frA (frR P Ln F T n) part)) (leH h P n F T Ln) := by
    intro H0 m
    induction m with
    | zero =>
      intro i s hi e
      obtain rfl : i = n := by omega
      rw [show frR P Ln F T i = s from e]
      refine V_iload d_Le_fraction_8 rfl ?_
      refine V_aload_n d_Le_fraction_10 rfl ?_
      refine V_gf g_Le_fraction_11 (rd hL rfl rfl) rfl ?_
      refine V_icmp_ge (tgt := 67) d_Le_fraction_14 (by decide) (fun _ => ?_) (fun c9 => absurd ((nI_le (Nat.le_refl _) (by omega))) c9)
      have hcd := do_Le_cd (l := l) (G := G) (h := leH h P i F T Ln) s.1 s.2
      rw [frA]
      revert hcd
      generalize cdR 100 s.1 s.2 = c
      intro hcd
      refine V_lload_n d_Le_fraction_67 rfl ?_
      refine V_lload d_Le_fraction_68 rfl ?_
      refine V_cS s_Le_fraction_70 (hcd) rfl rfl (Nat.le_of_ble_eq_true rfl) ?_
      refine V_lstore d_Le_fraction_73 (by decide) rfl ?_
      refine V_lload d_Le_fraction_75 rfl ?_
      refine V_lconst (v := 0) d_Le_fraction_77 (by decide) ?_
      refine V_lcmp d_Le_fraction_78 ?_
      refine V_if_ne (tgt := 92) d_Le_fraction_79 (by decide) (fun c1 => ?_) (fun c1 => ?_)
      · have c1 : ¬ c = 0 := fun q => c1 ((lgc0 _ _).mpr q)
        rw [if_neg c1]
        refine V_iload_n d_Le_fraction_92 rfl ?_
        refine V_if_ne (tgt := 100) d_Le_fraction_93 (by decide) (fun c2 => ?_) (fun c2 => ?_)
        · rw [if_neg c2]
          refine V_lload d_Le_fraction_100 rfl ?_
          refine V_lload d_Le_fraction_102 rfl ?_
          refine V_ldiv d_Le_fraction_104 (c1) ?_
          exact V_lret d_Le_fraction_105 rfl
        · rw [if_pos c2]
          refine V_lload_n d_Le_fraction_96 rfl ?_
          refine V_goto (tgt := 102) d_Le_fraction_97 (by decide) ?_
          refine V_lload d_Le_fraction_102 rfl ?_
          refine V_ldiv d_Le_fraction_104 (c1) ?_
          exact V_lret d_Le_fraction_105 rfl
      · have c1 := (lgc0 _ _).mp c1
        rw [if_pos c1]
        refine V_iload_n d_Le_fraction_82 rfl ?_
        refine V_if_ne (tgt := 90) d_Le_fraction_83 (by decide) (fun c2 => ?_) (fun c2 => ?_)
        · rw [if_neg c2]
          refine V_lconst (v := 1) d_Le_fraction_90 (by decide) ?_
          exact V_lret d_Le_fraction_91 rfl
        · rw [if_pos c2]
          refine V_lconst (v := 0) d_Le_fraction_86 (by decide) ?_
          refine V_goto (tgt := 91) d_Le_fraction_87 (by decide) ?_
          exact V_lret d_Le_fraction_91 rfl
    | succ m ih =>
      intro i s hi e
      refine V_iload d_Le_fraction_8 rfl ?_
      refine V_aload_n d_Le_fraction_10 rfl ?_
      refine V_gf g_Le_fraction_11 (rd hL rfl rfl) rfl ?_
      refine V_icmp_ge (tgt := 67) d_Le_fraction_14 (by decide) (fun c9 => absurd c9 ((nI_ge (by omega) (by omega) : ¬ nI n ≤ nI i))) (fun _ => ?_)
      have hds := do_Le_distance (l := l) (G := G) (h := leH h P n F T Ln) (rd hL rfl rfl) (rd hL rfl rfl) (F i) (T i) (hF i (by omega)).1 (hF i (by omega)).2
      have es : ∀ d, dsR P (F i) (T i) = d → frS P Ln F T i s = (s.1 + (Ln i).toInt64 * d, s.2 + d * d) := fun d q => by rw [← q]; rfl
      revert hds es
      generalize dsR P (F i) (T i) = d
      intro hds es
      refine V_aload_n d_Le_fraction_17 rfl ?_
      refine V_aload_n d_Le_fraction_18 rfl ?_
      refine V_gf g_Le_fraction_19 (rd hL rfl rfl) rfl ?_
      refine V_iload d_Le_fraction_22 rfl ?_
      refine V_ialdN d_Le_fraction_24 (rd hL rfl rfl) (Ix.of (show i < 10 by omega) (by decide)) ?_
      refine V_aload_n d_Le_fraction_25 rfl ?_
      refine V_gf g_Le_fraction_26 (rd hL rfl rfl) rfl ?_
      refine V_iload d_Le_fraction_29 rfl ?_
      refine V_ialdN d_Le_fraction_31 (rd hL rfl rfl) (Ix.of (show i < 10 by omega) (by decide)) ?_
      refine V_cS s_Le_fraction_32 (hds) rfl rfl (Nat.le_of_ble_eq_true rfl) ?_
      refine V_lstore d_Le_fraction_35 (by decide) rfl ?_
      refine V_lload_n d_Le_fraction_37 rfl ?_
      refine V_aload_n d_Le_fraction_38 rfl ?_
      refine V_gf g_Le_fraction_39 (rd hL rfl rfl) rfl ?_
      refine V_iload d_Le_fraction_42 rfl ?_
      refine V_ialdN d_Le_fraction_44 (rd hL rfl rfl) (Ix.of (show i < 10 by omega) (by decide)) ?_
      refine V_i2l d_Le_fraction_45 ?_
      refine V_lload d_Le_fraction_46 rfl ?_
      refine V_lmul d_Le_fraction_48 ?_
      refine V_ladd d_Le_fraction_49 ?_
      refine V_lstore_n d_Le_fraction_50 (by decide) rfl ?_
      refine V_lload d_Le_fraction_51 rfl ?_
      refine V_lload d_Le_fraction_53 rfl ?_
      refine V_lload d_Le_fraction_55 rfl ?_
      refine V_lmul d_Le_fraction_57 ?_
      refine V_ladd d_Le_fraction_58 ?_
      refine V_lstore d_Le_fraction_59 (by decide) rfl ?_
      refine V_iinc1 d_Le_fraction_61 rfl (by decide) rfl ?_
      refine V_goto (tgt := 8) d_Le_fraction_64 (by decide) ?_
      rw [nI_1]
      refine V_keep [0, 1, 2, 3, 5, 7] ?_
      refine ih (i + 1) (s.1 + (Ln i).toInt64 * d, s.2 + d * d) (by omega) ?_
      rw [fori_s, es d rfl] at e
      exact e
  refine V_lconst (v := 0) d_Le_fraction_0 (by decide) ?_
  refine V_lstore_n d_Le_fraction_1 (by decide) rfl ?_
  refine V_lconst (v := 0) d_Le_fraction_2 (by decide) ?_
  refine V_lstore d_Le_fraction_3 (by decide) rfl ?_
  refine V_iconst (v := 0) d_Le_fraction_5 (by decide) ?_
  refine V_istore d_Le_fraction_6 (by decide) rfl ?_
  exact loop _ n 0 (0, 0) (by omega) rfl
end P18
