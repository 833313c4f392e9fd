section P21
variable {l : Launch} {G : Gb} {h : List Ce} {w ht : Nat} {f C Df : Nat → Int32} {Dp : Nat → Nat} {ra : Bool}
section R
variable {K : Kt} {h0 : List Ce} {pc : Nat} {ls : List (Nat × Value)} {st : List Value} {r : Rs} {h' : List Ce}
theorem V_zast1 {a N k : Nat} {B : Nat → Bool} {i : Int32} (hd : decode K.code pc = .ok (.bastore, 1)) (hcell : h[a]? = some (ZA N B)) (hi : Ix i k N) (kk : V l G K h0 (pc + 1) ls st (h.set a (ZA N (updB B k true))) r h') : V l G K h0 pc ls (.int 1 :: .int i :: .ref (a + 1) :: st) h r h' := V_zastN (b := true) hd hcell hi kk
theorem V_zast0 {a N k : Nat} {B : Nat → Bool} {i : Int32} (hd : decode K.code pc = .ok (.bastore, 1)) (hcell : h[a]? = some (ZA N B)) (hi : Ix i k N) (kk : V l G K h0 (pc + 1) ls st (h.set a (ZA N (updB B k false))) r h') : V l G K h0 pc ls (.int 0 :: .int i :: .ref (a + 1) :: st) h r h' := V_zastN (b := false) hd hcell hi kk
end R
/-- the place of a cell in the row with a margin -/
def mi (w x y : Nat) : Nat := (y + 1) * (w + 2) + x + 1
theorem mi_lt {x y : Nat} (hx : x < w) (hy : y < ht) : mi w x y < (w + 2) * (ht + 2) ∧ w + 2 ≤ mi w x y ∧ mi w x y + (w + 2) < (w + 2) * (ht + 2) := by
  have h1 : (y + 3) * (w + 2) ≤ (ht + 2) * (w + 2) := Nat.mul_le_mul_right _ (by omega)
  have h2 : (y + 3) * (w + 2) = (y + 1) * (w + 2) + 2 * (w + 2) := by rw [← Nat.add_mul]
  have h3 : (ht + 2) * (w + 2) = (w + 2) * (ht + 2) := Nat.mul_comm _ _
  have h4 : (y + 1) * (w + 2) = y * (w + 2) + (w + 2) := by rw [Nat.add_mul, Nat.one_mul]
  unfold mi
  omega
theorem M_lt (hw : w ≤ 20) (hht : ht ≤ 20) : (w + 2) * (ht + 2) < 2 ^ 31 := by
  have : (w + 2) * (ht + 2) ≤ 22 * 22 := Nat.mul_le_mul (by omega) (by omega)
  omega
theorem do_Re_mi {qd : Int32} (c_Re : h[21]? = some (ReO w ht qd ra)) (x y : Nat) : Do l G k_Re_marginedIndex [.ref 22, .int (nI x), .int (nI y)] h (ri (nI (mi w x y))) h := by
  refine Do.of (by decide) (Nat.le_of_ble_eq_true rfl) kw_Re_marginedIndex ?_
  have e : (nI y + 1) * nI (w + 2) + nI x + 1 = nI (mi w x y) := by rw [nI_1, pk_mul, nI_add, nI_1]; rfl
  rw [← e]
  refine V_iload_n d_Re_marginedIndex_0 rfl ?_
  refine V_iconst (v := 1) d_Re_marginedIndex_1 (by decide) ?_
  refine V_iadd d_Re_marginedIndex_2 ?_
  refine V_aload_n d_Re_marginedIndex_3 rfl ?_
  refine V_gf g_Re_marginedIndex_4 c_Re rfl ?_
  refine V_imul d_Re_marginedIndex_7 ?_
  refine V_iload_n d_Re_marginedIndex_8 rfl ?_
  refine V_iadd d_Re_marginedIndex_9 ?_
  refine V_iconst (v := 1) d_Re_marginedIndex_10 (by decide) ?_
  refine V_iadd d_Re_marginedIndex_11 ?_
  exact V_iret d_Re_marginedIndex_12 rfl rfl
abbrev Cl : Type := Nat × (Nat → Nat) × (Nat → Bool)
def ciS (k : Nat) (s : Cl) : Cl := if s.2.2 k then (s.1 + 1, updN s.2.1 s.1 k, updB s.2.2 k false) else s
abbrev hoH (h : List Ce) (w ht : Nat) (f : Nat → Int32) (ra : Bool) (Dp : Nat → Nat) (Df C : Nat → Int32) (s : Cl) : List Ce := reH h w ht f (nI s.1) ra Dp Df C s.2.2 (fun i => nI (s.2.1 i))
theorem do_Re_closeIfOpen (hL : 27 ≤ h.length) (hw : w ≤ 20) (hht : ht ≤ 20) (s : Cl) (k : Nat) (hk : k < (w + 2) * (ht + 2)) (hq : s.2.2 k = true → s.1 < w * ht) : Do l G k_Re_closeIfOpen [.ref 22, .int (nI k)] (hoH h w ht f ra Dp Df C s) rv (hoH h w ht f ra Dp Df C (ciS k s)) := by
  refine Do.of (by decide) (Nat.le_of_ble_eq_true rfl) kw_Re_closeIfOpen ?_
  have hM := M_lt hw hht
  have hN := wh_lt hw hht
  refine V_aload_n d_Re_closeIfOpen_0 rfl ?_
  refine V_gf g_Re_closeIfOpen_1 (rd hL rfl rfl) rfl ?_
  refine V_iload_n d_Re_closeIfOpen_4 rfl ?_
  refine V_zaldN d_Re_closeIfOpen_5 (rd hL rfl rfl) (Ix.of hk hM) ?_
  refine V_if_eq (tgt := 36) d_Re_closeIfOpen_6 (by decide) (fun c1 => ?_) (fun c1 => ?_)
  · rw [show ciS k s = s by unfold ciS; rw [(bI_0 _).mp c1]; rfl]
    exact V_vret d_Re_closeIfOpen_36 rfl
  · have c1' : s.2.2 k = true := by simpa [bI_0] using c1
    have es : ciS k s = (s.1 + 1, updN s.2.1 s.1 k, updB s.2.2 k false) := by unfold ciS; rw [c1']; rfl
    rw [es]
    show V l G k_Re_closeIfOpen _ _ _ _ _ _ (reH h w ht f (nI (s.1 + 1)) ra Dp Df C (updB s.2.2 k false) (fun i => nI (updN s.2.1 s.1 k i)))
    rw [← updN_I]
    refine V_aload_n d_Re_closeIfOpen_9 rfl ?_
    refine V_gf g_Re_closeIfOpen_10 (rd hL rfl rfl) rfl ?_
    refine V_iload_n d_Re_closeIfOpen_13 rfl ?_
    refine V_iconst (v := 0) d_Re_closeIfOpen_14 (by decide) ?_
    refine V_zast0 d_Re_closeIfOpen_15 (rd hL rfl rfl) (Ix.of hk hM) ?_
    refine V_hS rfl ?_
    refine V_aload_n d_Re_closeIfOpen_16 rfl ?_
    refine V_gf g_Re_closeIfOpen_17 (rd hL rfl rfl) rfl ?_
    refine V_aload_n d_Re_closeIfOpen_20 rfl ?_
    refine V_gf g_Re_closeIfOpen_21 (rd hL rfl rfl) rfl ?_
    refine V_iload_n d_Re_closeIfOpen_24 rfl ?_
    refine V_iastN d_Re_closeIfOpen_25 (rd hL rfl rfl) (Ix.of (hq c1') hN) ?_
    refine V_hS rfl ?_
    refine V_aload_n d_Re_closeIfOpen_26 rfl ?_
    refine V_dup d_Re_closeIfOpen_27 rfl ?_
    refine V_gf g_Re_closeIfOpen_28 (rd hL rfl rfl) rfl ?_
    refine V_iconst (v := 1) d_Re_closeIfOpen_31 (by decide) ?_
    refine V_iadd d_Re_closeIfOpen_32 ?_
    rw [nI_1]
    refine V_pf p_Re_closeIfOpen_33 (rd hL rfl rfl) (Nat.le_of_ble_eq_true rfl) rfl rfl ?_
    refine V_hS rfl ?_
    exact V_vret d_Re_closeIfOpen_36 rfl
def inn (w ht k : Nat) : Prop := ∃ x y, x < w ∧ y < ht ∧ k = mi w x y
/-- how many of the first m are open -/
def cnt (op : Nat → Bool) : Nat → Nat
  | 0 => 0
  | m + 1 => cnt op m + (if op m then 1 else 0)
theorem cnt_off {op : Nat → Bool} {k : Nat} : ∀ {m : Nat}, m ≤ k → cnt (updB op k false) m = cnt op m
  | 0, _ => rfl
  | m + 1, hm => by
    show cnt (updB op k false) m + _ = cnt op m + _
    rw [cnt_off (by omega)]
    simp [updB, show m ≠ k by omega]
theorem cnt_on {op : Nat → Bool} {k : Nat} (hk : op k = true) : ∀ {m : Nat}, k < m → cnt (updB op k false) m + 1 = cnt op m
  | 0, hm => by omega
  | m + 1, hm => by
    show cnt (updB op k false) m + _ + 1 = cnt op m + _
    by_cases e : m = k
    · subst e
      rw [cnt_off (Nat.le_refl _)]
      simp [updB, hk]
    · have := cnt_on hk (show k < m by omega)
      simp [updB, e]
      omega
theorem cnt_pos {op : Nat → Bool} {k m : Nat} (hk : op k = true) (hm : k < m) : 1 ≤ cnt op m := by
  have := cnt_on hk hm
  omega
def InvC (w ht : Nat) (s : Cl) : Prop := (∀ i, i < s.1 → inn w ht (s.2.1 i)) ∧ (∀ k, s.2.2 k = true → inn w ht k) ∧ s.1 + cnt s.2.2 ((w + 2) * (ht + 2)) ≤ w * ht
theorem inn.lt {k : Nat} (h : inn w ht k) : k < (w + 2) * (ht + 2) ∧ w + 2 ≤ k ∧ k + (w + 2) < (w + 2) * (ht + 2) := by
  obtain ⟨x, y, hx, hy, rfl⟩ := h
  exact mi_lt hx hy
theorem InvC.room {s : Cl} (h : InvC w ht s) {k : Nat} (hk : s.2.2 k = true) : s.1 < w * ht := by
  have h1 := (h.2.1 k hk).lt
  have h2 := cnt_pos hk h1.1
  have h3 := h.2.2
  omega
theorem InvC.ci {s : Cl} (h : InvC w ht s) (k : Nat) : InvC w ht (ciS k s) := by
  unfold ciS
  by_cases q : s.2.2 k = true
  · rw [if_pos q]
    have hin := h.2.1 k q
    refine ⟨fun i hi => ?_, fun j hj => ?_, ?_⟩
    · show inn w ht (updN s.2.1 s.1 k i)
      unfold updN
      by_cases e : i = s.1
      · rw [if_pos e]; exact hin
      · rw [if_neg e]
        have : i < s.1 + 1 := hi
        exact h.1 i (by omega)
    · have hj : updB s.2.2 k false j = true := hj
      unfold updB at hj
      by_cases e : j = k
      · rw [if_pos e] at hj; cases hj
      · rw [if_neg e] at hj; exact h.2.1 j hj
    · have h1 := cnt_on q hin.lt.1
      have h3 := h.2.2
      show s.1 + 1 + cnt (updB s.2.2 k false) _ ≤ _
      omega
  · rw [if_neg q]; exact h
/-- a queued cell's four neighbours -/
def ci4 (w k : Nat) (s : Cl) : Cl := ciS (k + (w + 2)) (ciS (k - (w + 2)) (ciS (k + 1) (ciS (k - 1) s)))
def bfR (w : Nat) : Nat → Nat → Cl → Cl
  | 0, _, s => s
  | m + 1, i, s => if i < s.1 then bfR w m (i + 1) (ci4 w (s.2.1 i) s) else s
theorem do_Re_closeAround (hL : 27 ≤ h.length) (hw : w ≤ 20) (hht : ht ≤ 20) (q0 : Nat) (Q : Nat → Nat) (op : Nat → Bool) (k : Nat) (hk : k < (w + 2) * (ht + 2)) (hI : InvC w ht (0, Q, op)) : Do l G k_Re_closeAround [.ref 22, .int (nI k)] (hoH h w ht f ra Dp Df C (q0, Q, op)) rv (hoH h w ht f ra Dp Df C (bfR w (w * ht) 0 (ciS k (0, Q, op)))) := by
  refine Do.of (by decide) (Nat.le_of_ble_eq_true rfl) kw_Re_closeAround ?_
  have hN := wh_lt hw hht
  have loop : ∀ (H0 : List Ce) (S : Cl) (m i : Nat) (s : Cl), i + m = w * ht → InvC w ht s → S = bfR w m i s → V l G k_Re_closeAround H0 12 [(0, .ref 22), (1, .int (nI k)), (2, .int (nI i))] [] (hoH h w ht f ra Dp Df C s) rv (hoH h w ht f ra Dp Df C S) := by
    intro H0 S m
    induction m with
    | zero =>
      intro i s hi hs e
      rw [show S = s from e]
      refine V_iload_n d_Re_closeAround_12 rfl ?_
      refine V_aload_n d_Re_closeAround_13 rfl ?_
      refine V_gf g_Re_closeAround_14 (rd hL rfl rfl) rfl ?_
      have hs3 := hs.2.2
      refine V_icmp_ge (tgt := 76) d_Re_closeAround_17 (by decide) (fun _ => ?_) (fun c9 => absurd ((nI_le (by omega) (by omega) : nI s.1 ≤ nI i)) c9)
      exact V_vret d_Re_closeAround_76 rfl
    | succ m ih =>
      intro i s hi hs e
      have hs3 := hs.2.2
      by_cases q : i < s.1
      · have e : S = bfR w m (i + 1) (ci4 w (s.2.1 i) s) := by
          rw [e]
          show (if i < s.1 then bfR w m (i + 1) (ci4 w (s.2.1 i) s) else s) = _
          rw [if_pos q]
        have hin := (hs.1 i q).lt
        refine V_iload_n d_Re_closeAround_12 rfl ?_
        refine V_aload_n d_Re_closeAround_13 rfl ?_
        refine V_gf g_Re_closeAround_14 (rd hL rfl rfl) rfl ?_
        refine V_icmp_ge (tgt := 76) d_Re_closeAround_17 (by decide) (fun c9 => absurd c9 ((nI_ge q (by omega) : ¬ nI s.1 ≤ nI i))) (fun _ => ?_)
        refine V_iload_n d_Re_closeAround_20 rfl ?_
        refine V_aload_n d_Re_closeAround_21 rfl ?_
        refine V_gf g_Re_closeAround_22 (rd hL rfl rfl) rfl ?_
        refine V_ialen d_Re_closeAround_25 (rd hL rfl rfl) ?_
        refine V_icmp_ge (tgt := 76) d_Re_closeAround_26 (by decide) (fun c9 => absurd c9 ((nI_ge (by omega) (by omega) : ¬ nI (w * ht) ≤ nI i))) (fun _ => ?_)
        refine V_aload_n d_Re_closeAround_29 rfl ?_
        refine V_gf g_Re_closeAround_30 (rd hL rfl rfl) rfl ?_
        refine V_iload_n d_Re_closeAround_33 rfl ?_
        refine V_ialdN d_Re_closeAround_34 (rd hL rfl rfl) (Ix.of (show i < w * ht by omega) hN) ?_
        refine V_istore_n d_Re_closeAround_35 (by decide) rfl ?_
        refine V_aload_n d_Re_closeAround_36 rfl ?_
        refine V_iload_n d_Re_closeAround_37 rfl ?_
        refine V_iconst (v := 1) d_Re_closeAround_38 (by decide) ?_
        refine V_isub d_Re_closeAround_39 ?_
        rw [nIm1 (show 1 ≤ s.2.1 i by omega)]
        have i1 := hs.ci (s.2.1 i - 1)
        have i2 := i1.ci (s.2.1 i + 1)
        have i3 := i2.ci (s.2.1 i - (w + 2))
        refine V_cV s_Re_closeAround_40 (do_Re_closeIfOpen hL hw hht s (s.2.1 i - 1) (by omega) (fun z => hs.room z)) (rd hL rfl rfl) rfl rfl (Nat.le_of_ble_eq_true rfl) ?_
        refine V_aload_n d_Re_closeAround_43 rfl ?_
        refine V_iload_n d_Re_closeAround_44 rfl ?_
        refine V_iconst (v := 1) d_Re_closeAround_45 (by decide) ?_
        refine V_iadd d_Re_closeAround_46 ?_
        rw [nI_1 (s.2.1 i)]
        refine V_cV s_Re_closeAround_47 (do_Re_closeIfOpen hL hw hht (ciS (s.2.1 i - 1) s) (s.2.1 i + 1) (by omega) (fun z => i1.room z)) (rd hL rfl rfl) rfl rfl (Nat.le_of_ble_eq_true rfl) ?_
        refine V_aload_n d_Re_closeAround_50 rfl ?_
        refine V_iload_n d_Re_closeAround_51 rfl ?_
        refine V_aload_n d_Re_closeAround_52 rfl ?_
        refine V_gf g_Re_closeAround_53 (rd hL rfl rfl) rfl ?_
        refine V_isub d_Re_closeAround_56 ?_
        rw [pk_sub (show w + 2 ≤ s.2.1 i by omega)]
        refine V_cV s_Re_closeAround_57 (do_Re_closeIfOpen hL hw hht (ciS (s.2.1 i + 1) (ciS (s.2.1 i - 1) s)) (s.2.1 i - (w + 2)) (by omega) (fun z => i2.room z)) (rd hL rfl rfl) rfl rfl (Nat.le_of_ble_eq_true rfl) ?_
        refine V_aload_n d_Re_closeAround_60 rfl ?_
        refine V_iload_n d_Re_closeAround_61 rfl ?_
        refine V_aload_n d_Re_closeAround_62 rfl ?_
        refine V_gf g_Re_closeAround_63 (rd hL rfl rfl) rfl ?_
        refine V_iadd d_Re_closeAround_66 ?_
        rw [nI_add (s.2.1 i) (w + 2)]
        refine V_cV s_Re_closeAround_67 (do_Re_closeIfOpen hL hw hht (ciS (s.2.1 i - (w + 2)) (ciS (s.2.1 i + 1) (ciS (s.2.1 i - 1) s))) (s.2.1 i + (w + 2)) (by omega) (fun z => i3.room z)) (rd hL rfl rfl) rfl rfl (Nat.le_of_ble_eq_true rfl) ?_
        refine V_iinc1 d_Re_closeAround_70 rfl (by decide) rfl ?_
        refine V_goto (tgt := 12) d_Re_closeAround_73 (by decide) ?_
        rw [nI_1 i]
        refine V_keep [0, 1, 2] ?_
        exact ih (i + 1) (ci4 w (s.2.1 i) s) (by omega) (i3.ci _) e
      · have e : S = s := by
          rw [e]
          show (if i < s.1 then bfR w m (i + 1) (ci4 w (s.2.1 i) s) else s) = _
          rw [if_neg q]
        rw [e]
        refine V_iload_n d_Re_closeAround_12 rfl ?_
        refine V_aload_n d_Re_closeAround_13 rfl ?_
        refine V_gf g_Re_closeAround_14 (rd hL rfl rfl) rfl ?_
        refine V_icmp_ge (tgt := 76) d_Re_closeAround_17 (by decide) (fun _ => ?_) (fun c9 => absurd ((nI_le (by omega) (by omega) : nI s.1 ≤ nI i)) c9)
        exact V_vret d_Re_closeAround_76 rfl
  refine V_aload_n d_Re_closeAround_0 rfl ?_
  refine V_iconst (v := 0) d_Re_closeAround_1 (by decide) ?_
  refine V_pf p_Re_closeAround_2 (rd hL rfl rfl) (Nat.le_of_ble_eq_true rfl) rfl rfl ?_
  refine V_hS rfl ?_
  refine V_aload_n d_Re_closeAround_5 rfl ?_
  refine V_iload_n d_Re_closeAround_6 rfl ?_
  refine V_cV s_Re_closeAround_7 (do_Re_closeIfOpen hL hw hht (0, Q, op) k hk (fun z => hI.room z)) (rd hL rfl rfl) rfl rfl (Nat.le_of_ble_eq_true rfl) ?_
  refine V_iconst (v := 0) d_Re_closeAround_10 (by decide) ?_
  refine V_istore_n d_Re_closeAround_11 (by decide) rfl ?_
  exact loop _ _ (w * ht) 0 (ciS k (0, Q, op)) (by omega) (hI.ci k) rfl
end P21
