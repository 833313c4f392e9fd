section P22
variable {l : Launch} {G : Gb} {h : List Ce} {w ht : Nat} {f C Df : Nat → Int32} {Dp : Nat → Nat} {ra : Bool}
theorem inn_rc {r c : Nat} (hc : c < w + 2) (hi : inn w ht (r * (w + 2) + c)) : 1 ≤ c ∧ c ≤ w ∧ 1 ≤ r ∧ r ≤ ht := by
  obtain ⟨x, y, hx, hy, e⟩ := hi
  have e : r * (w + 2) + c = (y + 1) * (w + 2) + (x + 1) := e
  have h1 : (r * (w + 2) + c) % (w + 2) = c := by rw [Nat.mul_comm, Nat.mul_add_mod, Nat.mod_eq_of_lt hc]
  have h2 : ((y + 1) * (w + 2) + (x + 1)) % (w + 2) = x + 1 := by rw [Nat.mul_comm, Nat.mul_add_mod, Nat.mod_eq_of_lt (by omega)]
  have h3 : (r * (w + 2) + c) / (w + 2) = r := by rw [Nat.mul_comm, Nat.mul_add_div (by omega), Nat.div_eq_of_lt hc, Nat.add_zero]
  have h4 : ((y + 1) * (w + 2) + (x + 1)) / (w + 2) = y + 1 := by rw [Nat.mul_comm, Nat.mul_add_div (by omega), Nat.div_eq_of_lt (by omega), Nat.add_zero]
  rw [e] at h1 h3
  omega
theorem cnt_row {op : Nat → Bool} (hop : ∀ k, op k = true → inn w ht k) (r : Nat) : ∀ c, c ≤ w + 2 → cnt op (r * (w + 2) + c) ≤ cnt op (r * (w + 2)) + (if 1 ≤ r ∧ r ≤ ht then (if c = 0 then 0 else if c ≤ w + 1 then c - 1 else w) else 0)
  | 0, _ => by simp
  | c + 1, hc => by
    have ih := cnt_row hop r c (by omega)
    show cnt op (r * (w + 2) + c) + (if op (r * (w + 2) + c) then 1 else 0) ≤ _
    by_cases q : op (r * (w + 2) + c) = true
    · have hi := inn_rc (by omega) (hop _ q)
      rw [if_pos q]
      rw [if_pos ⟨hi.2.2.1, hi.2.2.2⟩] at ih ⊢
      rw [if_neg (by omega), if_pos (by omega)] at ih
      rw [if_neg (by omega), if_pos (by omega)]
      omega
    · rw [if_neg q]
      by_cases q2 : 1 ≤ r ∧ r ≤ ht
      · rw [if_pos q2] at ih ⊢
        by_cases c0 : c = 0
        · subst c0
          simp at ih ⊢
          try omega
        · rw [if_neg c0] at ih
          rw [if_neg (by omega)]
          by_cases c1 : c + 1 ≤ w + 1
          · rw [if_pos (by omega)] at ih
            rw [if_pos c1]
            omega
          · rw [if_neg c1]
            rw [if_pos (by omega)] at ih
            omega
      · rw [if_neg q2] at ih ⊢
        omega
theorem cnt_rows {op : Nat → Bool} (hop : ∀ k, op k = true → inn w ht k) : ∀ r, cnt op (r * (w + 2)) ≤ w * (if r ≤ ht + 1 then r - 1 else ht)
  | 0 => by simp [cnt]
  | r + 1 => by
    have ih := cnt_rows hop r
    have h1 := cnt_row hop r (w + 2) (Nat.le_refl _)
    have h2 : (r + 1) * (w + 2) = r * (w + 2) + (w + 2) := by rw [Nat.add_mul, Nat.one_mul]
    rw [h2]
    refine Nat.le_trans h1 ?_
    by_cases q : 1 ≤ r ∧ r ≤ ht
    · rw [if_pos q, if_neg (by omega), if_neg (by omega)]
      rw [if_pos (by omega)] at ih
      rw [if_pos (by omega)]
      obtain ⟨j, rfl⟩ : ∃ j, r = j + 1 := ⟨r - 1, by omega⟩
      have e1 : w * (j + 1 + 1 - 1) = w * j + w := by rw [Nat.add_sub_cancel, Nat.mul_add, Nat.mul_one]
      rw [Nat.add_sub_cancel] at ih
      omega
    · rw [if_neg q]
      rcases Nat.eq_zero_or_pos r with z | z
      · subst z
        simp [cnt]
      · have hr : ht < r := by omega
        by_cases q3 : r ≤ ht + 1
        · rw [if_pos q3] at ih
          rw [if_neg (by omega)]
          rw [show r - 1 = ht by omega] at ih
          omega
        · rw [if_neg q3] at ih
          rw [if_neg (by omega)]
          omega
theorem cnt_all {op : Nat → Bool} (hop : ∀ k, op k = true → inn w ht k) : cnt op ((w + 2) * (ht + 2)) ≤ w * ht := by
  have := cnt_rows hop (ht + 2)
  rw [if_neg (by omega), Nat.mul_comm (ht + 2)] at this
  exact this
theorem InvC.of {Q : Nat → Nat} {op : Nat → Bool} (hop : ∀ k, op k = true → inn w ht k) : InvC w ht (0, Q, op) := ⟨fun i hi => absurd hi (Nat.not_lt_zero i), hop, by have := cnt_all hop; show 0 + cnt op _ ≤ _; omega⟩
theorem bfR_inv : ∀ (m i : Nat) (s : Cl), InvC w ht s → InvC w ht (bfR w m i s)
  | 0, _, _, hs => hs
  | m + 1, i, s, hs => by
    show InvC w ht (if i < s.1 then bfR w m (i + 1) (ci4 w (s.2.1 i) s) else s)
    split
    · exact bfR_inv m (i + 1) _ ((((hs.ci _).ci _).ci _).ci _)
    · exact hs
/-- which cells are open at first -/
def oaS (Df : Nat → Int32) (w : Nat) (lv : Int32) (y x : Nat) (op : Nat → Bool) : Nat → Bool := updB op (mi w x y) (decide (lv < Df (y * w + x)))
def oaR (Df : Nat → Int32) (w ht : Nat) (lv : Int32) (op : Nat → Bool) : Nat → Bool := fori (fun y op => fori (fun x op => oaS Df w lv y x op) w 0 op) ht 0 op
theorem do_Re_openAbove (hL : 27 ≤ h.length) (hw : w ≤ 20) (hht : ht ≤ 20) (q0 : Nat) (Q : Nat → Nat) (op : Nat → Bool) (lv : Int32) : Do l G k_Re_openAbove [.ref 22, .int lv] (hoH h w ht f ra Dp Df C (q0, Q, op)) rv (hoH h w ht f ra Dp Df C (q0, Q, oaR Df w ht lv op)) := by
  refine Do.of (by decide) (Nat.le_of_ble_eq_true rfl) kw_Re_openAbove ?_
  have hM := M_lt hw hht
  have hN := wh_lt hw hht
  have inner : ∀ (H0 H9 : List Ce) (y : Nat), y < ht → ∀ (m x : Nat) (op : Nat → Bool), x + m = w → V l G k_Re_openAbove H0 59 [(0, .ref 22), (1, .int lv), (2, .int (nI y))] [] (hoH h w ht f ra Dp Df C (q0, Q, fori (fun x op => oaS Df w lv y x op) m x op)) rv H9 → V l G k_Re_openAbove H0 12 [(0, .ref 22), (1, .int lv), (2, .int (nI y)), (3, .int (nI x))] [] (hoH h w ht f ra Dp Df C (q0, Q, op)) rv H9 := by
    intro H0 H9 y hy m
    induction m with
    | zero =>
      intro x op hx kk
      refine V_iload_n d_Re_openAbove_12 rfl ?_
      refine V_aload_n d_Re_openAbove_13 rfl ?_
      refine V_gf g_Re_openAbove_14 (rd hL rfl rfl) rfl ?_
      refine V_icmp_ge (tgt := 59) d_Re_openAbove_17 (by decide) (fun _ => ?_) (fun c9 => absurd ((nI_le (by omega) (by omega) : nI w ≤ nI x)) c9)
      exact V_keep [0, 1, 2] kk
    | succ m ih =>
      intro x op hx kk
      rw [fori_s] at kk
      have hml := mi_lt (w := w) (ht := ht) (show x < w by omega) hy
      have hcl : y * w + x < w * ht := cell_lt (by omega) hy
      have next : ∀ op' : Nat → Bool, op' = oaS Df w lv y x op → V l G k_Re_openAbove H0 53 [(0, .ref 22), (1, .int lv), (2, .int (nI y)), (3, .int (nI x))] [] (hoH h w ht f ra Dp Df C (q0, Q, op')) rv H9 := by
        intro op' e'
        refine V_iinc1 d_Re_openAbove_53 rfl (by decide) rfl ?_
        refine V_goto (tgt := 12) d_Re_openAbove_56 (by decide) ?_
        rw [nI_1]
        exact ih (x + 1) op' (by omega) (by rw [e']; exact kk)
      refine V_iload_n d_Re_openAbove_12 rfl ?_
      refine V_aload_n d_Re_openAbove_13 rfl ?_
      refine V_gf g_Re_openAbove_14 (rd hL rfl rfl) rfl ?_
      refine V_icmp_ge (tgt := 59) d_Re_openAbove_17 (by decide) (fun c9 => absurd c9 ((nI_ge (by omega) (by omega) : ¬ nI w ≤ nI x))) (fun _ => ?_)
      refine V_aload_n d_Re_openAbove_20 rfl ?_
      refine V_gf g_Re_openAbove_21 (rd hL rfl rfl) rfl ?_
      refine V_aload_n d_Re_openAbove_24 rfl ?_
      refine V_iload_n d_Re_openAbove_25 rfl ?_
      refine V_iload_n d_Re_openAbove_26 rfl ?_
      refine V_cV s_Re_openAbove_27 (do_Re_mi (rd hL rfl rfl) x y) (rd hL rfl rfl) rfl rfl (Nat.le_of_ble_eq_true rfl) ?_
      refine V_aload_n d_Re_openAbove_30 rfl ?_
      refine V_gf g_Re_openAbove_31 (rd hL rfl rfl) rfl ?_
      refine V_iload_n d_Re_openAbove_34 rfl ?_
      refine V_aload_n d_Re_openAbove_35 rfl ?_
      refine V_gf g_Re_openAbove_36 (rd hL rfl rfl) rfl ?_
      refine V_imul d_Re_openAbove_39 ?_
      refine V_iload_n d_Re_openAbove_40 rfl ?_
      refine V_iadd d_Re_openAbove_41 ?_
      refine V_ialdN d_Re_openAbove_42 (rd hL rfl rfl) (⟨by rw [pk_mul, nI_add], hcl, hN⟩) ?_
      refine V_iload_n d_Re_openAbove_43 rfl ?_
      refine V_icmp_le (tgt := 51) d_Re_openAbove_44 (by decide) (fun c1 => ?_) (fun c1 => ?_)
      · refine V_iconst (v := 0) d_Re_openAbove_51 (by decide) ?_
        refine V_zast0 d_Re_openAbove_52 (rd hL rfl rfl) (Ix.of hml.1 hM) ?_
        refine V_hS rfl ?_
        exact next (updB op (mi w x y) false) (by unfold oaS; rw [show decide (lv < Df (y * w + x)) = false by simp [nlt_iff.mpr c1]])
      · refine V_iconst (v := 1) d_Re_openAbove_47 (by decide) ?_
        refine V_goto (tgt := 52) d_Re_openAbove_48 (by decide) ?_
        refine V_zast1 d_Re_openAbove_52 (rd hL rfl rfl) (Ix.of hml.1 hM) ?_
        refine V_hS rfl ?_
        exact next (updB op (mi w x y) true) (by unfold oaS; rw [show decide (lv < Df (y * w + x)) = true by simp [nle_iff.mp c1]])
  have outer : ∀ (H0 : List Ce) (m y : Nat) (op9 : Nat → Bool), y + m = ht → oaR Df w ht lv op = fori (fun y op => fori (fun x op => oaS Df w lv y x op) w 0 op) m y op9 → V l G k_Re_openAbove H0 2 [(0, .ref 22), (1, .int lv), (2, .int (nI y))] [] (hoH h w ht f ra Dp Df C (q0, Q, op9)) rv (hoH h w ht f ra Dp Df C (q0, Q, oaR Df w ht lv op)) := by
    intro H0 m
    induction m with
    | zero =>
      intro y op9 hy e
      obtain rfl : y = ht := by omega
      rw [e]
      refine V_iload_n d_Re_openAbove_2 rfl ?_
      refine V_aload_n d_Re_openAbove_3 rfl ?_
      refine V_gf g_Re_openAbove_4 (rd hL rfl rfl) rfl ?_
      refine V_icmp_ge (tgt := 65) d_Re_openAbove_7 (by decide) (fun _ => ?_) (fun c9 => absurd ((nI_le (Nat.le_refl _) (by omega))) c9)
      exact V_vret d_Re_openAbove_65 rfl
    | succ m ih =>
      intro y op9 hy e
      rw [fori_s] at e
      refine V_iload_n d_Re_openAbove_2 rfl ?_
      refine V_aload_n d_Re_openAbove_3 rfl ?_
      refine V_gf g_Re_openAbove_4 (rd hL rfl rfl) rfl ?_
      refine V_icmp_ge (tgt := 65) d_Re_openAbove_7 (by decide) (fun c9 => absurd c9 ((nI_ge (by omega) (by omega) : ¬ nI ht ≤ nI y))) (fun _ => ?_)
      refine V_iconst (v := 0) d_Re_openAbove_10 (by decide) ?_
      refine V_istore_n d_Re_openAbove_11 (by decide) rfl ?_
      refine inner H0 _ y (by omega) w 0 op9 (by omega) ?_
      refine V_iinc1 d_Re_openAbove_59 rfl (by decide) rfl ?_
      refine V_goto (tgt := 2) d_Re_openAbove_62 (by decide) ?_
      rw [nI_1]
      exact ih (y + 1) _ (by omega) e
  refine V_iconst (v := 0) d_Re_openAbove_0 (by decide) ?_
  refine V_istore_n d_Re_openAbove_1 (by decide) rfl ?_
  exact outer _ ht 0 op (by omega) rfl
theorem oaS_inn {op : Nat → Bool} (hop : ∀ k, op k = true → inn w ht k) (lv : Int32) {x y : Nat} (hx : x < w) (hy : y < ht) : ∀ k, oaS Df w lv y x op k = true → inn w ht k := by
  intro k hk
  unfold oaS updB at hk
  by_cases e : k = mi w x y
  · exact ⟨x, y, hx, hy, e⟩
  · rw [if_neg e] at hk; exact hop k hk
theorem oaR_inn {op : Nat → Bool} (hop : ∀ k, op k = true → inn w ht k) (lv : Int32) : ∀ k, oaR Df w ht lv op k = true → inn w ht k := by
  have inner : ∀ (y : Nat), y < ht → ∀ (m x : Nat) (op : Nat → Bool), x + m = w → (∀ k, op k = true → inn w ht k) → ∀ k, fori (fun x op => oaS Df w lv y x op) m x op k = true → inn w ht k := by
    intro y hy m
    induction m with
    | zero => intro x op _ ho; exact ho
    | succ m ih =>
      intro x op hx ho
      rw [fori_s]
      exact ih (x + 1) _ (by omega) (oaS_inn ho lv (by omega) hy)
  have outer : ∀ (m y : Nat) (op : Nat → Bool), y + m = ht → (∀ k, op k = true → inn w ht k) → ∀ k, fori (fun y op => fori (fun x op => oaS Df w lv y x op) w 0 op) m y op k = true → inn w ht k := by
    intro m
    induction m with
    | zero => intro y op _ ho; exact ho
    | succ m ih =>
      intro y op hy ho
      rw [fori_s]
      exact ih (y + 1) _ (by omega) (inner y (by omega) w 0 op (by omega) ho)
  exact outer ht 0 op (by omega) hop
abbrev Ho : Type := Nat × Cl
def hoS (w ht y x : Nat) (s : Ho) : Ho := if s.2.2.2 (mi w x y) then (s.1 + 1, bfR w (w * ht) 0 (ciS (mi w x y) (0, s.2.2.1, s.2.2.2))) else s
def hoR (w ht : Nat) (s : Ho) : Ho := fori (fun y s => fori (fun x s => hoS w ht y x s) w 0 s) ht 0 s
theorem hoS_inn {s : Ho} (hs : ∀ k, s.2.2.2 k = true → inn w ht k) (y x : Nat) : ∀ k, (hoS w ht y x s).2.2.2 k = true → inn w ht k := by
  unfold hoS
  split
  · exact (bfR_inv (w * ht) 0 _ ((InvC.of hs).ci _)).2.1
  · exact hs
theorem do_Re_holesAbove (hL : 27 ≤ h.length) (hw : w ≤ 20) (hht : ht ≤ 20) (q0 : Nat) (Q : Nat → Nat) (op : Nat → Bool) (hop : ∀ k, op k = true → inn w ht k) (lv : Int32) (S : Ho) (hS9 : S = hoR w ht (0, q0, Q, oaR Df w ht lv op)) : Do l G k_Re_holesAbove [.ref 22, .int lv] (hoH h w ht f ra Dp Df C (q0, Q, op)) (ri (nI S.1)) (hoH h w ht f ra Dp Df C S.2) := by
  refine Do.of (by decide) (Nat.le_of_ble_eq_true rfl) kw_Re_holesAbove ?_
  have hM := M_lt hw hht
  have inner : ∀ (H0 : List Ce) (y : Nat), y < ht → ∀ (m x : Nat) (s : Ho), x + m = w → (∀ k, s.2.2.2 k = true → inn w ht k) → ((∀ k, (fori (fun x s => hoS w ht y x s) m x s).2.2.2 k = true → inn w ht k) → V l G k_Re_holesAbove H0 63 [(0, .ref 22), (1, .int lv), (2, .int (nI (fori (fun x s => hoS w ht y x s) m x s).1)), (3, .int (nI y))] [] (hoH h w ht f ra Dp Df C (fori (fun x s => hoS w ht y x s) m x s).2) (ri (nI S.1)) (hoH h w ht f ra Dp Df C S.2)) → V l G k_Re_holesAbove H0 20 [(0, .ref 22), (1, .int lv), (2, .int (nI s.1)), (3, .int (nI y)), (4, .int (nI x))] [] (hoH h w ht f ra Dp Df C s.2) (ri (nI S.1)) (hoH h w ht f ra Dp Df C S.2) := by
    intro H0 y hy m
    induction m with
    | zero =>
      intro x s hx hs kk
      refine V_iload d_Re_holesAbove_20 rfl ?_
      refine V_aload_n d_Re_holesAbove_22 rfl ?_
      refine V_gf g_Re_holesAbove_23 (rd hL rfl rfl) rfl ?_
      refine V_icmp_ge (tgt := 63) d_Re_holesAbove_26 (by decide) (fun _ => ?_) (fun c9 => absurd ((nI_le (by omega) (by omega) : nI w ≤ nI x)) c9)
      exact V_keep [0, 1, 2, 3] (kk hs)
    | succ m ih =>
      intro x s hx hs kk
      rw [fori_s] at kk
      have hml := mi_lt (w := w) (ht := ht) (show x < w by omega) hy
      have next : ∀ s' : Ho, s' = hoS w ht y x s → V l G k_Re_holesAbove H0 57 [(0, .ref 22), (1, .int lv), (2, .int (nI s'.1)), (3, .int (nI y)), (4, .int (nI x))] [] (hoH h w ht f ra Dp Df C s'.2) (ri (nI S.1)) (hoH h w ht f ra Dp Df C S.2) := by
        intro s' e'
        refine V_iinc1 d_Re_holesAbove_57 rfl (by decide) rfl ?_
        refine V_goto (tgt := 20) d_Re_holesAbove_60 (by decide) ?_
        rw [nI_1]
        exact ih (x + 1) s' (by omega) (by rw [e']; exact hoS_inn hs y x) (by rw [e']; exact kk)
      refine V_iload d_Re_holesAbove_20 rfl ?_
      refine V_aload_n d_Re_holesAbove_22 rfl ?_
      refine V_gf g_Re_holesAbove_23 (rd hL rfl rfl) rfl ?_
      refine V_icmp_ge (tgt := 63) d_Re_holesAbove_26 (by decide) (fun c9 => absurd c9 ((nI_ge (by omega) (by omega) : ¬ nI w ≤ nI x))) (fun _ => ?_)
      refine V_aload_n d_Re_holesAbove_29 rfl ?_
      refine V_iload d_Re_holesAbove_30 rfl ?_
      refine V_iload_n d_Re_holesAbove_32 rfl ?_
      refine V_cV s_Re_holesAbove_33 (do_Re_mi (rd hL rfl rfl) x y) (rd hL rfl rfl) rfl rfl (Nat.le_of_ble_eq_true rfl) ?_
      refine V_istore d_Re_holesAbove_36 (by decide) rfl ?_
      refine V_aload_n d_Re_holesAbove_38 rfl ?_
      refine V_gf g_Re_holesAbove_39 (rd hL rfl rfl) rfl ?_
      refine V_iload d_Re_holesAbove_42 rfl ?_
      refine V_zaldN d_Re_holesAbove_44 (rd hL rfl rfl) (Ix.of hml.1 hM) ?_
      refine V_if_eq (tgt := 57) d_Re_holesAbove_45 (by decide) (fun c1 => ?_) (fun c1 => ?_)
      · refine V_keep [0, 1, 2, 3, 4] ?_
        exact next s (by unfold hoS; rw [(bI_0 _).mp c1]; rfl)
      · have c1' : s.2.2.2 (mi w x y) = true := by simpa [bI_0] using c1
        refine V_iinc1 d_Re_holesAbove_48 rfl (by decide) rfl ?_
        refine V_aload_n d_Re_holesAbove_51 rfl ?_
        refine V_iload d_Re_holesAbove_52 rfl ?_
        refine V_cV s_Re_holesAbove_54 (do_Re_closeAround hL hw hht s.2.1 s.2.2.1 s.2.2.2 (mi w x y) hml.1 (InvC.of hs)) (rd hL rfl rfl) rfl rfl (Nat.le_of_ble_eq_true rfl) ?_
        rw [nI_1]
        refine V_keep [0, 1, 2, 3, 4] ?_
        exact next (s.1 + 1, bfR w (w * ht) 0 (ciS (mi w x y) (0, s.2.2.1, s.2.2.2))) (by unfold hoS; rw [c1']; rfl)
  have outer : ∀ (H0 : List Ce) (m y : Nat) (s : Ho), y + m = ht → (∀ k, s.2.2.2 k = true → inn w ht k) → S = fori (fun y s => fori (fun x s => hoS w ht y x s) w 0 s) m y s → V l G k_Re_holesAbove H0 9 [(0, .ref 22), (1, .int lv), (2, .int (nI s.1)), (3, .int (nI y))] [] (hoH h w ht f ra Dp Df C s.2) (ri (nI S.1)) (hoH h w ht f ra Dp Df C S.2) := by
    intro H0 m
    induction m with
    | zero =>
      intro y s hy hs e
      obtain rfl : y = ht := by omega
      rw [show S = s from e]
      refine V_iload_n d_Re_holesAbove_9 rfl ?_
      refine V_aload_n d_Re_holesAbove_10 rfl ?_
      refine V_gf g_Re_holesAbove_11 (rd hL rfl rfl) rfl ?_
      refine V_icmp_ge (tgt := 69) d_Re_holesAbove_14 (by decide) (fun _ => ?_) (fun c9 => absurd ((nI_le (Nat.le_refl _) (by omega))) c9)
      refine V_iload_n d_Re_holesAbove_69 rfl ?_
      exact V_iret d_Re_holesAbove_70 rfl rfl
    | succ m ih =>
      intro y s hy hs e
      rw [fori_s] at e
      refine V_iload_n d_Re_holesAbove_9 rfl ?_
      refine V_aload_n d_Re_holesAbove_10 rfl ?_
      refine V_gf g_Re_holesAbove_11 (rd hL rfl rfl) rfl ?_
      refine V_icmp_ge (tgt := 69) d_Re_holesAbove_14 (by decide) (fun c9 => absurd c9 ((nI_ge (by omega) (by omega) : ¬ nI ht ≤ nI y))) (fun _ => ?_)
      refine V_iconst (v := 0) d_Re_holesAbove_17 (by decide) ?_
      refine V_istore d_Re_holesAbove_18 (by decide) rfl ?_
      refine inner H0 y (by omega) w 0 s (by omega) hs (fun hs' => ?_)
      refine V_iinc1 d_Re_holesAbove_63 rfl (by decide) rfl ?_
      refine V_goto (tgt := 9) d_Re_holesAbove_66 (by decide) ?_
      rw [nI_1]
      exact ih (y + 1) _ (by omega) hs' e
  refine V_aload_n d_Re_holesAbove_0 rfl ?_
  refine V_iload_n d_Re_holesAbove_1 rfl ?_
  refine V_cV s_Re_holesAbove_2 (do_Re_openAbove hL hw hht q0 Q op lv) (rd hL rfl rfl) rfl rfl (Nat.le_of_ble_eq_true rfl) ?_
  refine V_iconst (v := 0) d_Re_holesAbove_5 (by decide) ?_
  refine V_istore_n d_Re_holesAbove_6 (by decide) rfl ?_
  refine V_iconst (v := 0) d_Re_holesAbove_7 (by decide) ?_
  refine V_istore_n d_Re_holesAbove_8 (by decide) rfl ?_
  exact outer _ ht 0 (0, q0, Q, oaR Df w ht lv op) (by omega) (oaR_inn hop lv) hS9
end P22
