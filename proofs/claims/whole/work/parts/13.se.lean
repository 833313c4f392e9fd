section P13
variable {l : Launch} {G : Gb} {h : List Ce} {w ht : Nat} {dn : Bool} {fx fy le : Int32} {ms : Nat → Int32}
abbrev SeO (w ht : Nat) (dn : Bool) (fx fy le : Int32) : Ce := .inr (6, [.int (nI w), .int (nI ht), .ref 5, .int (bI dn), .int fx, .int fy, .int le])
theorem do_Se_isDone (c_Se : h[3]? = some (SeO w ht dn fx fy le)) : Do l G k_Se_isDone [.ref 4] h (rz dn) h := by
  refine Do.of (by decide) (Nat.le_of_ble_eq_true rfl) kw_Se_isDone ?_
  refine V_aload_n d_Se_isDone_0 rfl ?_
  refine V_gf g_Se_isDone_1 c_Se rfl ?_
  exact V_iret d_Se_isDone_4 rfl (by first | rfl | exact bI_n _)
theorem do_Se_answer (c_Se : h[3]? = some (SeO w ht dn fx fy le)) (x : Int32) : Do l G k_Se_answer [.ref 4, .int x] h (ri (if x = 2 then le else if x = 0 then fx else fy)) h := by
  refine Do.of (by decide) (Nat.le_of_ble_eq_true rfl) kw_Se_answer ?_
  refine V_iload_n d_Se_answer_0 rfl ?_
  refine V_iconst (v := 2) d_Se_answer_1 (by decide) ?_
  refine V_icmp_ne (tgt := 10) d_Se_answer_2 (by decide) (fun c1 => ?_) (fun c1 => ?_)
  · rw [if_neg c1]
    refine V_iload_n d_Se_answer_10 rfl ?_
    refine V_if_ne (tgt := 21) d_Se_answer_11 (by decide) (fun c2 => ?_) (fun c2 => ?_)
    · rw [if_neg c2]
      refine V_aload_n d_Se_answer_21 rfl ?_
      refine V_gf g_Se_answer_22 c_Se rfl ?_
      exact V_iret d_Se_answer_25 rfl rfl
    · rw [if_pos c2]
      refine V_aload_n d_Se_answer_14 rfl ?_
      refine V_gf g_Se_answer_15 c_Se rfl ?_
      refine V_goto (tgt := 25) d_Se_answer_18 (by decide) ?_
      exact V_iret d_Se_answer_25 rfl rfl
  · rw [if_pos c1]
    refine V_aload_n d_Se_answer_5 rfl ?_
    refine V_gf g_Se_answer_6 c_Se rfl ?_
    exact V_iret d_Se_answer_9 rfl rfl
/-- a number without its sign, as Math.abs has it -/
def ab (z : Int32) : Int32 := if 0 ≤ z then z else 0 - z
def farB (x y fx fy : Int32) : Bool := decide (1 < ab (x - fx)) || decide (1 < ab (y - fy))
theorem do_Se_far (c_Se : h[3]? = some (SeO w ht dn fx fy le)) (x y : Int32) : Do l G k_Se_isFarFromFound [.ref 4, .int x, .int y] h (rz (farB x y fx fy)) h := by
  refine Do.of (by decide) (Nat.le_of_ble_eq_true rfl) kw_Se_isFarFromFound ?_
  refine V_iload_n d_Se_isFarFromFound_0 rfl ?_
  refine V_aload_n d_Se_isFarFromFound_1 rfl ?_
  refine V_gf g_Se_isFarFromFound_2 c_Se rfl ?_
  refine V_isub d_Se_isFarFromFound_5 ?_
  refine V_abs s_Se_isFarFromFound_6 (Nat.le_of_ble_eq_true rfl) ?_
  refine V_iconst (v := 1) d_Se_isFarFromFound_9 (by decide) ?_
  rw [show (if 0 ≤ x - fx then x - fx else 0 - (x - fx)) = ab (x - fx) from rfl]
  refine V_icmp_gt (tgt := 26) d_Se_isFarFromFound_10 (by decide) (fun c1 => ?_) (fun c1 => ?_)
  · rw [rz, show farB x y fx fy = true by simp [farB, c1]]
    refine V_iconst (v := 1) d_Se_isFarFromFound_26 (by decide) ?_
    refine V_goto (tgt := 31) d_Se_isFarFromFound_27 (by decide) ?_
    exact V_iret d_Se_isFarFromFound_31 rfl (by first | rfl | exact bI_n _)
  · refine V_iload_n d_Se_isFarFromFound_13 rfl ?_
    refine V_aload_n d_Se_isFarFromFound_14 rfl ?_
    refine V_gf g_Se_isFarFromFound_15 c_Se rfl ?_
    refine V_isub d_Se_isFarFromFound_18 ?_
    refine V_abs s_Se_isFarFromFound_19 (Nat.le_of_ble_eq_true rfl) ?_
    refine V_iconst (v := 1) d_Se_isFarFromFound_22 (by decide) ?_
    rw [show (if 0 ≤ y - fy then y - fy else 0 - (y - fy)) = ab (y - fy) from rfl]
    refine V_icmp_le (tgt := 30) d_Se_isFarFromFound_23 (by decide) (fun c2 => ?_) (fun c2 => ?_)
    · rw [rz, show farB x y fx fy = false by simp [farB, c1, nlt_iff.mpr c2]]
      refine V_iconst (v := 0) d_Se_isFarFromFound_30 (by decide) ?_
      exact V_iret d_Se_isFarFromFound_31 rfl (by first | rfl | exact bI_n _)
    · rw [rz, show farB x y fx fy = true by simp [farB, nle_iff.mp c2]]
      refine V_iconst (v := 1) d_Se_isFarFromFound_26 (by decide) ?_
      refine V_goto (tgt := 31) d_Se_isFarFromFound_27 (by decide) ?_
      exact V_iret d_Se_isFarFromFound_31 rfl (by first | rfl | exact bI_n _)
/-- is it the first, or less than the least so far -/
def lsB (m t : Int32) : Bool := decide (t = -1) || decide (m < t)
theorem do_Se_isLess (m t : Int32) : Do l G k_Se_isLess [.int m, .int t] h (rz (lsB m t)) h := by
  refine Do.of (by decide) (Nat.le_of_ble_eq_true rfl) kw_Se_isLess ?_
  refine V_iload_n d_Se_isLess_0 rfl ?_
  refine V_iconst (v := (-1)) d_Se_isLess_1 (by decide) ?_
  refine V_icmp_eq (tgt := 10) d_Se_isLess_2 (by decide) (fun c1 => ?_) (fun c1 => ?_)
  · rw [rz, show lsB m t = true by simp [lsB, c1]]
    refine V_iconst (v := 1) d_Se_isLess_10 (by decide) ?_
    refine V_goto (tgt := 15) d_Se_isLess_11 (by decide) ?_
    exact V_iret d_Se_isLess_15 rfl (by first | rfl | exact bI_n _)
  · refine V_iload_n d_Se_isLess_5 rfl ?_
    refine V_iload_n d_Se_isLess_6 rfl ?_
    refine V_icmp_ge (tgt := 14) d_Se_isLess_7 (by decide) (fun c2 => ?_) (fun c2 => ?_)
    · rw [rz, show lsB m t = false by simp [lsB, c1, nlt_iff.mpr c2]]
      refine V_iconst (v := 0) d_Se_isLess_14 (by decide) ?_
      exact V_iret d_Se_isLess_15 rfl (by first | rfl | exact bI_n _)
    · rw [rz, show lsB m t = true by simp [lsB, nle_iff.mp c2]]
      refine V_iconst (v := 1) d_Se_isLess_10 (by decide) ?_
      refine V_goto (tgt := 15) d_Se_isLess_11 (by decide) ?_
      exact V_iret d_Se_isLess_15 rfl (by first | rfl | exact bI_n _)
/-- one cell of the second search -/
def lfS (ms : Nat → Int32) (w : Nat) (fx fy : Int32) (y x : Nat) (t : Int32) : Int32 := if farB (nI x) (nI y) fx fy && lsB (ms (y * w + x)) t then ms (y * w + x) else t
def lfR (ms : Nat → Int32) (w ht : Nat) (fx fy : Int32) : Int32 := fori (fun y t => fori (fun x t => lfS ms w fx fy y x t) (w - 2) 1 t) (ht - 2) 1 (-1)
theorem nIm1 {a : Nat} (h : 1 ≤ a) : nI a - 1 = nI (a - 1) := pk_sub (b := 1) h
theorem nIm2 {a : Nat} (h : 2 ≤ a) : nI a - 2 = nI (a - 2) := pk_sub (b := 2) h
theorem do_Se_lf (c_Se : h[3]? = some (SeO w ht dn fx fy le)) (a_Se_misses : h[4]? = some (IA (w * ht) ms)) (hw : 6 ≤ w ∧ w ≤ 20) (hht : 6 ≤ ht ∧ ht ≤ 20) : Do l G k_Se_leastFarFromFound [.ref 4] h (ri (lfR ms w ht fx fy)) h := by
  refine Do.of (by decide) (Nat.le_of_ble_eq_true rfl) kw_Se_leastFarFromFound ?_
  have hN : w * ht < 2 ^ 31 := by
    have : w * ht ≤ 20 * 20 := Nat.mul_le_mul hw.2 hht.2
    omega
  have inner : ∀ (y : Nat), 1 ≤ y → y + 1 < ht → ∀ (n x : Nat) (t : Int32), 1 ≤ x → x + n = w - 1 → V l G k_Se_leastFarFromFound h 68 [(0, .ref 4), (1, .int (fori (fun x t => lfS ms w fx fy y x t) n x t)), (2, .int (nI y))] [] h (ri (lfR ms w ht fx fy)) h → V l G k_Se_leastFarFromFound h 16 [(0, .ref 4), (1, .int t), (2, .int (nI y)), (3, .int (nI x))] [] h (ri (lfR ms w ht fx fy)) h := by
    intro y hy1 hy2 n
    induction n with
    | zero =>
      intro x t hx e kk
      refine V_iload_n d_Se_leastFarFromFound_16 rfl ?_
      refine V_aload_n d_Se_leastFarFromFound_17 rfl ?_
      refine V_gf g_Se_leastFarFromFound_18 c_Se rfl ?_
      refine V_iconst (v := 1) d_Se_leastFarFromFound_21 (by decide) ?_
      refine V_isub d_Se_leastFarFromFound_22 ?_
      rw [nIm1 (by omega)]
      refine V_icmp_ge (tgt := 68) d_Se_leastFarFromFound_23 (by decide) (fun _ => ?_) (fun c9 => absurd ((nI_le (by omega) (by omega) : nI (w - 1) ≤ nI x)) c9)
      exact V_keep [0, 1, 2] kk
    | succ n ih =>
      intro x t hx e kk
      have hlt : y * w + x < w * ht := by
        have h1 : (y + 1) * w ≤ ht * w := Nat.mul_le_mul_right _ (by omega)
        have h2 : (y + 1) * w = y * w + w := by rw [Nat.add_mul, Nat.one_mul]
        have h3 : ht * w = w * ht := Nat.mul_comm _ _
        omega
      refine V_iload_n d_Se_leastFarFromFound_16 rfl ?_
      refine V_aload_n d_Se_leastFarFromFound_17 rfl ?_
      refine V_gf g_Se_leastFarFromFound_18 c_Se rfl ?_
      refine V_iconst (v := 1) d_Se_leastFarFromFound_21 (by decide) ?_
      refine V_isub d_Se_leastFarFromFound_22 ?_
      rw [nIm1 (by omega)]
      refine V_icmp_ge (tgt := 68) d_Se_leastFarFromFound_23 (by decide) (fun c9 => absurd c9 ((nI_ge (by omega) (by omega) : ¬ nI (w - 1) ≤ nI x))) (fun _ => ?_)
      refine V_aload_n d_Se_leastFarFromFound_26 rfl ?_
      refine V_gf g_Se_leastFarFromFound_27 c_Se rfl ?_
      refine V_iload_n d_Se_leastFarFromFound_30 rfl ?_
      refine V_aload_n d_Se_leastFarFromFound_31 rfl ?_
      refine V_gf g_Se_leastFarFromFound_32 c_Se rfl ?_
      refine V_imul d_Se_leastFarFromFound_35 ?_
      refine V_iload_n d_Se_leastFarFromFound_36 rfl ?_
      refine V_iadd d_Se_leastFarFromFound_37 ?_
      refine V_ialdN d_Se_leastFarFromFound_38 a_Se_misses (⟨by rw [pk_mul, nI_add], hlt, hN⟩) ?_
      refine V_istore d_Se_leastFarFromFound_39 (by decide) rfl ?_
      refine V_aload_n d_Se_leastFarFromFound_41 rfl ?_
      refine V_iload_n d_Se_leastFarFromFound_42 rfl ?_
      refine V_iload_n d_Se_leastFarFromFound_43 rfl ?_
      refine V_cV s_Se_leastFarFromFound_44 (do_Se_far c_Se (nI x) (nI y)) c_Se rfl rfl (Nat.le_of_ble_eq_true rfl) ?_
      have step : ∀ t' : Int32, t' = lfS ms w fx fy y x t → V l G k_Se_leastFarFromFound h 62 [(0, .ref 4), (1, .int t'), (2, .int (nI y)), (3, .int (nI x)), (4, .int (ms (y * w + x)))] [] h (ri (lfR ms w ht fx fy)) h := by
        intro t' ht'
        refine V_iinc1 d_Se_leastFarFromFound_62 rfl (by decide) rfl ?_
        refine V_goto (tgt := 16) d_Se_leastFarFromFound_65 (by decide) ?_
        rw [nI_1]
        refine V_keep [0, 1, 2, 3] ?_
        exact ih (x + 1) t' (by omega) (by omega) (by rw [ht']; exact kk)
      refine V_if_eq (tgt := 62) d_Se_leastFarFromFound_47 (by decide) (fun c1 => ?_) (fun c1 => ?_)
      · exact step t (by simp [lfS, (bI_0 _).mp c1])
      · have c1' : farB (nI x) (nI y) fx fy = true := by simpa [bI_0] using c1
        refine V_iload d_Se_leastFarFromFound_50 rfl ?_
        refine V_iload_n d_Se_leastFarFromFound_52 rfl ?_
        refine V_cS s_Se_leastFarFromFound_53 (do_Se_isLess (ms (y * w + x)) t) rfl rfl (Nat.le_of_ble_eq_true rfl) ?_
        refine V_if_eq (tgt := 62) d_Se_leastFarFromFound_56 (by decide) (fun c2 => ?_) (fun c2 => ?_)
        · exact step t (by simp [lfS, (bI_0 _).mp c2])
        · have c2' : lsB (ms (y * w + x)) t = true := by simpa [bI_0] using c2
          refine V_iload d_Se_leastFarFromFound_59 rfl ?_
          refine V_istore_n d_Se_leastFarFromFound_61 (by decide) rfl ?_
          exact step _ (by simp [lfS, c1', c2'])
  have outer : ∀ (n y : Nat) (t : Int32), 1 ≤ y → y + n = ht - 1 → lfR ms w ht fx fy = fori (fun y t => fori (fun x t => lfS ms w fx fy y x t) (w - 2) 1 t) n y t → V l G k_Se_leastFarFromFound h 4 [(0, .ref 4), (1, .int t), (2, .int (nI y))] [] h (ri (lfR ms w ht fx fy)) h := by
    intro n
    induction n with
    | zero =>
      intro y t hy e e2
      rw [e2]
      refine V_iload_n d_Se_leastFarFromFound_4 rfl ?_
      refine V_aload_n d_Se_leastFarFromFound_5 rfl ?_
      refine V_gf g_Se_leastFarFromFound_6 c_Se rfl ?_
      refine V_iconst (v := 1) d_Se_leastFarFromFound_9 (by decide) ?_
      refine V_isub d_Se_leastFarFromFound_10 ?_
      rw [nIm1 (by omega)]
      refine V_icmp_ge (tgt := 74) d_Se_leastFarFromFound_11 (by decide) (fun _ => ?_) (fun c9 => absurd ((nI_le (by omega) (by omega) : nI (ht - 1) ≤ nI y)) c9)
      refine V_iload_n d_Se_leastFarFromFound_74 rfl ?_
      exact V_iret d_Se_leastFarFromFound_75 rfl rfl
    | succ n ih =>
      intro y t hy e e2
      refine V_iload_n d_Se_leastFarFromFound_4 rfl ?_
      refine V_aload_n d_Se_leastFarFromFound_5 rfl ?_
      refine V_gf g_Se_leastFarFromFound_6 c_Se rfl ?_
      refine V_iconst (v := 1) d_Se_leastFarFromFound_9 (by decide) ?_
      refine V_isub d_Se_leastFarFromFound_10 ?_
      rw [nIm1 (by omega)]
      refine V_icmp_ge (tgt := 74) d_Se_leastFarFromFound_11 (by decide) (fun c9 => absurd c9 ((nI_ge (by omega) (by omega) : ¬ nI (ht - 1) ≤ nI y))) (fun _ => ?_)
      refine V_iconst (v := 1) d_Se_leastFarFromFound_14 (by decide) ?_
      refine V_istore_n d_Se_leastFarFromFound_15 (by decide) rfl ?_
      refine inner y hy (by omega) (w - 2) 1 t (by omega) (by omega) ?_
      refine V_iinc1 d_Se_leastFarFromFound_68 rfl (by decide) rfl ?_
      refine V_goto (tgt := 4) d_Se_leastFarFromFound_71 (by decide) ?_
      rw [nI_1]
      exact ih (y + 1) _ (by omega) (by omega) e2
  refine V_iconst (v := (-1)) d_Se_leastFarFromFound_0 (by decide) ?_
  refine V_istore_n d_Se_leastFarFromFound_1 (by decide) rfl ?_
  refine V_iconst (v := 1) d_Se_leastFarFromFound_2 (by decide) ?_
  refine V_istore_n d_Se_leastFarFromFound_3 (by decide) rfl ?_
  exact outer (ht - 2) 1 (-1) (by omega) (by omega) rfl
end P13
