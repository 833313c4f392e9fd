section P32
theorem iadd {a b : Int32} (h1 : -2147483648 ≤ a.toInt + b.toInt) (h2 : a.toInt + b.toInt < 2147483648) : (a + b).toInt = a.toInt + b.toInt := by
  rw [Int32.toInt_add]; exact Int.bmod_eq_of_le (by omega) (by omega)
theorem isub {a b : Int32} (h1 : -2147483648 ≤ a.toInt - b.toInt) (h2 : a.toInt - b.toInt < 2147483648) : (a - b).toInt = a.toInt - b.toInt := by
  rw [Int32.toInt_sub]; exact Int.bmod_eq_of_le (by omega) (by omega)
theorem imul {a b : Int32} (h1 : -2147483648 ≤ a.toInt * b.toInt) (h2 : a.toInt * b.toInt < 2147483648) : (a * b).toInt = a.toInt * b.toInt := by
  rw [Int32.toInt_mul]; exact Int.bmod_eq_of_le (by omega) (by omega)
theorem ladd {a b : Int64} (h1 : -9223372036854775808 ≤ a.toInt + b.toInt) (h2 : a.toInt + b.toInt < 9223372036854775808) : (a + b).toInt = a.toInt + b.toInt := by
  rw [Int64.toInt_add]; exact Int.bmod_eq_of_le (by omega) (by omega)
theorem lsub {a b : Int64} (h1 : -9223372036854775808 ≤ a.toInt - b.toInt) (h2 : a.toInt - b.toInt < 9223372036854775808) : (a - b).toInt = a.toInt - b.toInt := by
  rw [Int64.toInt_sub]; exact Int.bmod_eq_of_le (by omega) (by omega)
theorem lmul {a b : Int64} (h1 : -9223372036854775808 ≤ a.toInt * b.toInt) (h2 : a.toInt * b.toInt < 9223372036854775808) : (a * b).toInt = a.toInt * b.toInt := by
  rw [Int64.toInt_mul]; exact Int.bmod_eq_of_le (by omega) (by omega)
theorem idv {a b : Int32} (h : 1 ≤ b.toInt) : (a / b).toInt = a.toInt.tdiv b.toInt := Int32.toInt_div_of_ne_right a b (fun e => by rw [e] at h; revert h; decide)
theorem ldv {a b : Int64} (h : 1 ≤ b.toInt) : (a / b).toInt = a.toInt.tdiv b.toInt := Int64.toInt_div_of_ne_right a b (fun e => by rw [e] at h; revert h; decide)
theorem l2i {a : Int64} (h1 : -2147483648 ≤ a.toInt) (h2 : a.toInt < 2147483648) : a.toInt32.toInt = a.toInt := by
  rw [Int64.toInt_toInt32]; exact Int.bmod_eq_of_le (by omega) (by omega)
/-- how far two numbers are apart, as the model has it -/
def apR (a b : Int32) : Int32 := if b < a then a - b else b - a
theorem ap_ab {i j : Nat} (hi : i < 2 ^ 30) (hj : j < 2 ^ 30) : apR (nI i) (nI j) = ab (nI i - nI j) := by
  have e : (nI i - nI j).toInt = (i : Int) - j := pk_sub_toInt hi hj
  have e2 : (nI j - nI i).toInt = (j : Int) - i := pk_sub_toInt hj hi
  unfold apR ab
  apply Int32.toInt_inj.mp
  by_cases q : j < i
  · rw [if_pos (nI_lt q (by omega)), if_pos (by rw [Int32.le_iff_toInt_le, e, Int32.toInt_zero]; omega)]
  · rw [if_neg (fun z => q ((nI_ltI (by omega) (by omega)).mp z))]
    by_cases q2 : j = i
    · subst q2
      rw [if_pos (by rw [Int32.le_iff_toInt_le, e, Int32.toInt_zero]; omega)]
    · rw [if_neg (by rw [Int32.le_iff_toInt_le, e, Int32.toInt_zero]; omega), e2, isub (by rw [e, Int32.toInt_zero]; omega) (by rw [e, Int32.toInt_zero]; omega), e, Int32.toInt_zero]
      omega
theorem bt1000 {i j : Nat} (hi : i ≤ 999) (hj : j ≤ 999) : (1000 * nI i - 1000 * nI j) / 1000 = nI i - nI j := by
  have e : (nI i - nI j).toInt = (i : Int) - j := pk_sub_toInt (by omega) (by omega)
  apply Int32.toInt_inj.mp
  rw [show (1000 : Int32) = nI 1000 from rfl, pk_mul, pk_mul, idv (by decide), pk_sub_toInt (by omega) (by omega), e, show (nI 1000).toInt = 1000 by decide]
  have e3 : ((1000 * i : Nat) : Int) - ((1000 * j : Nat) : Int) = ((i : Int) - j) * 1000 := by omega
  rw [e3, Int.mul_tdiv_cancel _ (by decide)]
variable {l : Launch} {G : Gb} {h : List Ce} {th sx sy : Int32} {w ht sd pl ln : Nat} {md sh hi : Bool} {mf sX sY : Nat → Int32} {Bn : Nat → Bool} {wh : Nat → Int32}
abbrev MoO (th : Int32) (w ht sd : Nat) (md : Bool) (pl : Nat) (sh : Bool) (sx sy : Int32) (ln : Nat) (hi : Bool) : Ce := .inr (8, [.int th, .int (nI w), .int (nI ht), .int (nI sd), .ref 29, .int (bI md), .ref 30, .int (nI pl), .ref 31, .ref 32, .ref 33, .ref 34, .ref 35, .ref 36, .ref 37, .int (bI sh), .int sx, .int sy, .int (nI ln), .ref 38, .ref 39, .ref 40, .int (bI hi), .ref 41, .ref 42, .ref 43, .ref 44, .ref 45])
theorem mo_thrown (c_Mo : h[27]? = some (MoO th w ht sd md pl sh sx sy ln hi)) : Do l G k_Mo_thrown [.ref 28] h (ri th) h := by
  refine Do.of (by decide) (Nat.le_of_ble_eq_true rfl) kw_Mo_thrown ?_
  refine V_aload_n d_Mo_thrown_0 rfl ?_
  refine V_gf g_Mo_thrown_1 c_Mo rfl ?_
  exact V_iret d_Mo_thrown_4 rfl rfl
theorem mo_within (x a b : Int32) : Do l G k_Mo_within [.int x, .int a, .int b] h (rz (wiB x a b)) h := by
  refine Do.of (by decide) (Nat.le_of_ble_eq_true rfl) kw_Mo_within ?_
  refine V_iload_n d_Mo_within_0 rfl ?_
  refine V_iload_n d_Mo_within_1 rfl ?_
  refine V_icmp_lt (tgt := 14) d_Mo_within_2 (by decide) (fun c1 => ?_) (fun c1 => ?_)
  · rw [rz, wi_lo c1]
    refine V_iconst (v := 0) d_Mo_within_14 (by decide) ?_
    exact V_iret d_Mo_within_15 rfl (by first | rfl | exact bI_n _)
  · refine V_iload_n d_Mo_within_5 rfl ?_
    refine V_iload_n d_Mo_within_6 rfl ?_
    refine V_icmp_gt (tgt := 14) d_Mo_within_7 (by decide) (fun c2 => ?_) (fun c2 => ?_)
    · rw [rz, wi_hi c2]
      refine V_iconst (v := 0) d_Mo_within_14 (by decide) ?_
      exact V_iret d_Mo_within_15 rfl (by first | rfl | exact bI_n _)
    · rw [rz, wi_in c1 c2]
      refine V_iconst (v := 1) d_Mo_within_10 (by decide) ?_
      refine V_goto (tgt := 15) d_Mo_within_11 (by decide) ?_
      exact V_iret d_Mo_within_15 rfl (by first | rfl | exact bI_n _)
theorem mo_isPhoto (x : Int32) : Do l G k_Mo_isPhoto [.int x] h (rz (wiB x 0 3)) h := by
  refine Do.of (by decide) (Nat.le_of_ble_eq_true rfl) kw_Mo_isPhoto ?_
  refine V_iload_n d_Mo_isPhoto_0 rfl ?_
  refine V_iconst (v := 0) d_Mo_isPhoto_1 (by decide) ?_
  refine V_iconst (v := 3) d_Mo_isPhoto_2 (by decide) ?_
  refine V_cS s_Mo_isPhoto_3 (mo_within x 0 3) rfl rfl (Nat.le_of_ble_eq_true rfl) ?_
  exact V_iret d_Mo_isPhoto_6 rfl (by first | rfl | exact bI_n _)
theorem mo_isCell (c_Mo : h[27]? = some (MoO th w ht sd md pl sh sx sy ln hi)) (x y : Int32) : Do l G k_Mo_isCell [.ref 28, .int x, .int y] h (rz (wiB x 0 (nI w - 1) && wiB y 0 (nI ht - 1))) h := by
  refine Do.of (by decide) (Nat.le_of_ble_eq_true rfl) kw_Mo_isCell ?_
  refine V_iload_n d_Mo_isCell_0 rfl ?_
  refine V_iconst (v := 0) d_Mo_isCell_1 (by decide) ?_
  refine V_aload_n d_Mo_isCell_2 rfl ?_
  refine V_gf g_Mo_isCell_3 c_Mo rfl ?_
  refine V_iconst (v := 1) d_Mo_isCell_6 (by decide) ?_
  refine V_isub d_Mo_isCell_7 ?_
  refine V_cS s_Mo_isCell_8 (mo_within x 0 (nI w - 1)) rfl rfl (Nat.le_of_ble_eq_true rfl) ?_
  refine V_if_eq (tgt := 32) d_Mo_isCell_11 (by decide) (fun c1 => ?_) (fun c1 => ?_)
  · rw [rz, (bI_0 _).mp c1]
    refine V_iconst (v := 0) d_Mo_isCell_32 (by decide) ?_
    exact V_iret d_Mo_isCell_33 rfl (by first | rfl | exact bI_n _)
  · rw [(show wiB x 0 (nI w - 1) = true by simpa [bI_0] using c1)]
    refine V_iload_n d_Mo_isCell_14 rfl ?_
    refine V_iconst (v := 0) d_Mo_isCell_15 (by decide) ?_
    refine V_aload_n d_Mo_isCell_16 rfl ?_
    refine V_gf g_Mo_isCell_17 c_Mo rfl ?_
    refine V_iconst (v := 1) d_Mo_isCell_20 (by decide) ?_
    refine V_isub d_Mo_isCell_21 ?_
    refine V_cS s_Mo_isCell_22 (mo_within y 0 (nI ht - 1)) rfl rfl (Nat.le_of_ble_eq_true rfl) ?_
    refine V_if_eq (tgt := 32) d_Mo_isCell_25 (by decide) (fun c2 => ?_) (fun c2 => ?_)
    · rw [rz, (bI_0 _).mp c2]
      refine V_iconst (v := 0) d_Mo_isCell_32 (by decide) ?_
      exact V_iret d_Mo_isCell_33 rfl (by first | rfl | exact bI_n _)
    · rw [(show wiB y 0 (nI ht - 1) = true by simpa [bI_0] using c2)]
      refine V_iconst (v := 1) d_Mo_isCell_28 (by decide) ?_
      refine V_goto (tgt := 33) d_Mo_isCell_29 (by decide) ?_
      exact V_iret d_Mo_isCell_33 rfl (by first | rfl | exact bI_n _)
theorem wi_has (x : Int32) {n : Nat} (hn : n < 2 ^ 31) : wiB x 0 (nI n - 1) = hasB x n := by
  unfold wiB hasB
  congr 1
  have e : (nI n - 1).toInt = (n : Int) - 1 := by
    rw [isub (by rw [nI_toInt hn]; show -2147483648 ≤ (n : Int) - 1; omega) (by rw [nI_toInt hn]; show (n : Int) - 1 < _; omega), nI_toInt hn]
    rfl
  simp only [decide_eq_decide, Int32.le_iff_toInt_le, Int32.lt_iff_toInt_lt, e, nI_toInt hn]
  omega
theorem mo_isPlace (c_Mo : h[27]? = some (MoO th w ht sd md pl sh sx sy ln hi)) (hn : pl ≤ 12) (x : Int32) : Do l G k_Mo_isPlace [.ref 28, .int x] h (rz (hasB x pl)) h := by
  refine Do.of (by decide) (Nat.le_of_ble_eq_true rfl) kw_Mo_isPlace ?_
  rw [← wi_has x (by omega)]
  refine V_iload_n d_Mo_isPlace_0 rfl ?_
  refine V_iconst (v := 0) d_Mo_isPlace_1 (by decide) ?_
  refine V_aload_n d_Mo_isPlace_2 rfl ?_
  refine V_gf g_Mo_isPlace_3 c_Mo rfl ?_
  refine V_iconst (v := 1) d_Mo_isPlace_6 (by decide) ?_
  refine V_isub d_Mo_isPlace_7 ?_
  refine V_cS s_Mo_isPlace_8 (mo_within x 0 (nI pl - 1)) rfl rfl (Nat.le_of_ble_eq_true rfl) ?_
  exact V_iret d_Mo_isPlace_11 rfl (by first | rfl | exact bI_n _)
/-- what a call of the model throws -/
def gc (a b c : Bool) : Nat := if a then (if b then (if c then 0 else 3) else 2) else 1
theorem mo_goes (c_Mo : h[27]? = some (MoO th w ht sd md pl sh sx sy ln hi)) (a b c : Bool) : Do l G k_Mo_goes [.ref 28, .int (bI a), .int (bI b), .int (bI c)] h (rz (a && b && c)) (h.set 27 (MoO (nI (gc a b c)) w ht sd md pl sh sx sy ln hi)) := by
  refine Do.of (by decide) (Nat.le_of_ble_eq_true rfl) kw_Mo_goes ?_
  have hl : 27 < h.length := (List.getElem?_eq_some_iff.mp c_Mo).1
  have fin : ∀ (n : Int32) (k : Bool), k = decide (n = 0) → V l G k_Mo_goes h 26 [(0, .ref 28), (1, .int (bI a)), (2, .int (bI b)), (3, .int (bI c))] [.int n, .ref 28] h (rz k) (h.set 27 (MoO n w ht sd md pl sh sx sy ln hi)) := by
    intro n k hk
    refine V_pf p_Mo_goes_26 c_Mo (Nat.le_of_ble_eq_true rfl) rfl rfl ?_
    have c_Mo : (h.set 27 (MoO n w ht sd md pl sh sx sy ln hi))[27]? = some (MoO n w ht sd md pl sh sx sy ln hi) := List.getElem?_set_self hl
    refine V_aload_n d_Mo_goes_29 rfl ?_
    refine V_gf g_Mo_goes_30 c_Mo rfl ?_
    refine V_if_ne (tgt := 40) d_Mo_goes_33 (by decide) (fun c1 => ?_) (fun c1 => ?_)
    · rw [rz, hk, decide_eq_false c1]
      refine V_iconst (v := 0) d_Mo_goes_40 (by decide) ?_
      exact V_iret d_Mo_goes_41 rfl (by first | rfl | exact bI_n _)
    · rw [rz, hk, decide_eq_true c1]
      refine V_iconst (v := 1) d_Mo_goes_36 (by decide) ?_
      refine V_goto (tgt := 41) d_Mo_goes_37 (by decide) ?_
      exact V_iret d_Mo_goes_41 rfl (by first | rfl | exact bI_n _)
  refine V_aload_n d_Mo_goes_0 rfl ?_
  refine V_iload_n d_Mo_goes_1 rfl ?_
  cases a with
  | false =>
    refine V_if_ne (tgt := 9) d_Mo_goes_2 (by decide) (fun c9 => absurd ((rfl : bI false = 0)) c9) (fun _ => ?_)
    refine V_iconst (v := 1) d_Mo_goes_5 (by decide) ?_
    refine V_goto (tgt := 26) d_Mo_goes_6 (by decide) ?_
    exact fin 1 _ rfl
  | true =>
    refine V_if_ne (tgt := 9) d_Mo_goes_2 (by decide) (fun _ => ?_) (fun c9 => absurd (c9 : _) ((by decide : ¬ bI true = 0)))
    refine V_iload_n d_Mo_goes_9 rfl ?_
    cases b with
    | false =>
      refine V_if_ne (tgt := 17) d_Mo_goes_10 (by decide) (fun c9 => absurd ((rfl : bI false = 0)) c9) (fun _ => ?_)
      refine V_iconst (v := 2) d_Mo_goes_13 (by decide) ?_
      refine V_goto (tgt := 26) d_Mo_goes_14 (by decide) ?_
      exact fin 2 _ rfl
    | true =>
      refine V_if_ne (tgt := 17) d_Mo_goes_10 (by decide) (fun _ => ?_) (fun c9 => absurd (c9 : _) ((by decide : ¬ bI true = 0)))
      refine V_iload_n d_Mo_goes_17 rfl ?_
      cases c with
      | false =>
        refine V_if_ne (tgt := 25) d_Mo_goes_18 (by decide) (fun c9 => absurd ((rfl : bI false = 0)) c9) (fun _ => ?_)
        refine V_iconst (v := 3) d_Mo_goes_21 (by decide) ?_
        refine V_goto (tgt := 26) d_Mo_goes_22 (by decide) ?_
        exact fin 3 _ rfl
      | true =>
        refine V_if_ne (tgt := 25) d_Mo_goes_18 (by decide) (fun _ => ?_) (fun c9 => absurd (c9 : _) ((by decide : ¬ bI true = 0)))
        refine V_iconst (v := 0) d_Mo_goes_25 (by decide) ?_
        exact fin 0 _ rfl
theorem mo_apart (a b : Int32) : Do l G k_Mo_apart [.int a, .int b] h (ri (apR a b)) h := by
  refine Do.of (by decide) (Nat.le_of_ble_eq_true rfl) kw_Mo_apart ?_
  refine V_iload_n d_Mo_apart_0 rfl ?_
  refine V_iload_n d_Mo_apart_1 rfl ?_
  refine V_icmp_le (tgt := 11) d_Mo_apart_2 (by decide) (fun c1 => ?_) (fun c1 => ?_)
  · rw [apR, if_neg (nlt_iff.mpr c1)]
    refine V_iload_n d_Mo_apart_11 rfl ?_
    refine V_iload_n d_Mo_apart_12 rfl ?_
    refine V_isub d_Mo_apart_13 ?_
    exact V_iret d_Mo_apart_14 rfl rfl
  · rw [apR, if_pos (nle_iff.mp c1)]
    refine V_iload_n d_Mo_apart_5 rfl ?_
    refine V_iload_n d_Mo_apart_6 rfl ?_
    refine V_isub d_Mo_apart_7 ?_
    refine V_goto (tgt := 14) d_Mo_apart_8 (by decide) ?_
    exact V_iret d_Mo_apart_14 rfl rfl
theorem ix400 {p x y : Nat} (hp : p < 4) (hx : x < 20) (hy : y < 20) : Ix (400 * nI p + 20 * nI y + nI x) (400 * p + 20 * y + x) 1600 := by
  refine ⟨?_, by omega, by decide⟩
  rw [show (400 : Int32) = nI 400 from rfl, show (20 : Int32) = nI 20 from rfl, pk_mul, pk_mul, nI_add, nI_add]
theorem mo_valueOf (c_Mo : h[27]? = some (MoO th w ht sd md pl sh sx sy ln hi)) (a_Mo_values : h[28]? = some (IA 1600 mf)) {p x y : Nat} (hp : p < 4) (hx : x < 20) (hy : y < 20) : Do l G k_Mo_valueOf [.ref 28, .int (nI p), .int (nI x), .int (nI y)] h (ri (mf (400 * p + 20 * y + x))) h := by
  refine Do.of (by decide) (Nat.le_of_ble_eq_true rfl) kw_Mo_valueOf ?_
  refine V_aload_n d_Mo_valueOf_0 rfl ?_
  refine V_gf g_Mo_valueOf_1 c_Mo rfl ?_
  refine V_sipush (v := 400) d_Mo_valueOf_4 (by decide) ?_
  refine V_iload_n d_Mo_valueOf_7 rfl ?_
  refine V_imul d_Mo_valueOf_8 ?_
  refine V_bipush (v := 20) d_Mo_valueOf_9 (by decide) ?_
  refine V_iload_n d_Mo_valueOf_11 rfl ?_
  refine V_imul d_Mo_valueOf_12 ?_
  refine V_iadd d_Mo_valueOf_13 ?_
  refine V_iload_n d_Mo_valueOf_14 rfl ?_
  refine V_iadd d_Mo_valueOf_15 ?_
  refine V_ialdN d_Mo_valueOf_16 a_Mo_values (ix400 hp hx hy) ?_
  exact V_iret d_Mo_valueOf_17 rfl rfl
/-- class and model see the same -/
def RS (Bn : Nat → Bool) (wh sX sY : Nat → Int32) : Prop := ∀ k, k < 48 → (Bn k = !decide (sX k = -1)) ∧ (Bn k = true → ∃ i j : Nat, i ≤ 999 ∧ j ≤ 999 ∧ sX k = nI i ∧ sY k = nI j ∧ wh (k * 2) = nI i ∧ wh (k * 2 + 1) = nI j)
theorem ix48 {p q : Nat} (hp : p < 12) (hq : q < 4) : Ix (4 * nI p + nI q) (p * 4 + q) 48 := by
  refine ⟨?_, by omega, by decide⟩
  rw [show (4 : Int32) = nI 4 from rfl, pk_mul, nI_add, Nat.mul_comm]
theorem mo_isSeen (c_Mo : h[27]? = some (MoO th w ht sd md pl sh sx sy ln hi)) (a_Mo_seenX : h[30]? = some (IA 48 sX)) (hR : RS Bn wh sX sY) {p q : Nat} (hp : p < 12) (hq : q < 4) : Do l G k_Mo_isSeen [.ref 28, .int (nI p), .int (nI q)] h (rz (Bn (p * 4 + q))) h := by
  refine Do.of (by decide) (Nat.le_of_ble_eq_true rfl) kw_Mo_isSeen ?_
  rw [(hR (p * 4 + q) (by omega)).1]
  refine V_aload_n d_Mo_isSeen_0 rfl ?_
  refine V_gf g_Mo_isSeen_1 c_Mo rfl ?_
  refine V_iconst (v := 4) d_Mo_isSeen_4 (by decide) ?_
  refine V_iload_n d_Mo_isSeen_5 rfl ?_
  refine V_imul d_Mo_isSeen_6 ?_
  refine V_iload_n d_Mo_isSeen_7 rfl ?_
  refine V_iadd d_Mo_isSeen_8 ?_
  refine V_ialdN d_Mo_isSeen_9 a_Mo_seenX (ix48 hp hq) ?_
  refine V_iconst (v := (-1)) d_Mo_isSeen_10 (by decide) ?_
  refine V_icmp_eq (tgt := 18) d_Mo_isSeen_11 (by decide) (fun c1 => ?_) (fun c1 => ?_)
  · rw [rz, decide_eq_true c1]
    refine V_iconst (v := 0) d_Mo_isSeen_18 (by decide) ?_
    exact V_iret d_Mo_isSeen_19 rfl (by first | rfl | exact bI_n _)
  · rw [rz, decide_eq_false c1]
    refine V_iconst (v := 1) d_Mo_isSeen_14 (by decide) ?_
    refine V_goto (tgt := 19) d_Mo_isSeen_15 (by decide) ?_
    exact V_iret d_Mo_isSeen_19 rfl (by first | rfl | exact bI_n _)
theorem mo_where (c_Mo : h[27]? = some (MoO th w ht sd md pl sh sx sy ln hi)) (a_Mo_seenX : h[30]? = some (IA 48 sX)) (a_Mo_seenY : h[31]? = some (IA 48 sY)) (hR : RS Bn wh sX sY) {p q x : Nat} (hp : p < 12) (hq : q < 4) (hx : x < 2) (hB : Bn (p * 4 + q) = true) : Do l G k_Mo_where [.ref 28, .int (nI p), .int (nI q), .int (nI x)] h (ri (1000 * wh ((p * 4 + q) * 2 + x))) h := by
  refine Do.of (by decide) (Nat.le_of_ble_eq_true rfl) kw_Mo_where ?_
  obtain ⟨i, j, -, -, e1, e2, e3, e4⟩ := (hR (p * 4 + q) (by omega)).2 hB
  refine V_sipush (v := 1000) d_Mo_where_0 (by decide) ?_
  refine V_iload_n d_Mo_where_3 rfl ?_
  rcases (show x = 0 ∨ x = 1 by omega) with z | z <;> subst z
  · refine V_if_ne (tgt := 20) d_Mo_where_4 (by decide) (fun c9 => absurd ((rfl : nI 0 = 0)) c9) (fun _ => ?_)
    rw [show wh ((p * 4 + q) * 2 + 0) = nI i from e3, ← e1]
    refine V_aload_n d_Mo_where_7 rfl ?_
    refine V_gf g_Mo_where_8 c_Mo rfl ?_
    refine V_iconst (v := 4) d_Mo_where_11 (by decide) ?_
    refine V_iload_n d_Mo_where_12 rfl ?_
    refine V_imul d_Mo_where_13 ?_
    refine V_iload_n d_Mo_where_14 rfl ?_
    refine V_iadd d_Mo_where_15 ?_
    refine V_ialdN d_Mo_where_16 a_Mo_seenX (ix48 hp hq) ?_
    refine V_goto (tgt := 30) d_Mo_where_17 (by decide) ?_
    refine V_imul d_Mo_where_30 ?_
    exact V_iret d_Mo_where_31 rfl rfl
  · refine V_if_ne (tgt := 20) d_Mo_where_4 (by decide) (fun _ => ?_) (fun c9 => absurd (c9 : _) ((by decide : ¬ nI 1 = 0)))
    rw [e4, ← e2]
    refine V_aload_n d_Mo_where_20 rfl ?_
    refine V_gf g_Mo_where_21 c_Mo rfl ?_
    refine V_iconst (v := 4) d_Mo_where_24 (by decide) ?_
    refine V_iload_n d_Mo_where_25 rfl ?_
    refine V_imul d_Mo_where_26 ?_
    refine V_iload_n d_Mo_where_27 rfl ?_
    refine V_iadd d_Mo_where_28 ?_
    refine V_ialdN d_Mo_where_29 a_Mo_seenY (ix48 hp hq) ?_
    refine V_imul d_Mo_where_30 ?_
    exact V_iret d_Mo_where_31 rfl rfl
theorem mo_isBoth (c_Mo : h[27]? = some (MoO th w ht sd md pl sh sx sy ln hi)) (a_Mo_seenX : h[30]? = some (IA 48 sX)) (hR : RS Bn wh sX sY) {p a b : Nat} (hp : p < 12) (ha : a < 4) (hb : b < 4) : Do l G k_Mo_isBoth [.ref 28, .int (nI p), .int (nI a), .int (nI b)] h (rz (Bn (p * 4 + a) && Bn (p * 4 + b))) h := by
  refine Do.of (by decide) (Nat.le_of_ble_eq_true rfl) kw_Mo_isBoth ?_
  refine V_aload_n d_Mo_isBoth_0 rfl ?_
  refine V_iload_n d_Mo_isBoth_1 rfl ?_
  refine V_iload_n d_Mo_isBoth_2 rfl ?_
  refine V_cV s_Mo_isBoth_3 (mo_isSeen c_Mo a_Mo_seenX hR hp ha) c_Mo rfl rfl (Nat.le_of_ble_eq_true rfl) ?_
  refine V_if_eq (tgt := 22) d_Mo_isBoth_6 (by decide) (fun c1 => ?_) (fun c1 => ?_)
  · rw [rz, (bI_0 _).mp c1]
    refine V_iconst (v := 0) d_Mo_isBoth_22 (by decide) ?_
    exact V_iret d_Mo_isBoth_23 rfl (by first | rfl | exact bI_n _)
  · rw [(show Bn (p * 4 + a) = true by simpa [bI_0] using c1)]
    refine V_aload_n d_Mo_isBoth_9 rfl ?_
    refine V_iload_n d_Mo_isBoth_10 rfl ?_
    refine V_iload_n d_Mo_isBoth_11 rfl ?_
    refine V_cV s_Mo_isBoth_12 (mo_isSeen c_Mo a_Mo_seenX hR hp hb) c_Mo rfl rfl (Nat.le_of_ble_eq_true rfl) ?_
    refine V_if_eq (tgt := 22) d_Mo_isBoth_15 (by decide) (fun c2 => ?_) (fun c2 => ?_)
    · rw [rz, (bI_0 _).mp c2]
      refine V_iconst (v := 0) d_Mo_isBoth_22 (by decide) ?_
      exact V_iret d_Mo_isBoth_23 rfl (by first | rfl | exact bI_n _)
    · rw [(show Bn (p * 4 + b) = true by simpa [bI_0] using c2)]
      refine V_iconst (v := 1) d_Mo_isBoth_18 (by decide) ?_
      refine V_goto (tgt := 23) d_Mo_isBoth_19 (by decide) ?_
      exact V_iret d_Mo_isBoth_23 rfl (by first | rfl | exact bI_n _)
theorem mo_between (c_Mo : h[27]? = some (MoO th w ht sd md pl sh sx sy ln hi)) (a_Mo_seenX : h[30]? = some (IA 48 sX)) (a_Mo_seenY : h[31]? = some (IA 48 sY)) (hR : RS Bn wh sX sY) {p a b x : Nat} (hp : p < 12) (ha : a < 4) (hb : b < 4) (hx : x < 2) (hA : Bn (p * 4 + a) = true) (hB : Bn (p * 4 + b) = true) : Do l G k_Mo_between [.ref 28, .int (nI p), .int (nI a), .int (nI b), .int (nI x)] h (ri (wh ((p * 4 + b) * 2 + x) - wh ((p * 4 + a) * 2 + x))) h := by
  refine Do.of (by decide) (Nat.le_of_ble_eq_true rfl) kw_Mo_between ?_
  have q : ∀ k, k < 48 → Bn k = true → ∃ i : Nat, i ≤ 999 ∧ wh (k * 2 + x) = nI i := by
    intro k hk hz
    obtain ⟨i, j, h1, h2, -, -, e3, e4⟩ := (hR k hk).2 hz
    rcases (show x = 0 ∨ x = 1 by omega) with z | z <;> subst z
    · exact ⟨i, h1, e3⟩
    · exact ⟨j, h2, e4⟩
  obtain ⟨i, hi9, ei⟩ := q (p * 4 + b) (by omega) hB
  obtain ⟨j, hj9, ej⟩ := q (p * 4 + a) (by omega) hA
  have e : ((1000 : Int32) * wh ((p * 4 + b) * 2 + x) - 1000 * wh ((p * 4 + a) * 2 + x)) / 1000 = wh ((p * 4 + b) * 2 + x) - wh ((p * 4 + a) * 2 + x) := by
    rw [ei, ej]; exact bt1000 hi9 hj9
  rw [← e]
  refine V_aload_n d_Mo_between_0 rfl ?_
  refine V_iload_n d_Mo_between_1 rfl ?_
  refine V_iload_n d_Mo_between_2 rfl ?_
  refine V_iload d_Mo_between_3 rfl ?_
  refine V_cV s_Mo_between_5 (mo_where c_Mo a_Mo_seenX a_Mo_seenY hR hp hb hx hB) c_Mo rfl rfl (Nat.le_of_ble_eq_true rfl) ?_
  refine V_aload_n d_Mo_between_8 rfl ?_
  refine V_iload_n d_Mo_between_9 rfl ?_
  refine V_iload_n d_Mo_between_10 rfl ?_
  refine V_iload d_Mo_between_11 rfl ?_
  refine V_cV s_Mo_between_13 (mo_where c_Mo a_Mo_seenX a_Mo_seenY hR hp ha hx hA) c_Mo rfl rfl (Nat.le_of_ble_eq_true rfl) ?_
  refine V_isub d_Mo_between_16 ?_
  refine V_sipush (v := 1000) d_Mo_between_17 (by decide) ?_
  refine V_idiv d_Mo_between_20 (by decide) ?_
  exact V_iret d_Mo_between_21 rfl rfl
theorem mo_drawn (c_Mo : h[27]? = some (MoO th w ht sd md pl sh sx sy ln hi)) (hs : sd ≤ 65536) (t : Nat) (ht : t ≤ 20) : Do l G k_Mo_drawn [.ref 28, .int (nI t)] h (ri (nI (dzN sd t))) h := by
  refine Do.of (by decide) (Nat.le_of_ble_eq_true rfl) kw_Mo_drawn ?_
  have loop : ∀ (n i z : Nat), i + n = 3 → z < 65537 → dzN sd t = fori (fun _ z => (75 * z + 74) % 65537) n i z → V l G k_Mo_drawn h 15 [(0, .ref 28), (1, .int (nI t)), (2, .int (nI z)), (3, .int (nI i))] [] h (ri (nI (dzN sd t))) h := by
    intro n
    induction n with
    | zero =>
      intro i z hi hz e
      obtain rfl : i = 3 := by omega
      rw [e]
      refine V_iload_n d_Mo_drawn_15 rfl ?_
      refine V_iconst (v := 3) d_Mo_drawn_16 (by decide) ?_
      refine V_icmp_ge (tgt := 37) d_Mo_drawn_17 (by decide) (fun _ => ?_) (fun c9 => absurd ((by decide : (3 : Int32) ≤ nI 3)) c9)
      refine V_iload_n d_Mo_drawn_37 rfl ?_
      exact V_iret d_Mo_drawn_38 rfl rfl
    | succ n ih =>
      intro i z hi hz e
      refine V_iload_n d_Mo_drawn_15 rfl ?_
      refine V_iconst (v := 3) d_Mo_drawn_16 (by decide) ?_
      refine V_icmp_ge (tgt := 37) d_Mo_drawn_17 (by decide) (fun c9 => absurd c9 ((nI_ge (b := 3) (by omega) (by decide) : ¬ (3 : Int32) ≤ nI i))) (fun _ => ?_)
      refine V_bipush (v := 75) d_Mo_drawn_20 (by decide) ?_
      refine V_iload_n d_Mo_drawn_22 rfl ?_
      refine V_imul d_Mo_drawn_23 ?_
      refine V_bipush (v := 74) d_Mo_drawn_24 (by decide) ?_
      refine V_iadd d_Mo_drawn_26 ?_
      refine V_ldc d_Mo_drawn_27 c_Mo_drawn_27 ?_
      refine V_irem d_Mo_drawn_29 (by decide) ?_
      have e1 : (75 * nI z + 74) - (75 * nI z + 74) / 65537 * 65537 = nI ((75 * z + 74) % 65537) := by
        rw [show (75 : Int32) = nI 75 from rfl, show (74 : Int32) = nI 74 from rfl, show (65537 : Int32) = nI 65537 from rfl, pk_mul, nI_add]
        exact pk_rem (by omega) (by decide) (by decide)
      rw [e1]
      refine V_istore_n d_Mo_drawn_30 (by decide) rfl ?_
      refine V_iinc1 d_Mo_drawn_31 rfl (by decide) rfl ?_
      refine V_goto (tgt := 15) d_Mo_drawn_34 (by decide) ?_
      rw [nI_1]
      exact ih (i + 1) _ (by omega) (Nat.mod_lt _ (by decide)) e
  refine V_aload_n d_Mo_drawn_0 rfl ?_
  refine V_gf g_Mo_drawn_1 c_Mo rfl ?_
  refine V_bipush (v := 101) d_Mo_drawn_4 (by decide) ?_
  refine V_iload_n d_Mo_drawn_6 rfl ?_
  refine V_imul d_Mo_drawn_7 ?_
  refine V_iadd d_Mo_drawn_8 ?_
  refine V_ldc d_Mo_drawn_9 c_Mo_drawn_9 ?_
  refine V_irem d_Mo_drawn_11 (by decide) ?_
  have e1 : (nI sd + 101 * nI t) - (nI sd + 101 * nI t) / 65537 * 65537 = nI ((sd + 101 * t) % 65537) := by
    rw [show (101 : Int32) = nI 101 from rfl, show (65537 : Int32) = nI 65537 from rfl, pk_mul, nI_add]
    exact pk_rem (by omega) (by decide) (by decide)
  rw [e1]
  refine V_istore_n d_Mo_drawn_12 (by decide) rfl ?_
  refine V_iconst (v := 0) d_Mo_drawn_13 (by decide) ?_
  refine V_istore_n d_Mo_drawn_14 (by decide) rfl ?_
  exact loop 3 0 _ (by omega) (Nat.mod_lt _ (by decide)) rfl
end P32
