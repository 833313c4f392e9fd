section P10
variable {l : Launch} {G : Gb} {h : List Ce} {w ht : Int32} {N : Nat} {f : Nat → Int32}
/-- a truth as an int -/
def bI (b : Bool) : Int32 := if b then 1 else 0
abbrev PhO (w ht : Int32) : Ce := .inr (3, [.int w, .int ht, .ref 3])
abbrev IA (N : Nat) (f : Nat → Int32) : Ce := .inl (.int, N, .inl f)
abbrev ZA (N : Nat) (f : Nat → Int32) : Ce := .inl (.boolean, N, .inl f)
abbrev ri (x : Int32) : Rs := .inl (some (.int x))
abbrev rl (x : Int64) : Rs := .inl (some (.long x))
abbrev rv : Rs := .inl none
def wiB (x a b : Int32) : Bool := decide (a ≤ x) && decide (x ≤ b)
theorem wi_lo {x a b : Int32} (c : x < a) : bI (wiB x a b) = 0 := by
  have : ¬ a ≤ x := by rw [Int32.le_iff_toInt_le]; rw [Int32.lt_iff_toInt_lt] at c; omega
  simp [bI, wiB, this]
theorem wi_hi {x a b : Int32} (c : b < x) : bI (wiB x a b) = 0 := by
  have : ¬ x ≤ b := by rw [Int32.le_iff_toInt_le]; rw [Int32.lt_iff_toInt_lt] at c; omega
  simp [bI, wiB, this]
theorem wi_in {x a b : Int32} (c : ¬ x < a) (d : ¬ b < x) : bI (wiB x a b) = 1 := by
  have c1 : a ≤ x := by rw [Int32.le_iff_toInt_le]; rw [Int32.lt_iff_toInt_lt] at c; omega
  have d1 : x ≤ b := by rw [Int32.le_iff_toInt_le]; rw [Int32.lt_iff_toInt_lt] at d; omega
  simp [bI, wiB, c1, d1]
theorem do_isWithin (x a b : Int32) : Do l G k_Pm_isWithin [.int x, .int a, .int b] h (ri (bI (wiB x a b))) h := by
  refine Do.of (by decide) (Nat.le_of_ble_eq_true rfl) kw_Pm_isWithin ?_
  refine V_iload_n d_Pm_isWithin_0 rfl ?_
  refine V_iload_n d_Pm_isWithin_1 rfl ?_
  refine V_icmp_lt (tgt := 14) d_Pm_isWithin_2 (by decide) (fun c1 => ?_) (fun c1 => ?_)
  · rw [wi_lo c1]
    refine V_iconst (v := 0) d_Pm_isWithin_14 (by decide) ?_
    exact V_iret d_Pm_isWithin_15 rfl rfl
  · refine V_iload_n d_Pm_isWithin_5 rfl ?_
    refine V_iload_n d_Pm_isWithin_6 rfl ?_
    refine V_icmp_gt (tgt := 14) d_Pm_isWithin_7 (by decide) (fun c2 => ?_) (fun c2 => ?_)
    · rw [wi_hi c2]
      refine V_iconst (v := 0) d_Pm_isWithin_14 (by decide) ?_
      exact V_iret d_Pm_isWithin_15 rfl rfl
    · rw [wi_in c1 c2]
      refine V_iconst (v := 1) d_Pm_isWithin_10 (by decide) ?_
      refine V_goto (tgt := 15) d_Pm_isWithin_11 (by decide) ?_
      exact V_iret d_Pm_isWithin_15 rfl rfl
theorem do_Ph_index (c_Ph : h[1]? = some (PhO w ht)) (p x y : Int32) : Do l G k_Ph_index [.ref 2, .int p, .int x, .int y] h (ri ((p * ht + y) * w + x)) h := by
  refine Do.of (by decide) (Nat.le_of_ble_eq_true rfl) kw_Ph_index ?_
  refine V_iload_n d_Ph_index_0 rfl ?_
  refine V_aload_n d_Ph_index_1 rfl ?_
  refine V_gf g_Ph_index_2 c_Ph rfl ?_
  refine V_imul d_Ph_index_5 ?_
  refine V_iload_n d_Ph_index_6 rfl ?_
  refine V_iadd d_Ph_index_7 ?_
  refine V_aload_n d_Ph_index_8 rfl ?_
  refine V_gf g_Ph_index_9 c_Ph rfl ?_
  refine V_imul d_Ph_index_12 ?_
  refine V_iload_n d_Ph_index_13 rfl ?_
  refine V_iadd d_Ph_index_14 ?_
  exact V_iret d_Ph_index_15 rfl rfl
theorem do_Ph_value (c_Ph : h[1]? = some (PhO w ht)) (a_Ph_values : h[2]? = some (IA N f)) (p x y : Int32) (hi : vp_in ((p * ht + y) * w + x) N) : Do l G k_Ph_value [.ref 2, .int p, .int x, .int y] h (ri (f ((p * ht + y) * w + x).toNatClampNeg)) h := by
  refine Do.of (by decide) (Nat.le_of_ble_eq_true rfl) kw_Ph_value ?_
  refine V_aload_n d_Ph_value_0 rfl ?_
  refine V_gf g_Ph_value_1 c_Ph rfl ?_
  refine V_aload_n d_Ph_value_4 rfl ?_
  refine V_iload_n d_Ph_value_5 rfl ?_
  refine V_iload_n d_Ph_value_6 rfl ?_
  refine V_iload_n d_Ph_value_7 rfl ?_
  refine V_cV s_Ph_value_8 (do_Ph_index c_Ph p x y) c_Ph rfl rfl (Nat.le_of_ble_eq_true rfl) ?_
  refine V_iald d_Ph_value_11 a_Ph_values (hi) ?_
  exact V_iret d_Ph_value_12 rfl rfl
theorem do_Ph_change (c_Ph : h[1]? = some (PhO w ht)) (a_Ph_values : h[2]? = some (IA N f)) (p x y v : Int32) (hi : vp_in ((p * ht + y) * w + x) N) : Do l G k_Ph_change [.ref 2, .int p, .int x, .int y, .int v] h (ri (f ((p * ht + y) * w + x).toNatClampNeg)) (h.set 2 (IA N (upd f ((p * ht + y) * w + x).toNatClampNeg v))) := by
  refine Do.of (by decide) (Nat.le_of_ble_eq_true rfl) kw_Ph_change ?_
  refine V_aload_n d_Ph_change_0 rfl ?_
  refine V_iload_n d_Ph_change_1 rfl ?_
  refine V_iload_n d_Ph_change_2 rfl ?_
  refine V_iload_n d_Ph_change_3 rfl ?_
  refine V_cV s_Ph_change_4 (do_Ph_index c_Ph p x y) c_Ph rfl rfl (Nat.le_of_ble_eq_true rfl) ?_
  refine V_istore d_Ph_change_7 (by decide) rfl ?_
  refine V_aload_n d_Ph_change_9 rfl ?_
  refine V_gf g_Ph_change_10 c_Ph rfl ?_
  refine V_iload d_Ph_change_13 rfl ?_
  refine V_iald d_Ph_change_15 a_Ph_values (hi) ?_
  refine V_istore d_Ph_change_16 (by decide) rfl ?_
  refine V_aload_n d_Ph_change_18 rfl ?_
  refine V_gf g_Ph_change_19 c_Ph rfl ?_
  refine V_iload d_Ph_change_22 rfl ?_
  refine V_iload d_Ph_change_24 rfl ?_
  refine V_iast d_Ph_change_26 a_Ph_values (hi) ?_
  refine V_iload d_Ph_change_27 rfl ?_
  exact V_iret d_Ph_change_29 rfl rfl
end P10
