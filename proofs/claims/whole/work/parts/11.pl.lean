section P11
variable {l : Launch} {G : Gb} {h : List Ce} {n : Nat} {sp : Int32} {As Bn : Nat → Bool} {wh : Nat → Int32}
abbrev PlO (n : Nat) (sp : Int32) : Ce := .inr (4, [.ref 7, .ref 8, .ref 9, .int (nI n), .int sp])
theorem do_Pl_number (c_Pl : h[5]? = some (PlO n sp)) : Do l G k_Pl_number [.ref 6] h (ri (nI n)) h := by
  refine Do.of (by decide) (Nat.le_of_ble_eq_true rfl) kw_Pl_number ?_
  refine V_aload_n d_Pl_number_0 rfl ?_
  refine V_gf g_Pl_number_1 c_Pl rfl ?_
  exact V_iret d_Pl_number_4 rfl rfl
theorem do_Pl_spares (c_Pl : h[5]? = some (PlO n sp)) : Do l G k_Pl_spares [.ref 6] h (ri sp) h := by
  refine Do.of (by decide) (Nat.le_of_ble_eq_true rfl) kw_Pl_spares ?_
  refine V_aload_n d_Pl_spares_0 rfl ?_
  refine V_gf g_Pl_spares_1 c_Pl rfl ?_
  exact V_iret d_Pl_spares_4 rfl rfl
/-- is x the number of one of n? -/
def hasB (x : Int32) (n : Nat) : Bool := decide (0 ≤ x) && decide (x < nI n)
theorem nle_iff {a b : Int32} : ¬ a ≤ b ↔ b < a := by rw [Int32.le_iff_toInt_le, Int32.lt_iff_toInt_lt]; omega
theorem nlt_iff {a b : Int32} : ¬ a < b ↔ b ≤ a := by rw [Int32.le_iff_toInt_le, Int32.lt_iff_toInt_lt]; omega
theorem do_Pl_has (c_Pl : h[5]? = some (PlO n sp)) (x : Int32) : Do l G k_Pl_has [.ref 6, .int x] h (rz (hasB x n)) h := by
  refine Do.of (by decide) (Nat.le_of_ble_eq_true rfl) kw_Pl_has ?_
  refine V_iload_n d_Pl_has_0 rfl ?_
  refine V_if_lt (tgt := 16) d_Pl_has_1 (by decide) (fun c1 => ?_) (fun c1 => ?_)
  · rw [rz, show hasB x n = false by simp [hasB, nle_iff.mpr c1]]
    refine V_iconst (v := 0) d_Pl_has_16 (by decide) ?_
    exact V_iret d_Pl_has_17 rfl (by first | rfl | exact bI_n _)
  · refine V_iload_n d_Pl_has_4 rfl ?_
    refine V_aload_n d_Pl_has_5 rfl ?_
    refine V_gf g_Pl_has_6 c_Pl rfl ?_
    refine V_icmp_ge (tgt := 16) d_Pl_has_9 (by decide) (fun c2 => ?_) (fun c2 => ?_)
    · rw [rz, show hasB x n = false by simp [hasB, nlt_iff.mpr c2]]
      refine V_iconst (v := 0) d_Pl_has_16 (by decide) ?_
      exact V_iret d_Pl_has_17 rfl (by first | rfl | exact bI_n _)
    · rw [rz, show hasB x n = true by simp [hasB, nlt_iff.mp c1, nle_iff.mp c2]]
      refine V_iconst (v := 1) d_Pl_has_12 (by decide) ?_
      refine V_goto (tgt := 17) d_Pl_has_13 (by decide) ?_
      exact V_iret d_Pl_has_17 rfl (by first | rfl | exact bI_n _)
theorem do_Pl_add (c_Pl : h[5]? = some (PlO n sp)) : Do l G k_Pl_add [.ref 6] h (ri (nI n)) (h.set 5 (PlO (n + 1) sp)) := by
  refine Do.of (by decide) (Nat.le_of_ble_eq_true rfl) kw_Pl_add ?_
  refine V_aload_n d_Pl_add_0 rfl ?_
  refine V_gf g_Pl_add_1 c_Pl rfl ?_
  refine V_istore_n d_Pl_add_4 (by decide) rfl ?_
  refine V_aload_n d_Pl_add_5 rfl ?_
  refine V_dup d_Pl_add_6 rfl ?_
  refine V_gf g_Pl_add_7 c_Pl rfl ?_
  refine V_iconst (v := 1) d_Pl_add_10 (by decide) ?_
  refine V_iadd d_Pl_add_11 ?_
  rw [nI_1]
  refine V_pf p_Pl_add_12 c_Pl (Nat.le_of_ble_eq_true rfl) rfl rfl ?_
  refine V_iload_n d_Pl_add_15 rfl ?_
  exact V_iret d_Pl_add_16 rfl rfl
theorem do_Pl_isSpare (c_Pl : h[5]? = some (PlO n sp)) (a_Pl_aside : h[6]? = some (ZA 12 As)) {p : Nat} (hp : p < 12) : Do l G k_Pl_isSpare [.ref 6, .int (nI p)] h (rz (As p)) h := by
  refine Do.of (by decide) (Nat.le_of_ble_eq_true rfl) kw_Pl_isSpare ?_
  refine V_aload_n d_Pl_isSpare_0 rfl ?_
  refine V_gf g_Pl_isSpare_1 c_Pl rfl ?_
  refine V_iload_n d_Pl_isSpare_4 rfl ?_
  refine V_zaldN d_Pl_isSpare_5 a_Pl_aside (Ix.of hp (by decide)) ?_
  exact V_iret d_Pl_isSpare_6 rfl (by first | rfl | exact bI_n _)
theorem do_Pl_setAside (c_Pl : h[5]? = some (PlO n sp)) (a_Pl_aside : h[6]? = some (ZA 12 As)) {p : Nat} (hp : p < 12) (b : Bool) : Do l G k_Pl_setAside [.ref 6, .int (nI p), .int (bI b)] h (rz (As p != b)) (if As p = b then h else (h.set 6 (ZA 12 (updB As p b))).set 5 (PlO n (sp + if b then 1 else -1))) := by
  refine Do.of (by decide) (Nat.le_of_ble_eq_true rfl) kw_Pl_setAside ?_
  refine V_aload_n d_Pl_setAside_0 rfl ?_
  refine V_gf g_Pl_setAside_1 c_Pl rfl ?_
  refine V_iload_n d_Pl_setAside_4 rfl ?_
  refine V_zaldN d_Pl_setAside_5 a_Pl_aside (Ix.of hp (by decide)) ?_
  refine V_iload_n d_Pl_setAside_6 rfl ?_
  refine V_icmp_ne (tgt := 12) d_Pl_setAside_7 (by decide) (fun c1 => ?_) (fun c1 => ?_)
  · have e : ¬ As p = b := fun q => c1 ((bI_ne _ _).mpr q)
    rw [if_neg e, rz, show (As p != b) = true by simp [e]]
    refine V_aload_n d_Pl_setAside_12 rfl ?_
    refine V_gf g_Pl_setAside_13 c_Pl rfl ?_
    refine V_iload_n d_Pl_setAside_16 rfl ?_
    refine V_iload_n d_Pl_setAside_17 rfl ?_
    refine V_zastN d_Pl_setAside_18 a_Pl_aside (Ix.of hp (by decide)) ?_
    have c_Pl : (h.set 6 (ZA 12 (updB As p b)))[5]? = some (PlO n sp) := by rw [List.getElem?_set_ne (by decide)]; exact c_Pl
    refine V_aload_n d_Pl_setAside_19 rfl ?_
    refine V_dup d_Pl_setAside_20 rfl ?_
    refine V_gf g_Pl_setAside_21 c_Pl rfl ?_
    refine V_iload_n d_Pl_setAside_24 rfl ?_
    refine V_if_eq (tgt := 32) d_Pl_setAside_25 (by decide) (fun c2 => ?_) (fun c2 => ?_)
    · obtain rfl := (bI_0 _).mp c2
      refine V_iconst (v := (-1)) d_Pl_setAside_32 (by decide) ?_
      refine V_iadd d_Pl_setAside_33 ?_
      refine V_pf p_Pl_setAside_34 c_Pl (Nat.le_of_ble_eq_true rfl) rfl rfl ?_
      refine V_iconst (v := 1) d_Pl_setAside_37 (by decide) ?_
      exact V_iret d_Pl_setAside_38 rfl (by first | rfl | exact bI_n _)
    · obtain rfl : b = true := by simpa [bI_0] using c2
      refine V_iconst (v := 1) d_Pl_setAside_28 (by decide) ?_
      refine V_goto (tgt := 33) d_Pl_setAside_29 (by decide) ?_
      refine V_iadd d_Pl_setAside_33 ?_
      refine V_pf p_Pl_setAside_34 c_Pl (Nat.le_of_ble_eq_true rfl) rfl rfl ?_
      refine V_iconst (v := 1) d_Pl_setAside_37 (by decide) ?_
      exact V_iret d_Pl_setAside_38 rfl (by first | rfl | exact bI_n _)
  · have e : As p = b := (bI_ne _ _).mp c1
    rw [if_pos e, rz, show (As p != b) = false by simp [e]]
    refine V_iconst (v := 0) d_Pl_setAside_10 (by decide) ?_
    exact V_iret d_Pl_setAside_11 rfl (by first | rfl | exact bI_n _)
theorem do_Pl_isNoted (c_Pl : h[5]? = some (PlO n sp)) (a_Pl_noted : h[7]? = some (ZA 48 Bn)) {p q : Nat} (hp : p < 12) (hq : q < 4) : Do l G k_Pl_isNoted [.ref 6, .int (nI p), .int (nI q)] h (rz (Bn (p * 4 + q))) h := by
  refine Do.of (by decide) (Nat.le_of_ble_eq_true rfl) kw_Pl_isNoted ?_
  refine V_aload_n d_Pl_isNoted_0 rfl ?_
  refine V_gf g_Pl_isNoted_1 c_Pl rfl ?_
  refine V_iload_n d_Pl_isNoted_4 rfl ?_
  refine V_iconst (v := 4) d_Pl_isNoted_5 (by decide) ?_
  refine V_imul d_Pl_isNoted_6 ?_
  refine V_iload_n d_Pl_isNoted_7 rfl ?_
  refine V_iadd d_Pl_isNoted_8 ?_
  refine V_zaldN d_Pl_isNoted_9 a_Pl_noted (⟨by rw [show (4 : Int32) = nI 4 from rfl, pk_mul, nI_add], by omega, by decide⟩) ?_
  exact V_iret d_Pl_isNoted_10 rfl (by first | rfl | exact bI_n _)
theorem do_Pl_where (c_Pl : h[5]? = some (PlO n sp)) (a_Pl_where : h[8]? = some (IA 96 wh)) {p q x : Nat} (hp : p < 12) (hq : q < 4) (hx : x < 2) : Do l G k_Pl_where [.ref 6, .int (nI p), .int (nI q), .int (nI x)] h (ri (wh ((p * 4 + q) * 2 + x))) h := by
  refine Do.of (by decide) (Nat.le_of_ble_eq_true rfl) kw_Pl_where ?_
  refine V_aload_n d_Pl_where_0 rfl ?_
  refine V_gf g_Pl_where_1 c_Pl rfl ?_
  refine V_iload_n d_Pl_where_4 rfl ?_
  refine V_iconst (v := 4) d_Pl_where_5 (by decide) ?_
  refine V_imul d_Pl_where_6 ?_
  refine V_iload_n d_Pl_where_7 rfl ?_
  refine V_iadd d_Pl_where_8 ?_
  refine V_iconst (v := 2) d_Pl_where_9 (by decide) ?_
  refine V_imul d_Pl_where_10 ?_
  refine V_iload_n d_Pl_where_11 rfl ?_
  refine V_iadd d_Pl_where_12 ?_
  refine V_ialdN d_Pl_where_13 a_Pl_where (⟨by rw [show (4 : Int32) = nI 4 from rfl, pk_mul, nI_add, show (2 : Int32) = nI 2 from rfl, pk_mul, nI_add], by omega, by decide⟩) ?_
  exact V_iret d_Pl_where_14 rfl rfl
theorem do_Pl_forget (c_Pl : h[5]? = some (PlO n sp)) (a_Pl_noted : h[7]? = some (ZA 48 Bn)) {p q : Nat} (hp : p < 12) (hq : q < 4) : Do l G k_Pl_forget [.ref 6, .int (nI p), .int (nI q)] h (rz (Bn (p * 4 + q))) (h.set 7 (ZA 48 (updB Bn (p * 4 + q) false))) := by
  refine Do.of (by decide) (Nat.le_of_ble_eq_true rfl) kw_Pl_forget ?_
  refine V_aload_n d_Pl_forget_0 rfl ?_
  refine V_iload_n d_Pl_forget_1 rfl ?_
  refine V_iload_n d_Pl_forget_2 rfl ?_
  refine V_cV s_Pl_forget_3 (do_Pl_isNoted c_Pl a_Pl_noted hp hq) c_Pl rfl rfl (Nat.le_of_ble_eq_true rfl) ?_
  refine V_istore_n d_Pl_forget_6 (by decide) rfl ?_
  refine V_aload_n d_Pl_forget_7 rfl ?_
  refine V_gf g_Pl_forget_8 c_Pl rfl ?_
  refine V_iload_n d_Pl_forget_11 rfl ?_
  refine V_iconst (v := 4) d_Pl_forget_12 (by decide) ?_
  refine V_imul d_Pl_forget_13 ?_
  refine V_iload_n d_Pl_forget_14 rfl ?_
  refine V_iadd d_Pl_forget_15 ?_
  refine V_iconst (v := 0) d_Pl_forget_16 (by decide) ?_
  rw [show (0 : Int32) = bI false from rfl]
  refine V_zastN d_Pl_forget_17 a_Pl_noted (⟨by rw [show (4 : Int32) = nI 4 from rfl, pk_mul, nI_add], by omega, by decide⟩) ?_
  refine V_iload_n d_Pl_forget_18 rfl ?_
  exact V_iret d_Pl_forget_19 rfl (by first | rfl | exact bI_n _)
theorem do_Pl_note (c_Pl : h[5]? = some (PlO n sp)) (a_Pl_noted : h[7]? = some (ZA 48 Bn)) (a_Pl_where : h[8]? = some (IA 96 wh)) {p q : Nat} (hp : p < 12) (hq : q < 4) (x y : Int32) : Do l G k_Pl_note [.ref 6, .int (nI p), .int (nI q), .int x, .int y] h (rz (Bn (p * 4 + q))) ((h.set 7 (ZA 48 (updB Bn (p * 4 + q) true))).set 8 (IA 96 (upd (upd wh ((p * 4 + q) * 2) x) ((p * 4 + q) * 2 + 1) y))) := by
  refine Do.of (by decide) (Nat.le_of_ble_eq_true rfl) kw_Pl_note ?_
  refine V_iload_n d_Pl_note_0 rfl ?_
  refine V_iconst (v := 4) d_Pl_note_1 (by decide) ?_
  refine V_imul d_Pl_note_2 ?_
  refine V_iload_n d_Pl_note_3 rfl ?_
  refine V_iadd d_Pl_note_4 ?_
  rw [show (4 : Int32) = nI 4 from rfl, pk_mul, nI_add]
  refine V_istore d_Pl_note_5 (by decide) rfl ?_
  refine V_aload_n d_Pl_note_7 rfl ?_
  refine V_gf g_Pl_note_8 c_Pl rfl ?_
  refine V_iload d_Pl_note_11 rfl ?_
  refine V_zaldN d_Pl_note_13 a_Pl_noted (Ix.of (by omega) (by decide)) ?_
  refine V_istore d_Pl_note_14 (by decide) rfl ?_
  refine V_aload_n d_Pl_note_16 rfl ?_
  refine V_gf g_Pl_note_17 c_Pl rfl ?_
  refine V_iload d_Pl_note_20 rfl ?_
  refine V_iconst (v := 1) d_Pl_note_22 (by decide) ?_
  rw [show V l G k_Pl_note h 23 = V l G k_Pl_note h 23 from rfl]
  have e1 : ∀ {K9 : Kt} {h9 : List Ce} {ls9 : List (Nat × Value)} {st9 : List Value} {r9 : Rs} {h8 h7 : List Ce}, V l G K9 h9 23 ls9 (.int (bI true) :: st9) h8 r9 h7 → V l G K9 h9 23 ls9 (.int 1 :: st9) h8 r9 h7 := fun q => q
  refine e1 ?_
  refine V_zastN d_Pl_note_23 a_Pl_noted (Ix.of (by omega) (by decide)) ?_
  have c_Pl' : (h.set 7 (ZA 48 (updB Bn (p * 4 + q) true)))[5]? = some (PlO n sp) := by rw [List.getElem?_set_ne (by decide)]; exact c_Pl
  have a_Pl_where' : (h.set 7 (ZA 48 (updB Bn (p * 4 + q) true)))[8]? = some (IA 96 wh) := by rw [List.getElem?_set_ne (by decide)]; exact a_Pl_where
  have e2 : nI (p * 4 + q) * 2 = nI ((p * 4 + q) * 2) := by rw [show (2 : Int32) = nI 2 from rfl, pk_mul]
  have e3 : nI ((p * 4 + q) * 2) + 1 = nI ((p * 4 + q) * 2 + 1) := nI_1 _
  revert c_Pl' a_Pl_where'
  generalize hE : h.set 7 (ZA 48 (updB Bn (p * 4 + q) true)) = E
  intro c_Pl a_Pl_where
  refine V_aload_n d_Pl_note_24 rfl ?_
  refine V_gf g_Pl_note_25 c_Pl rfl ?_
  refine V_iload d_Pl_note_28 rfl ?_
  refine V_iconst (v := 2) d_Pl_note_30 (by decide) ?_
  refine V_imul d_Pl_note_31 ?_
  rw [e2]
  refine V_iload_n d_Pl_note_32 rfl ?_
  refine V_iastN d_Pl_note_33 a_Pl_where (Ix.of (by omega) (by decide)) ?_
  have c_Pl' : (E.set 8 (IA 96 (upd wh ((p * 4 + q) * 2) x)))[5]? = some (PlO n sp) := by rw [List.getElem?_set_ne (by decide)]; exact c_Pl
  have hlen : 8 < E.length := (List.getElem?_eq_some_iff.mp a_Pl_where).1
  have a_Pl_where' : (E.set 8 (IA 96 (upd wh ((p * 4 + q) * 2) x)))[8]? = some (IA 96 (upd wh ((p * 4 + q) * 2) x)) := List.getElem?_set_self hlen
  rw [show E.set 8 (IA 96 (upd (upd wh ((p * 4 + q) * 2) x) ((p * 4 + q) * 2 + 1) y)) = (E.set 8 (IA 96 (upd wh ((p * 4 + q) * 2) x))).set 8 (IA 96 (upd (upd wh ((p * 4 + q) * 2) x) ((p * 4 + q) * 2 + 1) y)) from (List.set_set _).symm]
  revert c_Pl' a_Pl_where'
  generalize E.set 8 (IA 96 (upd wh ((p * 4 + q) * 2) x)) = E2
  intro c_Pl a_Pl_where
  refine V_aload_n d_Pl_note_34 rfl ?_
  refine V_gf g_Pl_note_35 c_Pl rfl ?_
  refine V_iload d_Pl_note_38 rfl ?_
  refine V_iconst (v := 2) d_Pl_note_40 (by decide) ?_
  refine V_imul d_Pl_note_41 ?_
  rw [e2]
  refine V_iconst (v := 1) d_Pl_note_42 (by decide) ?_
  refine V_iadd d_Pl_note_43 ?_
  rw [e3]
  refine V_iload d_Pl_note_44 rfl ?_
  refine V_iastN d_Pl_note_46 a_Pl_where (Ix.of (by omega) (by decide)) ?_
  refine V_iload d_Pl_note_47 rfl ?_
  exact V_iret d_Pl_note_49 rfl (by first | rfl | exact bI_n _)
end P11
