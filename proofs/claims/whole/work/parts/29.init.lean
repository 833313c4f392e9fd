section P29
variable {l : Launch} {G : Gb} {h : List Ce} {w ht sd : Nat}
section R
variable {K : Kt} {h0 : List Ce} {pc : Nat} {ls : List (Nat × Value)} {st : List Value} {r : Rs} {h' : List Ce}
theorem V_newiN {n : Int32} {N : Nat} (hd : decode K.code pc = .ok (.newarray .int, 2)) (hw : Cond.arrayClass .int ∈ tw) (e : n = nI N ∧ N ≤ 10000) (kk : V l G K h0 (pc + 2) ls (.ref (h.length + 1) :: st) (h ++ [IA N (fun _ => 0)]) r h') : V l G K h0 pc ls (.int n :: st) h r h' := by
  obtain ⟨rfl, hb⟩ := e
  exact V_newi hd hw (nI_pos (by omega)) (nI_clamp (by omega)) (by omega) kk
theorem V_newzN {n : Int32} {N : Nat} (hd : decode K.code pc = .ok (.newarray .boolean, 2)) (hw : Cond.arrayClass .boolean ∈ tw) (e : n = nI N ∧ N ≤ 10000) (kk : V l G K h0 (pc + 2) ls (.ref (h.length + 1) :: st) (h ++ [ZA N (fun _ => false)]) r h') : V l G K h0 pc ls (.int n :: st) h r h' := by
  obtain ⟨rfl, hb⟩ := e
  exact V_newz hd hw (nI_pos (by omega)) (nI_clamp (by omega)) (by omega) kk
theorem V_newlN {n : Int32} {N : Nat} (hd : decode K.code pc = .ok (.newarray .long, 2)) (hw : Cond.arrayClass .long ∈ tw) (e : n = nI N ∧ N ≤ 10000) (kk : V l G K h0 (pc + 2) ls (.ref (h.length + 1) :: st) (h ++ [.inl (.long, N, .inr (.inl (fun _ => 0)))]) r h') : V l G K h0 pc ls (.int n :: st) h r h' := by
  obtain ⟨rfl, hb⟩ := e
  exact V_newl hd hw (nI_pos (by omega)) (nI_clamp (by omega)) (by omega) kk
end R
abbrev zI : Nat → Int32 := fun _ => 0
abbrev zB : Nat → Bool := fun _ => false
theorem b1 (hw : w ≤ 20) (hht : ht ≤ 20) : 4 * ht * w ≤ 10000 := by
  have : 4 * ht * w ≤ 4 * 20 * 20 := Nat.mul_le_mul (Nat.mul_le_mul_left _ hht) hw
  omega
theorem b2 (hw : w ≤ 20) (hht : ht ≤ 20) : w * ht ≤ 10000 := by
  have : w * ht ≤ 20 * 20 := Nat.mul_le_mul hw hht
  omega
theorem b3 (hw : w ≤ 20) (hht : ht ≤ 20) : (w + 2) * (ht + 2) ≤ 10000 := by
  have : (w + 2) * (ht + 2) ≤ 22 * 22 := Nat.mul_le_mul (by omega) (by omega)
  omega
theorem do_Ph_init (c0 : Ce) (hw : w ≤ 20) (hht : ht ≤ 20) : Do l G k_Ph_init [.ref 2, .int (nI w), .int (nI ht)] [c0, .inr (3, [.int 0, .int 0, .null])] rv [c0, PhO w ht, IA (4 * ht * w) zI] := by
  refine Do.of (by decide) (Nat.le_of_ble_eq_true rfl) kw_Ph_init ?_
  have e : (4 : Int32) * nI w * nI ht = nI (4 * ht * w) := by rw [show (4 : Int32) = nI 4 from rfl, pk_mul, pk_mul, Nat.mul_right_comm]
  refine V_aload_n d_Ph_init_0 rfl ?_
  refine V_ob s_Ph_init_1 (Nat.le_of_ble_eq_true rfl) ?_
  refine V_aload_n d_Ph_init_4 rfl ?_
  refine V_iload_n d_Ph_init_5 rfl ?_
  refine V_pf p_Ph_init_6 rfl (Nat.le_of_ble_eq_true rfl) rfl rfl ?_
  refine V_aload_n d_Ph_init_9 rfl ?_
  refine V_iload_n d_Ph_init_10 rfl ?_
  refine V_pf p_Ph_init_11 rfl (Nat.le_of_ble_eq_true rfl) rfl rfl ?_
  refine V_aload_n d_Ph_init_14 rfl ?_
  refine V_iconst (v := 4) d_Ph_init_15 (by decide) ?_
  refine V_iload_n d_Ph_init_16 rfl ?_
  refine V_imul d_Ph_init_17 ?_
  refine V_iload_n d_Ph_init_18 rfl ?_
  refine V_imul d_Ph_init_19 ?_
  refine V_newiN d_Ph_init_20 tw_ai (⟨e, b1 hw hht⟩) ?_
  refine V_pf p_Ph_init_22 rfl (Nat.le_of_ble_eq_true rfl) rfl rfl ?_
  exact V_vret d_Ph_init_25 rfl
theorem do_Se_init (c0 c1 c2 : Ce) (hw : w ≤ 20) (hht : ht ≤ 20) : Do l G k_Se_init [.ref 4, .int (nI w), .int (nI ht)] [c0, c1, c2, .inr (6, [.int 0, .int 0, .null, .int 0, .int 0, .int 0, .int 0])] rv [c0, c1, c2, SeO w ht false 0 0 0, IA (w * ht) zI] := by
  refine Do.of (by decide) (Nat.le_of_ble_eq_true rfl) kw_Se_init ?_
  refine V_aload_n d_Se_init_0 rfl ?_
  refine V_ob s_Se_init_1 (Nat.le_of_ble_eq_true rfl) ?_
  refine V_aload_n d_Se_init_4 rfl ?_
  refine V_iload_n d_Se_init_5 rfl ?_
  refine V_pf p_Se_init_6 rfl (Nat.le_of_ble_eq_true rfl) rfl rfl ?_
  refine V_aload_n d_Se_init_9 rfl ?_
  refine V_iload_n d_Se_init_10 rfl ?_
  refine V_pf p_Se_init_11 rfl (Nat.le_of_ble_eq_true rfl) rfl rfl ?_
  refine V_aload_n d_Se_init_14 rfl ?_
  refine V_iload_n d_Se_init_15 rfl ?_
  refine V_iload_n d_Se_init_16 rfl ?_
  refine V_imul d_Se_init_17 ?_
  refine V_newiN d_Se_init_18 tw_ai (⟨pk_mul w ht, b2 hw hht⟩) ?_
  refine V_pf p_Se_init_20 rfl (Nat.le_of_ble_eq_true rfl) rfl rfl ?_
  exact V_vret d_Se_init_23 rfl
theorem do_Pl_init (c0 c1 c2 c3 c4 : Ce) : Do l G k_Pl_init [.ref 6] [c0, c1, c2, c3, c4, .inr (4, [.null, .null, .null, .int 0, .int 0])] rv [c0, c1, c2, c3, c4, PlO 0 0, ZA 12 zB, ZA 48 zB, IA 96 zI] := by
  refine Do.of (by decide) (Nat.le_of_ble_eq_true rfl) kw_Pl_init ?_
  refine V_aload_n d_Pl_init_0 rfl ?_
  refine V_ob s_Pl_init_1 (Nat.le_of_ble_eq_true rfl) ?_
  refine V_aload_n d_Pl_init_4 rfl ?_
  refine V_bipush (v := 12) d_Pl_init_5 (by decide) ?_
  refine V_newzN d_Pl_init_7 tw_az ((⟨rfl, by decide⟩ : (12 : Int32) = nI 12 ∧ _)) ?_
  refine V_pf p_Pl_init_9 rfl (Nat.le_of_ble_eq_true rfl) rfl rfl ?_
  refine V_aload_n d_Pl_init_12 rfl ?_
  refine V_bipush (v := 48) d_Pl_init_13 (by decide) ?_
  refine V_newzN d_Pl_init_15 tw_az ((⟨rfl, by decide⟩ : (48 : Int32) = nI 48 ∧ _)) ?_
  refine V_pf p_Pl_init_17 rfl (Nat.le_of_ble_eq_true rfl) rfl rfl ?_
  refine V_aload_n d_Pl_init_20 rfl ?_
  refine V_bipush (v := 96) d_Pl_init_21 (by decide) ?_
  refine V_newiN d_Pl_init_23 tw_ai ((⟨rfl, by decide⟩ : (96 : Int32) = nI 96 ∧ _)) ?_
  refine V_pf p_Pl_init_25 rfl (Nat.le_of_ble_eq_true rfl) rfl rfl ?_
  exact V_vret d_Pl_init_28 rfl
theorem do_Ag_init (c0 c1 c2 c3 c4 c5 c6 c7 c8 : Ce) : Do l G k_Ag_init [.ref 10, .int (nI sd)] [c0, c1, c2, c3, c4, c5, c6, c7, c8, .inr (1, [.int 0, .null, .null, .int 0, .int 0, .int 0, .int 0])] rv [c0, c1, c2, c3, c4, c5, c6, c7, c8, AgO sd 0 false 0 0, IA 12 zI, IA 12 zI] := by
  refine Do.of (by decide) (Nat.le_of_ble_eq_true rfl) kw_Ag_init ?_
  refine V_aload_n d_Ag_init_0 rfl ?_
  refine V_ob s_Ag_init_1 (Nat.le_of_ble_eq_true rfl) ?_
  refine V_aload_n d_Ag_init_4 rfl ?_
  refine V_bipush (v := 12) d_Ag_init_5 (by decide) ?_
  refine V_newiN d_Ag_init_7 tw_ai ((⟨rfl, by decide⟩ : (12 : Int32) = nI 12 ∧ _)) ?_
  refine V_pf p_Ag_init_9 rfl (Nat.le_of_ble_eq_true rfl) rfl rfl ?_
  refine V_aload_n d_Ag_init_12 rfl ?_
  refine V_bipush (v := 12) d_Ag_init_13 (by decide) ?_
  refine V_newiN d_Ag_init_15 tw_ai ((⟨rfl, by decide⟩ : (12 : Int32) = nI 12 ∧ _)) ?_
  refine V_pf p_Ag_init_17 rfl (Nat.le_of_ble_eq_true rfl) rfl rfl ?_
  refine V_aload_n d_Ag_init_20 rfl ?_
  refine V_iload_n d_Ag_init_21 rfl ?_
  refine V_pf p_Ag_init_22 rfl (Nat.le_of_ble_eq_true rfl) rfl rfl ?_
  exact V_vret d_Ag_init_25 rfl
theorem do_Ad_init (c0 c1 c2 c3 c4 c5 c6 c7 c8 c9 c10 c11 : Ce) : Do l G k_Ad_init [.ref 13] [c0, c1, c2, c3, c4, c5, c6, c7, c8, c9, c10, c11, .inr (0, [.null, .null, .null, .null])] rv [c0, c1, c2, c3, c4, c5, c6, c7, c8, c9, c10, c11, AdO, IA 24 zI, IA 8 zI, IA 24 zI, IA 8 zI] := by
  refine Do.of (by decide) (Nat.le_of_ble_eq_true rfl) kw_Ad_init ?_
  refine V_aload_n d_Ad_init_0 rfl ?_
  refine V_ob s_Ad_init_1 (Nat.le_of_ble_eq_true rfl) ?_
  refine V_aload_n d_Ad_init_4 rfl ?_
  refine V_bipush (v := 24) d_Ad_init_5 (by decide) ?_
  refine V_newiN d_Ad_init_7 tw_ai ((⟨rfl, by decide⟩ : (24 : Int32) = nI 24 ∧ _)) ?_
  refine V_pf p_Ad_init_9 rfl (Nat.le_of_ble_eq_true rfl) rfl rfl ?_
  refine V_aload_n d_Ad_init_12 rfl ?_
  refine V_bipush (v := 8) d_Ad_init_13 (by decide) ?_
  refine V_newiN d_Ad_init_15 tw_ai ((⟨rfl, by decide⟩ : (8 : Int32) = nI 8 ∧ _)) ?_
  refine V_pf p_Ad_init_17 rfl (Nat.le_of_ble_eq_true rfl) rfl rfl ?_
  refine V_aload_n d_Ad_init_20 rfl ?_
  refine V_bipush (v := 24) d_Ad_init_21 (by decide) ?_
  refine V_newiN d_Ad_init_23 tw_ai ((⟨rfl, by decide⟩ : (24 : Int32) = nI 24 ∧ _)) ?_
  refine V_pf p_Ad_init_25 rfl (Nat.le_of_ble_eq_true rfl) rfl rfl ?_
  refine V_aload_n d_Ad_init_28 rfl ?_
  refine V_bipush (v := 8) d_Ad_init_29 (by decide) ?_
  refine V_newiN d_Ad_init_31 tw_ai ((⟨rfl, by decide⟩ : (8 : Int32) = nI 8 ∧ _)) ?_
  refine V_pf p_Ad_init_33 rfl (Nat.le_of_ble_eq_true rfl) rfl rfl ?_
  exact V_vret d_Ad_init_36 rfl
theorem do_Le_init (c0 c1 c2 c3 c4 c5 c6 c7 c8 c9 c10 c11 c12 c13 c14 c15 c16 : Ce) : Do l G k_Le_init [.ref 18] [c0, c1, c2, c3, c4, c5, c6, c7, c8, c9, c10, c11, c12, c13, c14, c15, c16, .inr (2, [.null, .null, .null, .int 0])] rv [c0, c1, c2, c3, c4, c5, c6, c7, c8, c9, c10, c11, c12, c13, c14, c15, c16, LeO 0, IA 10 zI, IA 10 zI, IA 10 zI] := by
  refine Do.of (by decide) (Nat.le_of_ble_eq_true rfl) kw_Le_init ?_
  refine V_aload_n d_Le_init_0 rfl ?_
  refine V_ob s_Le_init_1 (Nat.le_of_ble_eq_true rfl) ?_
  refine V_aload_n d_Le_init_4 rfl ?_
  refine V_bipush (v := 10) d_Le_init_5 (by decide) ?_
  refine V_newiN d_Le_init_7 tw_ai ((⟨rfl, by decide⟩ : (10 : Int32) = nI 10 ∧ _)) ?_
  refine V_pf p_Le_init_9 rfl (Nat.le_of_ble_eq_true rfl) rfl rfl ?_
  refine V_aload_n d_Le_init_12 rfl ?_
  refine V_bipush (v := 10) d_Le_init_13 (by decide) ?_
  refine V_newiN d_Le_init_15 tw_ai ((⟨rfl, by decide⟩ : (10 : Int32) = nI 10 ∧ _)) ?_
  refine V_pf p_Le_init_17 rfl (Nat.le_of_ble_eq_true rfl) rfl rfl ?_
  refine V_aload_n d_Le_init_20 rfl ?_
  refine V_bipush (v := 10) d_Le_init_21 (by decide) ?_
  refine V_newiN d_Le_init_23 tw_ai ((⟨rfl, by decide⟩ : (10 : Int32) = nI 10 ∧ _)) ?_
  refine V_pf p_Le_init_25 rfl (Nat.le_of_ble_eq_true rfl) rfl rfl ?_
  exact V_vret d_Le_init_28 rfl
theorem do_Re_init (c0 c1 c2 c3 c4 c5 c6 c7 c8 c9 c10 c11 c12 c13 c14 c15 c16 c17 c18 c19 c20 : Ce) (hw : w ≤ 20) (hht : ht ≤ 20) : Do l G k_Re_init [.ref 22, .int (nI w), .int (nI ht)] [c0, c1, c2, c3, c4, c5, c6, c7, c8, c9, c10, c11, c12, c13, c14, c15, c16, c17, c18, c19, c20, .inr (5, [.int 0, .int 0, .null, .null, .null, .int 0, .null, .null, .int 0, .int 0])] rv [c0, c1, c2, c3, c4, c5, c6, c7, c8, c9, c10, c11, c12, c13, c14, c15, c16, c17, c18, c19, c20, ReO w ht 0 false, IA (w * ht) zI, IA (w * ht) zI, IA (w * 6) zI, ZA ((w + 2) * (ht + 2)) zB, IA (w * ht) zI] := by
  refine Do.of (by decide) (Nat.le_of_ble_eq_true rfl) kw_Re_init ?_
  refine V_aload_n d_Re_init_0 rfl ?_
  refine V_ob s_Re_init_1 (Nat.le_of_ble_eq_true rfl) ?_
  refine V_aload_n d_Re_init_4 rfl ?_
  refine V_iload_n d_Re_init_5 rfl ?_
  refine V_pf p_Re_init_6 rfl (Nat.le_of_ble_eq_true rfl) rfl rfl ?_
  refine V_aload_n d_Re_init_9 rfl ?_
  refine V_iload_n d_Re_init_10 rfl ?_
  refine V_pf p_Re_init_11 rfl (Nat.le_of_ble_eq_true rfl) rfl rfl ?_
  refine V_aload_n d_Re_init_14 rfl ?_
  refine V_iload_n d_Re_init_15 rfl ?_
  refine V_iload_n d_Re_init_16 rfl ?_
  refine V_imul d_Re_init_17 ?_
  refine V_newiN d_Re_init_18 tw_ai (⟨pk_mul w ht, b2 hw hht⟩) ?_
  refine V_pf p_Re_init_20 rfl (Nat.le_of_ble_eq_true rfl) rfl rfl ?_
  refine V_aload_n d_Re_init_23 rfl ?_
  refine V_iload_n d_Re_init_24 rfl ?_
  refine V_iload_n d_Re_init_25 rfl ?_
  refine V_imul d_Re_init_26 ?_
  refine V_newiN d_Re_init_27 tw_ai (⟨pk_mul w ht, b2 hw hht⟩) ?_
  refine V_pf p_Re_init_29 rfl (Nat.le_of_ble_eq_true rfl) rfl rfl ?_
  refine V_aload_n d_Re_init_32 rfl ?_
  refine V_iload_n d_Re_init_33 rfl ?_
  refine V_bipush (v := 6) d_Re_init_34 (by decide) ?_
  refine V_imul d_Re_init_36 ?_
  refine V_newiN d_Re_init_37 tw_ai (⟨by rw [show (6 : Int32) = nI 6 from rfl, pk_mul], show w * 6 ≤ 10000 by omega⟩) ?_
  refine V_pf p_Re_init_39 rfl (Nat.le_of_ble_eq_true rfl) rfl rfl ?_
  refine V_aload_n d_Re_init_42 rfl ?_
  refine V_iload_n d_Re_init_43 rfl ?_
  refine V_iconst (v := 2) d_Re_init_44 (by decide) ?_
  refine V_iadd d_Re_init_45 ?_
  rw [show nI w + 2 = nI (w + 2) from nI_add w 2]
  refine V_pf p_Re_init_46 rfl (Nat.le_of_ble_eq_true rfl) rfl rfl ?_
  refine V_aload_n d_Re_init_49 rfl ?_
  refine V_aload_n d_Re_init_50 rfl ?_
  refine V_gf g_Re_init_51 rfl rfl ?_
  refine V_iload_n d_Re_init_54 rfl ?_
  refine V_iconst (v := 2) d_Re_init_55 (by decide) ?_
  refine V_iadd d_Re_init_56 ?_
  refine V_imul d_Re_init_57 ?_
  refine V_newzN d_Re_init_58 tw_az (⟨by rw [show nI ht + 2 = nI (ht + 2) from nI_add ht 2, pk_mul], b3 hw hht⟩) ?_
  refine V_pf p_Re_init_60 rfl (Nat.le_of_ble_eq_true rfl) rfl rfl ?_
  refine V_aload_n d_Re_init_63 rfl ?_
  refine V_iload_n d_Re_init_64 rfl ?_
  refine V_iload_n d_Re_init_65 rfl ?_
  refine V_imul d_Re_init_66 ?_
  refine V_newiN d_Re_init_67 tw_ai (⟨pk_mul w ht, b2 hw hht⟩) ?_
  refine V_pf p_Re_init_69 rfl (Nat.le_of_ble_eq_true rfl) rfl rfl ?_
  exact V_vret d_Re_init_72 rfl
/-- x as it is made -/
def x0 (w ht sd : Nat) : List Ce := [PmO, PhO w ht, IA (4 * ht * w) zI, SeO w ht false 0 0 0, IA (w * ht) zI, PlO 0 0, ZA 12 zB, ZA 48 zB, IA 96 zI, AgO sd 0 false 0 0, IA 12 zI, IA 12 zI, AdO, IA 24 zI, IA 8 zI, IA 24 zI, IA 8 zI, LeO 0, IA 10 zI, IA 10 zI, IA 10 zI, ReO w ht 0 false, IA (w * ht) zI, IA (w * ht) zI, IA (w * 6) zI, ZA ((w + 2) * (ht + 2)) zB, IA (w * ht) zI]
theorem do_Pm_init (w0 h0 s0 : Int32) (ew : clI w0 6 20 = nI w) (eh : clI h0 6 20 = nI ht) (es : clI s0 0 65536 = nI sd) (hw : w ≤ 20) (hht : ht ≤ 20) : Do l G k_Pm_init [.ref 1, .int w0, .int h0, .int s0] [.inr (7, [.null, .null, .null, .null, .null, .null, .null])] rv (x0 w ht sd) := by
  refine Do.of (by decide) (Nat.le_of_ble_eq_true rfl) kw_Pm_init ?_
  refine V_aload_n d_Pm_init_0 rfl ?_
  refine V_ob s_Pm_init_1 (Nat.le_of_ble_eq_true rfl) ?_
  refine V_iload_n d_Pm_init_4 rfl ?_
  refine V_bipush (v := 6) d_Pm_init_5 (by decide) ?_
  refine V_bipush (v := 20) d_Pm_init_7 (by decide) ?_
  refine V_cS s_Pm_init_9 (do_within w0 6 20) rfl rfl (Nat.le_of_ble_eq_true rfl) ?_
  rw [ew]
  refine V_istore d_Pm_init_12 (by decide) rfl ?_
  refine V_iload_n d_Pm_init_14 rfl ?_
  refine V_bipush (v := 6) d_Pm_init_15 (by decide) ?_
  refine V_bipush (v := 20) d_Pm_init_17 (by decide) ?_
  refine V_cS s_Pm_init_19 (do_within h0 6 20) rfl rfl (Nat.le_of_ble_eq_true rfl) ?_
  rw [eh]
  refine V_istore d_Pm_init_22 (by decide) rfl ?_
  refine V_aload_n d_Pm_init_24 rfl ?_
  refine V_nw n_Pm_init_25 ?_
  refine V_dup d_Pm_init_28 rfl ?_
  refine V_iload d_Pm_init_29 rfl ?_
  refine V_iload d_Pm_init_31 rfl ?_
  refine V_cI s_Pm_init_33 (do_Ph_init _ hw hht) rfl rfl (Nat.le_of_ble_eq_true rfl) ?_
  refine V_pf p_Pm_init_36 rfl (Nat.le_of_ble_eq_true rfl) rfl rfl ?_
  refine V_aload_n d_Pm_init_39 rfl ?_
  refine V_nw n_Pm_init_40 ?_
  refine V_dup d_Pm_init_43 rfl ?_
  refine V_iload d_Pm_init_44 rfl ?_
  refine V_iload d_Pm_init_46 rfl ?_
  refine V_cI s_Pm_init_48 (do_Se_init _ _ _ hw hht) rfl rfl (Nat.le_of_ble_eq_true rfl) ?_
  refine V_pf p_Pm_init_51 rfl (Nat.le_of_ble_eq_true rfl) rfl rfl ?_
  refine V_aload_n d_Pm_init_54 rfl ?_
  refine V_nw n_Pm_init_55 ?_
  refine V_dup d_Pm_init_58 rfl ?_
  refine V_cI s_Pm_init_59 (do_Pl_init _ _ _ _ _) rfl rfl (Nat.le_of_ble_eq_true rfl) ?_
  refine V_pf p_Pm_init_62 rfl (Nat.le_of_ble_eq_true rfl) rfl rfl ?_
  refine V_aload_n d_Pm_init_65 rfl ?_
  refine V_nw n_Pm_init_66 ?_
  refine V_dup d_Pm_init_69 rfl ?_
  refine V_iload_n d_Pm_init_70 rfl ?_
  refine V_iconst (v := 0) d_Pm_init_71 (by decide) ?_
  refine V_ldc d_Pm_init_72 c_Pm_init_72 ?_
  refine V_cS s_Pm_init_74 (do_within s0 0 65536) rfl rfl (Nat.le_of_ble_eq_true rfl) ?_
  rw [es]
  refine V_cI s_Pm_init_77 (do_Ag_init _ _ _ _ _ _ _ _ _) rfl rfl (Nat.le_of_ble_eq_true rfl) ?_
  refine V_pf p_Pm_init_80 rfl (Nat.le_of_ble_eq_true rfl) rfl rfl ?_
  refine V_aload_n d_Pm_init_83 rfl ?_
  refine V_nw n_Pm_init_84 ?_
  refine V_dup d_Pm_init_87 rfl ?_
  refine V_cI s_Pm_init_88 (do_Ad_init _ _ _ _ _ _ _ _ _ _ _ _) rfl rfl (Nat.le_of_ble_eq_true rfl) ?_
  refine V_pf p_Pm_init_91 rfl (Nat.le_of_ble_eq_true rfl) rfl rfl ?_
  refine V_aload_n d_Pm_init_94 rfl ?_
  refine V_nw n_Pm_init_95 ?_
  refine V_dup d_Pm_init_98 rfl ?_
  refine V_cI s_Pm_init_99 (do_Le_init _ _ _ _ _ _ _ _ _ _ _ _ _ _ _ _ _) rfl rfl (Nat.le_of_ble_eq_true rfl) ?_
  refine V_pf p_Pm_init_102 rfl (Nat.le_of_ble_eq_true rfl) rfl rfl ?_
  refine V_aload_n d_Pm_init_105 rfl ?_
  refine V_nw n_Pm_init_106 ?_
  refine V_dup d_Pm_init_109 rfl ?_
  refine V_iload d_Pm_init_110 rfl ?_
  refine V_iload d_Pm_init_112 rfl ?_
  refine V_cI s_Pm_init_114 (do_Re_init _ _ _ _ _ _ _ _ _ _ _ _ _ _ _ _ _ _ _ _ _ hw hht) rfl rfl (Nat.le_of_ble_eq_true rfl) ?_
  refine V_pf p_Pm_init_117 rfl (Nat.le_of_ble_eq_true rfl) rfl rfl ?_
  exact V_vret d_Pm_init_120 rfl
end P29
