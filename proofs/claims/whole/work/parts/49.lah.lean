section P49
abbrev LA (z : Nat → Int64) : Ce := .inl (.long, 1, .inr (.inl z))
abbrev z0 : Nat := (0 : Int32).toNatClampNeg
def bL (b : Bool) : Int64 := if b then 1 else 0
section R
variable {l : Launch} {G : Gb} {K : Kt} {h0 : List Ce} {pc : Nat} {ls : List (Nat × Value)} {st : List Value} {h : List Ce} {r : Rs} {h' : List Ce}
theorem vin0 : vp_in 0 1 := pk_in 0 1 (by omega) rfl (by omega)
theorem V_cVc {j : Kt} {a c0 n ci hpc ct p1 p2 : Nat} {fs As rest : List Value} {X9 : String} {T9 : u_T} {pre post : List (Nat × Nat × Nat × Nat)} (s : SiteV K j pc c0 n) (hD : Do l G j (.ref (a + 1) :: As) h (.inr h.length) (h ++ [.inr (ci, [])])) (hcell : h[a]? = some (.inr (c0, fs))) (hn : As.length = n) (hst : st = As.reverse ++ .ref (a + 1) :: rest) (hrest : (rest.map fun v => v.category).sum ≤ 8) (hc : cls[ci]? = some (X9, T9, 0)) (hhd : K.hd = pre ++ (p1, p2, hpc, ct) :: post) (hcov : p1 ≤ pc ∧ pc < p2 ∧ ct ≠ 0) (hlink : Cond.classLink K.y.cls ct X9 ∈ tw) (hself : Cond.castable X9 X9 ∈ tw) (hpre : ∀ y ∈ pre, y.1 ≤ pc ∧ pc < y.2.1 ∧ y.2.2.2 ≠ 0 ∧ ∃ Y, Cond.classLink K.y.cls y.2.2.2 Y ∈ tw ∧ ∀ (U : State) (H : Heap), Ev G U H → va_Nc X9 Y U) (kk : V l G K h0 hpc ls [.ref (h.length + 1)] (h ++ [.inr (ci, [])]) r h') : V l G K h0 pc ls st h r h' := by
  obtain ⟨ix, q, s1, s2, s3, s4, s5, s6, s7, s8⟩ := s
  exact V_catch s1 s2 (lkV s1 s2.1 s3 s4 s5 s7 hcell s6 (fun sig hs => hn.trans (s8 sig hs)) hst) hrest hD (by simp) hc hhd hcov hlink hself hpre kk
end R
variable {l : Launch} {G : Gb} {h : List Ce} {L : List (Nat × Ce)} {z : Nat → Int64}
theorem la_pixel_ok (c_Pm : h[0]? = some PmO) (p0 : Int32) (p1 : Int32) (p2 : Int32) (p3 : Int32) {v : Int32} (hD : Do l G k_Pm_pixel [.ref 1, .int p0, .int p1, .int p2, .int p3] h (ri v) (hS h L)) (ho : (hS h L)[45]? = some (LA z)) : Do l G k_La_pixel [.ref 1, .int p0, .int p1, .int p2, .int p3, .ref 46] h (ri 0) (hS h (put L 45 (LA (vp_updL z z0 (v.toInt64))))) := by
  refine Do.of (by decide) (Nat.le_of_ble_eq_true rfl) kw_La_pixel ?_
  rw [← hS_set]
  refine V_aload d_La_pixel_0 rfl ?_
  refine V_iconst (v := 0) d_La_pixel_2 (by decide) ?_
  refine V_aload_n d_La_pixel_3 rfl ?_
  refine V_iload_n d_La_pixel_4 rfl ?_
  refine V_iload_n d_La_pixel_5 rfl ?_
  refine V_iload_n d_La_pixel_6 rfl ?_
  refine V_iload d_La_pixel_7 rfl ?_
  refine V_cV s_La_pixel_9 hD c_Pm rfl rfl (Nat.le_of_ble_eq_true rfl) ?_
  refine V_i2l d_La_pixel_12 ?_
  refine V_last d_La_pixel_13 ho vin0 ?_
  refine V_goto (tgt := 25) d_La_pixel_14 (by decide) ?_
  refine V_iconst (v := 0) d_La_pixel_25 (by decide) ?_
  exact V_iret d_La_pixel_26 rfl rfl
theorem la_pixel_1 (c_Pm : h[0]? = some PmO) (p0 : Int32) (p1 : Int32) (p2 : Int32) (p3 : Int32) (hD : Do l G k_Pm_pixel [.ref 1, .int p0, .int p1, .int p2, .int p3] h (.inr h.length) (h ++ [exI])) : Do l G k_La_pixel [.ref 1, .int p0, .int p1, .int p2, .int p3, .ref 46] h (ri 1) (h ++ [exI]) := by
  refine Do.of (by decide) (Nat.le_of_ble_eq_true rfl) kw_La_pixel ?_
  refine V_aload d_La_pixel_0 rfl ?_
  refine V_iconst (v := 0) d_La_pixel_2 (by decide) ?_
  refine V_aload_n d_La_pixel_3 rfl ?_
  refine V_iload_n d_La_pixel_4 rfl ?_
  refine V_iload_n d_La_pixel_5 rfl ?_
  refine V_iload_n d_La_pixel_6 rfl ?_
  refine V_iload d_La_pixel_7 rfl ?_
  refine V_cVc (hpc := 17) (ct := 13) (p1 := 0) (p2 := 14) (pre := []) (post := [(0, 14, 21, 15)]) s_La_pixel_9 hD c_Pm rfl rfl (Nat.le_of_ble_eq_true rfl) rfl rfl (by decide) (tx2 33 rfl rfl) (tx2 55 rfl rfl) (fun y hy => by cases hy) ?_
  refine V_astore d_La_pixel_17 (by decide) rfl ?_
  refine V_iconst (v := 1) d_La_pixel_19 (by decide) ?_
  exact V_iret d_La_pixel_20 rfl rfl
theorem la_pixel_2 (c_Pm : h[0]? = some PmO) (p0 : Int32) (p1 : Int32) (p2 : Int32) (p3 : Int32) (hD : Do l G k_Pm_pixel [.ref 1, .int p0, .int p1, .int p2, .int p3] h (.inr h.length) (h ++ [exA])) : Do l G k_La_pixel [.ref 1, .int p0, .int p1, .int p2, .int p3, .ref 46] h (ri 2) (h ++ [exA]) := by
  refine Do.of (by decide) (Nat.le_of_ble_eq_true rfl) kw_La_pixel ?_
  refine V_aload d_La_pixel_0 rfl ?_
  refine V_iconst (v := 0) d_La_pixel_2 (by decide) ?_
  refine V_aload_n d_La_pixel_3 rfl ?_
  refine V_iload_n d_La_pixel_4 rfl ?_
  refine V_iload_n d_La_pixel_5 rfl ?_
  refine V_iload_n d_La_pixel_6 rfl ?_
  refine V_iload d_La_pixel_7 rfl ?_
  refine V_cVc (hpc := 21) (ct := 15) (p1 := 0) (p2 := 14) (pre := [(0, 14, 17, 13)]) (post := []) s_La_pixel_9 hD c_Pm rfl rfl (Nat.le_of_ble_eq_true rfl) rfl rfl (by decide) (tx2 34 rfl rfl) (tx2 126 rfl rfl) (List.forall_mem_cons.mpr ⟨⟨by decide, by decide, by decide, _, tx2 33 rfl rfl, fun U H e => e.2.1⟩, fun y hy => by cases hy⟩) ?_
  refine V_astore d_La_pixel_21 (by decide) rfl ?_
  refine V_iconst (v := 2) d_La_pixel_23 (by decide) ?_
  exact V_iret d_La_pixel_24 rfl rfl
theorem la_match_ok (c_Pm : h[0]? = some PmO) (p0 : Int32) (p1 : Int32) (p2 : Int32) (p3 : Int32) {v : Int32} (hD : Do l G k_Pm_match [.ref 1, .int p0, .int p1, .int p2, .int p3] h (ri v) (hS h L)) (ho : (hS h L)[45]? = some (LA z)) : Do l G k_La_match [.ref 1, .int p0, .int p1, .int p2, .int p3, .ref 46] h (ri 0) (hS h (put L 45 (LA (vp_updL z z0 (v.toInt64))))) := by
  refine Do.of (by decide) (Nat.le_of_ble_eq_true rfl) kw_La_match ?_
  rw [← hS_set]
  refine V_aload d_La_match_0 rfl ?_
  refine V_iconst (v := 0) d_La_match_2 (by decide) ?_
  refine V_aload_n d_La_match_3 rfl ?_
  refine V_iload_n d_La_match_4 rfl ?_
  refine V_iload_n d_La_match_5 rfl ?_
  refine V_iload_n d_La_match_6 rfl ?_
  refine V_iload d_La_match_7 rfl ?_
  refine V_cV s_La_match_9 hD c_Pm rfl rfl (Nat.le_of_ble_eq_true rfl) ?_
  refine V_i2l d_La_match_12 ?_
  refine V_last d_La_match_13 ho vin0 ?_
  refine V_goto (tgt := 21) d_La_match_14 (by decide) ?_
  refine V_iconst (v := 0) d_La_match_21 (by decide) ?_
  exact V_iret d_La_match_22 rfl rfl
theorem la_match_1 (c_Pm : h[0]? = some PmO) (p0 : Int32) (p1 : Int32) (p2 : Int32) (p3 : Int32) (hD : Do l G k_Pm_match [.ref 1, .int p0, .int p1, .int p2, .int p3] h (.inr h.length) (h ++ [exI])) : Do l G k_La_match [.ref 1, .int p0, .int p1, .int p2, .int p3, .ref 46] h (ri 1) (h ++ [exI]) := by
  refine Do.of (by decide) (Nat.le_of_ble_eq_true rfl) kw_La_match ?_
  refine V_aload d_La_match_0 rfl ?_
  refine V_iconst (v := 0) d_La_match_2 (by decide) ?_
  refine V_aload_n d_La_match_3 rfl ?_
  refine V_iload_n d_La_match_4 rfl ?_
  refine V_iload_n d_La_match_5 rfl ?_
  refine V_iload_n d_La_match_6 rfl ?_
  refine V_iload d_La_match_7 rfl ?_
  refine V_cVc (hpc := 17) (ct := 13) (p1 := 0) (p2 := 14) (pre := []) (post := []) s_La_match_9 hD c_Pm rfl rfl (Nat.le_of_ble_eq_true rfl) rfl rfl (by decide) (tx2 33 rfl rfl) (tx2 55 rfl rfl) (fun y hy => by cases hy) ?_
  refine V_astore d_La_match_17 (by decide) rfl ?_
  refine V_iconst (v := 1) d_La_match_19 (by decide) ?_
  exact V_iret d_La_match_20 rfl rfl
theorem la_found_ok (c_Pm : h[0]? = some PmO) (p0 : Int32) {v : Int32} (hD : Do l G k_Pm_found [.ref 1, .int p0] h (ri v) (hS h L)) (ho : (hS h L)[45]? = some (LA z)) : Do l G k_La_found [.ref 1, .int p0, .ref 46] h (ri 0) (hS h (put L 45 (LA (vp_updL z z0 (v.toInt64))))) := by
  refine Do.of (by decide) (Nat.le_of_ble_eq_true rfl) kw_La_found ?_
  rw [← hS_set]
  refine V_aload_n d_La_found_0 rfl ?_
  refine V_iconst (v := 0) d_La_found_1 (by decide) ?_
  refine V_aload_n d_La_found_2 rfl ?_
  refine V_iload_n d_La_found_3 rfl ?_
  refine V_cV s_La_found_4 hD c_Pm rfl rfl (Nat.le_of_ble_eq_true rfl) ?_
  refine V_i2l d_La_found_7 ?_
  refine V_last d_La_found_8 ho vin0 ?_
  refine V_goto (tgt := 18) d_La_found_9 (by decide) ?_
  refine V_iconst (v := 0) d_La_found_18 (by decide) ?_
  exact V_iret d_La_found_19 rfl rfl
theorem la_found_1 (c_Pm : h[0]? = some PmO) (p0 : Int32) (hD : Do l G k_Pm_found [.ref 1, .int p0] h (.inr h.length) (h ++ [exI])) : Do l G k_La_found [.ref 1, .int p0, .ref 46] h (ri 1) (h ++ [exI]) := by
  refine Do.of (by decide) (Nat.le_of_ble_eq_true rfl) kw_La_found ?_
  refine V_aload_n d_La_found_0 rfl ?_
  refine V_iconst (v := 0) d_La_found_1 (by decide) ?_
  refine V_aload_n d_La_found_2 rfl ?_
  refine V_iload_n d_La_found_3 rfl ?_
  refine V_cVc (hpc := 12) (ct := 13) (p1 := 0) (p2 := 9) (pre := []) (post := [(0, 9, 15, 24)]) s_La_found_4 hD c_Pm rfl rfl (Nat.le_of_ble_eq_true rfl) rfl rfl (by decide) (tx2 33 rfl rfl) (tx2 55 rfl rfl) (fun y hy => by cases hy) ?_
  refine V_astore_n d_La_found_12 (by decide) rfl ?_
  refine V_iconst (v := 1) d_La_found_13 (by decide) ?_
  exact V_iret d_La_found_14 rfl rfl
theorem la_found_2 (c_Pm : h[0]? = some PmO) (p0 : Int32) (hD : Do l G k_Pm_found [.ref 1, .int p0] h (.inr h.length) (h ++ [exS])) : Do l G k_La_found [.ref 1, .int p0, .ref 46] h (ri 2) (h ++ [exS]) := by
  refine Do.of (by decide) (Nat.le_of_ble_eq_true rfl) kw_La_found ?_
  refine V_aload_n d_La_found_0 rfl ?_
  refine V_iconst (v := 0) d_La_found_1 (by decide) ?_
  refine V_aload_n d_La_found_2 rfl ?_
  refine V_iload_n d_La_found_3 rfl ?_
  refine V_cVc (hpc := 15) (ct := 24) (p1 := 0) (p2 := 9) (pre := [(0, 9, 12, 13)]) (post := []) s_La_found_4 hD c_Pm rfl rfl (Nat.le_of_ble_eq_true rfl) rfl rfl (by decide) (tx2 184 rfl rfl) (tx2 198 rfl rfl) (List.forall_mem_cons.mpr ⟨⟨by decide, by decide, by decide, _, tx2 33 rfl rfl, fun U H e => e.2.2.1⟩, fun y hy => by cases hy⟩) ?_
  refine V_astore_n d_La_found_15 (by decide) rfl ?_
  refine V_iconst (v := 2) d_La_found_16 (by decide) ?_
  exact V_iret d_La_found_17 rfl rfl
theorem la_place_ok (c_Pm : h[0]? = some PmO) {v : Int32} (hD : Do l G k_Pm_place [.ref 1] h (ri v) (hS h L)) (ho : (hS h L)[45]? = some (LA z)) : Do l G k_La_place [.ref 1, .ref 46] h (ri 0) (hS h (put L 45 (LA (vp_updL z z0 (v.toInt64))))) := by
  refine Do.of (by decide) (Nat.le_of_ble_eq_true rfl) kw_La_place ?_
  rw [← hS_set]
  refine V_aload_n d_La_place_0 rfl ?_
  refine V_iconst (v := 0) d_La_place_1 (by decide) ?_
  refine V_aload_n d_La_place_2 rfl ?_
  refine V_cV s_La_place_3 hD c_Pm rfl rfl (Nat.le_of_ble_eq_true rfl) ?_
  refine V_i2l d_La_place_6 ?_
  refine V_last d_La_place_7 ho vin0 ?_
  refine V_goto (tgt := 14) d_La_place_8 (by decide) ?_
  refine V_iconst (v := 0) d_La_place_14 (by decide) ?_
  exact V_iret d_La_place_15 rfl rfl
theorem la_place_1 (c_Pm : h[0]? = some PmO) (hD : Do l G k_Pm_place [.ref 1] h (.inr h.length) (h ++ [exS])) : Do l G k_La_place [.ref 1, .ref 46] h (ri 1) (h ++ [exS]) := by
  refine Do.of (by decide) (Nat.le_of_ble_eq_true rfl) kw_La_place ?_
  refine V_aload_n d_La_place_0 rfl ?_
  refine V_iconst (v := 0) d_La_place_1 (by decide) ?_
  refine V_aload_n d_La_place_2 rfl ?_
  refine V_cVc (hpc := 11) (ct := 24) (p1 := 0) (p2 := 8) (pre := []) (post := []) s_La_place_3 hD c_Pm rfl rfl (Nat.le_of_ble_eq_true rfl) rfl rfl (by decide) (tx2 184 rfl rfl) (tx2 198 rfl rfl) (fun y hy => by cases hy) ?_
  refine V_astore_n d_La_place_11 (by decide) rfl ?_
  refine V_iconst (v := 1) d_La_place_12 (by decide) ?_
  exact V_iret d_La_place_13 rfl rfl
theorem la_seen_ok (c_Pm : h[0]? = some PmO) (p0 : Int32) (p1 : Int32) (p2 : Int32) (p3 : Int32) {v : Bool} (hD : Do l G k_Pm_seen [.ref 1, .int p0, .int p1, .int p2, .int p3] h (rz v) (hS h L)) (ho : (hS h L)[45]? = some (LA z)) : Do l G k_La_seen [.ref 1, .int p0, .int p1, .int p2, .int p3, .ref 46] h (ri 0) (hS h (put L 45 (LA (vp_updL z z0 (bL v))))) := by
  refine Do.of (by decide) (Nat.le_of_ble_eq_true rfl) kw_La_seen ?_
  rw [← hS_set]
  refine V_aload d_La_seen_0 rfl ?_
  refine V_iconst (v := 0) d_La_seen_2 (by decide) ?_
  refine V_aload_n d_La_seen_3 rfl ?_
  refine V_iload_n d_La_seen_4 rfl ?_
  refine V_iload_n d_La_seen_5 rfl ?_
  refine V_iload_n d_La_seen_6 rfl ?_
  refine V_iload d_La_seen_7 rfl ?_
  refine V_cV s_La_seen_9 hD c_Pm rfl rfl (Nat.le_of_ble_eq_true rfl) ?_
  cases v with
  | false =>
    refine V_if_eq (tgt := 19) d_La_seen_12 (by decide) (fun _ => ?_) (fun c9 => absurd ((rfl : bI false = 0)) c9)
    refine V_lconst (v := 0) d_La_seen_19 (by decide) ?_
    refine V_last d_La_seen_20 ho vin0 ?_
    refine V_goto (tgt := 32) d_La_seen_21 (by decide) ?_
    refine V_iconst (v := 0) d_La_seen_32 (by decide) ?_
    exact V_iret d_La_seen_33 rfl rfl
  | true =>
    refine V_if_eq (tgt := 19) d_La_seen_12 (by decide) (fun c9 => absurd c9 ((by decide : ¬ bI true = 0))) (fun _ => ?_)
    refine V_lconst (v := 1) d_La_seen_15 (by decide) ?_
    refine V_goto (tgt := 20) d_La_seen_16 (by decide) ?_
    refine V_last d_La_seen_20 ho vin0 ?_
    refine V_goto (tgt := 32) d_La_seen_21 (by decide) ?_
    refine V_iconst (v := 0) d_La_seen_32 (by decide) ?_
    exact V_iret d_La_seen_33 rfl rfl
theorem la_seen_1 (c_Pm : h[0]? = some PmO) (p0 : Int32) (p1 : Int32) (p2 : Int32) (p3 : Int32) (hD : Do l G k_Pm_seen [.ref 1, .int p0, .int p1, .int p2, .int p3] h (.inr h.length) (h ++ [exI])) : Do l G k_La_seen [.ref 1, .int p0, .int p1, .int p2, .int p3, .ref 46] h (ri 1) (h ++ [exI]) := by
  refine Do.of (by decide) (Nat.le_of_ble_eq_true rfl) kw_La_seen ?_
  refine V_aload d_La_seen_0 rfl ?_
  refine V_iconst (v := 0) d_La_seen_2 (by decide) ?_
  refine V_aload_n d_La_seen_3 rfl ?_
  refine V_iload_n d_La_seen_4 rfl ?_
  refine V_iload_n d_La_seen_5 rfl ?_
  refine V_iload_n d_La_seen_6 rfl ?_
  refine V_iload d_La_seen_7 rfl ?_
  refine V_cVc (hpc := 24) (ct := 13) (p1 := 0) (p2 := 21) (pre := []) (post := [(0, 21, 28, 15)]) s_La_seen_9 hD c_Pm rfl rfl (Nat.le_of_ble_eq_true rfl) rfl rfl (by decide) (tx2 33 rfl rfl) (tx2 55 rfl rfl) (fun y hy => by cases hy) ?_
  refine V_astore d_La_seen_24 (by decide) rfl ?_
  refine V_iconst (v := 1) d_La_seen_26 (by decide) ?_
  exact V_iret d_La_seen_27 rfl rfl
theorem la_seen_2 (c_Pm : h[0]? = some PmO) (p0 : Int32) (p1 : Int32) (p2 : Int32) (p3 : Int32) (hD : Do l G k_Pm_seen [.ref 1, .int p0, .int p1, .int p2, .int p3] h (.inr h.length) (h ++ [exA])) : Do l G k_La_seen [.ref 1, .int p0, .int p1, .int p2, .int p3, .ref 46] h (ri 2) (h ++ [exA]) := by
  refine Do.of (by decide) (Nat.le_of_ble_eq_true rfl) kw_La_seen ?_
  refine V_aload d_La_seen_0 rfl ?_
  refine V_iconst (v := 0) d_La_seen_2 (by decide) ?_
  refine V_aload_n d_La_seen_3 rfl ?_
  refine V_iload_n d_La_seen_4 rfl ?_
  refine V_iload_n d_La_seen_5 rfl ?_
  refine V_iload_n d_La_seen_6 rfl ?_
  refine V_iload d_La_seen_7 rfl ?_
  refine V_cVc (hpc := 28) (ct := 15) (p1 := 0) (p2 := 21) (pre := [(0, 21, 24, 13)]) (post := []) s_La_seen_9 hD c_Pm rfl rfl (Nat.le_of_ble_eq_true rfl) rfl rfl (by decide) (tx2 34 rfl rfl) (tx2 126 rfl rfl) (List.forall_mem_cons.mpr ⟨⟨by decide, by decide, by decide, _, tx2 33 rfl rfl, fun U H e => e.2.1⟩, fun y hy => by cases hy⟩) ?_
  refine V_astore d_La_seen_28 (by decide) rfl ?_
  refine V_iconst (v := 2) d_La_seen_30 (by decide) ?_
  exact V_iret d_La_seen_31 rfl rfl
theorem la_relative_ok (c_Pm : h[0]? = some PmO) (p0 : Int32) (p1 : Int32) (p2 : Int32) (p3 : Int32) {v : Int32} (hD : Do l G k_Pm_relative [.ref 1, .int p0, .int p1, .int p2, .int p3] h (ri v) (hS h L)) (ho : (hS h L)[45]? = some (LA z)) : Do l G k_La_relative [.ref 1, .int p0, .int p1, .int p2, .int p3, .ref 46] h (ri 0) (hS h (put L 45 (LA (vp_updL z z0 (v.toInt64))))) := by
  refine Do.of (by decide) (Nat.le_of_ble_eq_true rfl) kw_La_relative ?_
  rw [← hS_set]
  refine V_aload d_La_relative_0 rfl ?_
  refine V_iconst (v := 0) d_La_relative_2 (by decide) ?_
  refine V_aload_n d_La_relative_3 rfl ?_
  refine V_iload_n d_La_relative_4 rfl ?_
  refine V_iload_n d_La_relative_5 rfl ?_
  refine V_iload_n d_La_relative_6 rfl ?_
  refine V_iload d_La_relative_7 rfl ?_
  refine V_cV s_La_relative_9 hD c_Pm rfl rfl (Nat.le_of_ble_eq_true rfl) ?_
  refine V_i2l d_La_relative_12 ?_
  refine V_last d_La_relative_13 ho vin0 ?_
  refine V_goto (tgt := 25) d_La_relative_14 (by decide) ?_
  refine V_iconst (v := 0) d_La_relative_25 (by decide) ?_
  exact V_iret d_La_relative_26 rfl rfl
theorem la_relative_1 (c_Pm : h[0]? = some PmO) (p0 : Int32) (p1 : Int32) (p2 : Int32) (p3 : Int32) (hD : Do l G k_Pm_relative [.ref 1, .int p0, .int p1, .int p2, .int p3] h (.inr h.length) (h ++ [exI])) : Do l G k_La_relative [.ref 1, .int p0, .int p1, .int p2, .int p3, .ref 46] h (ri 1) (h ++ [exI]) := by
  refine Do.of (by decide) (Nat.le_of_ble_eq_true rfl) kw_La_relative ?_
  refine V_aload d_La_relative_0 rfl ?_
  refine V_iconst (v := 0) d_La_relative_2 (by decide) ?_
  refine V_aload_n d_La_relative_3 rfl ?_
  refine V_iload_n d_La_relative_4 rfl ?_
  refine V_iload_n d_La_relative_5 rfl ?_
  refine V_iload_n d_La_relative_6 rfl ?_
  refine V_iload d_La_relative_7 rfl ?_
  refine V_cVc (hpc := 17) (ct := 13) (p1 := 0) (p2 := 14) (pre := []) (post := [(0, 14, 21, 15)]) s_La_relative_9 hD c_Pm rfl rfl (Nat.le_of_ble_eq_true rfl) rfl rfl (by decide) (tx2 33 rfl rfl) (tx2 55 rfl rfl) (fun y hy => by cases hy) ?_
  refine V_astore d_La_relative_17 (by decide) rfl ?_
  refine V_iconst (v := 1) d_La_relative_19 (by decide) ?_
  exact V_iret d_La_relative_20 rfl rfl
theorem la_relative_2 (c_Pm : h[0]? = some PmO) (p0 : Int32) (p1 : Int32) (p2 : Int32) (p3 : Int32) (hD : Do l G k_Pm_relative [.ref 1, .int p0, .int p1, .int p2, .int p3] h (.inr h.length) (h ++ [exA])) : Do l G k_La_relative [.ref 1, .int p0, .int p1, .int p2, .int p3, .ref 46] h (ri 2) (h ++ [exA]) := by
  refine Do.of (by decide) (Nat.le_of_ble_eq_true rfl) kw_La_relative ?_
  refine V_aload d_La_relative_0 rfl ?_
  refine V_iconst (v := 0) d_La_relative_2 (by decide) ?_
  refine V_aload_n d_La_relative_3 rfl ?_
  refine V_iload_n d_La_relative_4 rfl ?_
  refine V_iload_n d_La_relative_5 rfl ?_
  refine V_iload_n d_La_relative_6 rfl ?_
  refine V_iload d_La_relative_7 rfl ?_
  refine V_cVc (hpc := 21) (ct := 15) (p1 := 0) (p2 := 14) (pre := [(0, 14, 17, 13)]) (post := []) s_La_relative_9 hD c_Pm rfl rfl (Nat.le_of_ble_eq_true rfl) rfl rfl (by decide) (tx2 34 rfl rfl) (tx2 126 rfl rfl) (List.forall_mem_cons.mpr ⟨⟨by decide, by decide, by decide, _, tx2 33 rfl rfl, fun U H e => e.2.1⟩, fun y hy => by cases hy⟩) ?_
  refine V_astore d_La_relative_21 (by decide) rfl ?_
  refine V_iconst (v := 2) d_La_relative_23 (by decide) ?_
  exact V_iret d_La_relative_24 rfl rfl
theorem la_shift_ok (c_Pm : h[0]? = some PmO) (p0 : Int32) {v : Int32} (hD : Do l G k_Pm_shift [.ref 1, .int p0] h (ri v) (hS h L)) (ho : (hS h L)[45]? = some (LA z)) : Do l G k_La_shift [.ref 1, .int p0, .ref 46] h (ri 0) (hS h (put L 45 (LA (vp_updL z z0 (v.toInt64))))) := by
  refine Do.of (by decide) (Nat.le_of_ble_eq_true rfl) kw_La_shift ?_
  rw [← hS_set]
  refine V_aload_n d_La_shift_0 rfl ?_
  refine V_iconst (v := 0) d_La_shift_1 (by decide) ?_
  refine V_aload_n d_La_shift_2 rfl ?_
  refine V_iload_n d_La_shift_3 rfl ?_
  refine V_cV s_La_shift_4 hD c_Pm rfl rfl (Nat.le_of_ble_eq_true rfl) ?_
  refine V_i2l d_La_shift_7 ?_
  refine V_last d_La_shift_8 ho vin0 ?_
  refine V_goto (tgt := 18) d_La_shift_9 (by decide) ?_
  refine V_iconst (v := 0) d_La_shift_18 (by decide) ?_
  exact V_iret d_La_shift_19 rfl rfl
theorem la_shift_1 (c_Pm : h[0]? = some PmO) (p0 : Int32) (hD : Do l G k_Pm_shift [.ref 1, .int p0] h (.inr h.length) (h ++ [exI])) : Do l G k_La_shift [.ref 1, .int p0, .ref 46] h (ri 1) (h ++ [exI]) := by
  refine Do.of (by decide) (Nat.le_of_ble_eq_true rfl) kw_La_shift ?_
  refine V_aload_n d_La_shift_0 rfl ?_
  refine V_iconst (v := 0) d_La_shift_1 (by decide) ?_
  refine V_aload_n d_La_shift_2 rfl ?_
  refine V_iload_n d_La_shift_3 rfl ?_
  refine V_cVc (hpc := 12) (ct := 13) (p1 := 0) (p2 := 9) (pre := []) (post := [(0, 9, 15, 24)]) s_La_shift_4 hD c_Pm rfl rfl (Nat.le_of_ble_eq_true rfl) rfl rfl (by decide) (tx2 33 rfl rfl) (tx2 55 rfl rfl) (fun y hy => by cases hy) ?_
  refine V_astore_n d_La_shift_12 (by decide) rfl ?_
  refine V_iconst (v := 1) d_La_shift_13 (by decide) ?_
  exact V_iret d_La_shift_14 rfl rfl
theorem la_shift_2 (c_Pm : h[0]? = some PmO) (p0 : Int32) (hD : Do l G k_Pm_shift [.ref 1, .int p0] h (.inr h.length) (h ++ [exS])) : Do l G k_La_shift [.ref 1, .int p0, .ref 46] h (ri 2) (h ++ [exS]) := by
  refine Do.of (by decide) (Nat.le_of_ble_eq_true rfl) kw_La_shift ?_
  refine V_aload_n d_La_shift_0 rfl ?_
  refine V_iconst (v := 0) d_La_shift_1 (by decide) ?_
  refine V_aload_n d_La_shift_2 rfl ?_
  refine V_iload_n d_La_shift_3 rfl ?_
  refine V_cVc (hpc := 15) (ct := 24) (p1 := 0) (p2 := 9) (pre := [(0, 9, 12, 13)]) (post := []) s_La_shift_4 hD c_Pm rfl rfl (Nat.le_of_ble_eq_true rfl) rfl rfl (by decide) (tx2 184 rfl rfl) (tx2 198 rfl rfl) (List.forall_mem_cons.mpr ⟨⟨by decide, by decide, by decide, _, tx2 33 rfl rfl, fun U H e => e.2.2.1⟩, fun y hy => by cases hy⟩) ?_
  refine V_astore_n d_La_shift_15 (by decide) rfl ?_
  refine V_iconst (v := 2) d_La_shift_16 (by decide) ?_
  exact V_iret d_La_shift_17 rfl rfl
theorem la_spare_ok (c_Pm : h[0]? = some PmO) (p0 : Int32) (p1 : Bool) {v : Bool} (hD : Do l G k_Pm_spare [.ref 1, .int p0, .int (bI p1)] h (rz v) (hS h L)) (ho : (hS h L)[45]? = some (LA z)) : Do l G k_La_spare [.ref 1, .int p0, .int (bI p1), .ref 46] h (ri 0) (hS h (put L 45 (LA (vp_updL z z0 (bL v))))) := by
  refine Do.of (by decide) (Nat.le_of_ble_eq_true rfl) kw_La_spare ?_
  rw [← hS_set]
  refine V_aload_n d_La_spare_0 rfl ?_
  refine V_iconst (v := 0) d_La_spare_1 (by decide) ?_
  refine V_aload_n d_La_spare_2 rfl ?_
  refine V_iload_n d_La_spare_3 rfl ?_
  refine V_iload_n d_La_spare_4 rfl ?_
  refine V_cV s_La_spare_5 hD c_Pm rfl rfl (Nat.le_of_ble_eq_true rfl) ?_
  cases v with
  | false =>
    refine V_if_eq (tgt := 15) d_La_spare_8 (by decide) (fun _ => ?_) (fun c9 => absurd ((rfl : bI false = 0)) c9)
    refine V_lconst (v := 0) d_La_spare_15 (by decide) ?_
    refine V_last d_La_spare_16 ho vin0 ?_
    refine V_goto (tgt := 24) d_La_spare_17 (by decide) ?_
    refine V_iconst (v := 0) d_La_spare_24 (by decide) ?_
    exact V_iret d_La_spare_25 rfl rfl
  | true =>
    refine V_if_eq (tgt := 15) d_La_spare_8 (by decide) (fun c9 => absurd c9 ((by decide : ¬ bI true = 0))) (fun _ => ?_)
    refine V_lconst (v := 1) d_La_spare_11 (by decide) ?_
    refine V_goto (tgt := 16) d_La_spare_12 (by decide) ?_
    refine V_last d_La_spare_16 ho vin0 ?_
    refine V_goto (tgt := 24) d_La_spare_17 (by decide) ?_
    refine V_iconst (v := 0) d_La_spare_24 (by decide) ?_
    exact V_iret d_La_spare_25 rfl rfl
theorem la_spare_1 (c_Pm : h[0]? = some PmO) (p0 : Int32) (p1 : Bool) (hD : Do l G k_Pm_spare [.ref 1, .int p0, .int (bI p1)] h (.inr h.length) (h ++ [exI])) : Do l G k_La_spare [.ref 1, .int p0, .int (bI p1), .ref 46] h (ri 1) (h ++ [exI]) := by
  refine Do.of (by decide) (Nat.le_of_ble_eq_true rfl) kw_La_spare ?_
  refine V_aload_n d_La_spare_0 rfl ?_
  refine V_iconst (v := 0) d_La_spare_1 (by decide) ?_
  refine V_aload_n d_La_spare_2 rfl ?_
  refine V_iload_n d_La_spare_3 rfl ?_
  refine V_iload_n d_La_spare_4 rfl ?_
  refine V_cVc (hpc := 20) (ct := 13) (p1 := 0) (p2 := 17) (pre := []) (post := []) s_La_spare_5 hD c_Pm rfl rfl (Nat.le_of_ble_eq_true rfl) rfl rfl (by decide) (tx2 33 rfl rfl) (tx2 55 rfl rfl) (fun y hy => by cases hy) ?_
  refine V_astore d_La_spare_20 (by decide) rfl ?_
  refine V_iconst (v := 1) d_La_spare_22 (by decide) ?_
  exact V_iret d_La_spare_23 rfl rfl
theorem la_run_ok (c_Pm : h[0]? = some PmO) (p0 : Int32) {v : Int32} (hD : Do l G k_Pm_run [.ref 1, .int p0] h (ri v) (hS h L)) (ho : (hS h L)[45]? = some (LA z)) : Do l G k_La_run [.ref 1, .int p0, .ref 46] h (ri 0) (hS h (put L 45 (LA (vp_updL z z0 (v.toInt64))))) := by
  refine Do.of (by decide) (Nat.le_of_ble_eq_true rfl) kw_La_run ?_
  rw [← hS_set]
  refine V_aload_n d_La_run_0 rfl ?_
  refine V_iconst (v := 0) d_La_run_1 (by decide) ?_
  refine V_aload_n d_La_run_2 rfl ?_
  refine V_iload_n d_La_run_3 rfl ?_
  refine V_cV s_La_run_4 hD c_Pm rfl rfl (Nat.le_of_ble_eq_true rfl) ?_
  refine V_i2l d_La_run_7 ?_
  refine V_last d_La_run_8 ho vin0 ?_
  refine V_goto (tgt := 15) d_La_run_9 (by decide) ?_
  refine V_iconst (v := 0) d_La_run_15 (by decide) ?_
  exact V_iret d_La_run_16 rfl rfl
theorem la_run_1 (c_Pm : h[0]? = some PmO) (p0 : Int32) (hD : Do l G k_Pm_run [.ref 1, .int p0] h (.inr h.length) (h ++ [exA])) : Do l G k_La_run [.ref 1, .int p0, .ref 46] h (ri 1) (h ++ [exA]) := by
  refine Do.of (by decide) (Nat.le_of_ble_eq_true rfl) kw_La_run ?_
  refine V_aload_n d_La_run_0 rfl ?_
  refine V_iconst (v := 0) d_La_run_1 (by decide) ?_
  refine V_aload_n d_La_run_2 rfl ?_
  refine V_iload_n d_La_run_3 rfl ?_
  refine V_cVc (hpc := 12) (ct := 15) (p1 := 0) (p2 := 9) (pre := []) (post := []) s_La_run_4 hD c_Pm rfl rfl (Nat.le_of_ble_eq_true rfl) rfl rfl (by decide) (tx2 34 rfl rfl) (tx2 126 rfl rfl) (fun y hy => by cases hy) ?_
  refine V_astore_n d_La_run_12 (by decide) rfl ?_
  refine V_iconst (v := 1) d_La_run_13 (by decide) ?_
  exact V_iret d_La_run_14 rfl rfl
theorem la_at_ok (c_Pm : h[0]? = some PmO) (p0 : Int32) (p1 : Int32) {v : Int32} (hD : Do l G k_Pm_at [.ref 1, .int p0, .int p1] h (ri v) (hS h L)) (ho : (hS h L)[45]? = some (LA z)) : Do l G k_La_at [.ref 1, .int p0, .int p1, .ref 46] h (ri 0) (hS h (put L 45 (LA (vp_updL z z0 (v.toInt64))))) := by
  refine Do.of (by decide) (Nat.le_of_ble_eq_true rfl) kw_La_at ?_
  rw [← hS_set]
  refine V_aload_n d_La_at_0 rfl ?_
  refine V_iconst (v := 0) d_La_at_1 (by decide) ?_
  refine V_aload_n d_La_at_2 rfl ?_
  refine V_iload_n d_La_at_3 rfl ?_
  refine V_iload_n d_La_at_4 rfl ?_
  refine V_cV s_La_at_5 hD c_Pm rfl rfl (Nat.le_of_ble_eq_true rfl) ?_
  refine V_i2l d_La_at_8 ?_
  refine V_last d_La_at_9 ho vin0 ?_
  refine V_goto (tgt := 17) d_La_at_10 (by decide) ?_
  refine V_iconst (v := 0) d_La_at_17 (by decide) ?_
  exact V_iret d_La_at_18 rfl rfl
theorem la_at_1 (c_Pm : h[0]? = some PmO) (p0 : Int32) (p1 : Int32) (hD : Do l G k_Pm_at [.ref 1, .int p0, .int p1] h (.inr h.length) (h ++ [exI])) : Do l G k_La_at [.ref 1, .int p0, .int p1, .ref 46] h (ri 1) (h ++ [exI]) := by
  refine Do.of (by decide) (Nat.le_of_ble_eq_true rfl) kw_La_at ?_
  refine V_aload_n d_La_at_0 rfl ?_
  refine V_iconst (v := 0) d_La_at_1 (by decide) ?_
  refine V_aload_n d_La_at_2 rfl ?_
  refine V_iload_n d_La_at_3 rfl ?_
  refine V_iload_n d_La_at_4 rfl ?_
  refine V_cVc (hpc := 13) (ct := 13) (p1 := 0) (p2 := 10) (pre := []) (post := []) s_La_at_5 hD c_Pm rfl rfl (Nat.le_of_ble_eq_true rfl) rfl rfl (by decide) (tx2 33 rfl rfl) (tx2 55 rfl rfl) (fun y hy => by cases hy) ?_
  refine V_astore d_La_at_13 (by decide) rfl ?_
  refine V_iconst (v := 1) d_La_at_15 (by decide) ?_
  exact V_iret d_La_at_16 rfl rfl
theorem la_offset_ok (c_Pm : h[0]? = some PmO) (p0 : Int32) (p1 : Int32) {v : Int32} (hD : Do l G k_Pm_offset [.ref 1, .int p0, .int p1] h (ri v) (hS h L)) (ho : (hS h L)[45]? = some (LA z)) : Do l G k_La_offset [.ref 1, .int p0, .int p1, .ref 46] h (ri 0) (hS h (put L 45 (LA (vp_updL z z0 (v.toInt64))))) := by
  refine Do.of (by decide) (Nat.le_of_ble_eq_true rfl) kw_La_offset ?_
  rw [← hS_set]
  refine V_aload_n d_La_offset_0 rfl ?_
  refine V_iconst (v := 0) d_La_offset_1 (by decide) ?_
  refine V_aload_n d_La_offset_2 rfl ?_
  refine V_iload_n d_La_offset_3 rfl ?_
  refine V_iload_n d_La_offset_4 rfl ?_
  refine V_cV s_La_offset_5 hD c_Pm rfl rfl (Nat.le_of_ble_eq_true rfl) ?_
  refine V_i2l d_La_offset_8 ?_
  refine V_last d_La_offset_9 ho vin0 ?_
  refine V_goto (tgt := 17) d_La_offset_10 (by decide) ?_
  refine V_iconst (v := 0) d_La_offset_17 (by decide) ?_
  exact V_iret d_La_offset_18 rfl rfl
theorem la_offset_1 (c_Pm : h[0]? = some PmO) (p0 : Int32) (p1 : Int32) (hD : Do l G k_Pm_offset [.ref 1, .int p0, .int p1] h (.inr h.length) (h ++ [exI])) : Do l G k_La_offset [.ref 1, .int p0, .int p1, .ref 46] h (ri 1) (h ++ [exI]) := by
  refine Do.of (by decide) (Nat.le_of_ble_eq_true rfl) kw_La_offset ?_
  refine V_aload_n d_La_offset_0 rfl ?_
  refine V_iconst (v := 0) d_La_offset_1 (by decide) ?_
  refine V_aload_n d_La_offset_2 rfl ?_
  refine V_iload_n d_La_offset_3 rfl ?_
  refine V_iload_n d_La_offset_4 rfl ?_
  refine V_cVc (hpc := 13) (ct := 13) (p1 := 0) (p2 := 10) (pre := []) (post := []) s_La_offset_5 hD c_Pm rfl rfl (Nat.le_of_ble_eq_true rfl) rfl rfl (by decide) (tx2 33 rfl rfl) (tx2 55 rfl rfl) (fun y hy => by cases hy) ?_
  refine V_astore d_La_offset_13 (by decide) rfl ?_
  refine V_iconst (v := 1) d_La_offset_15 (by decide) ?_
  exact V_iret d_La_offset_16 rfl rfl
theorem la_miss_ok (c_Pm : h[0]? = some PmO) (p0 : Int32) {v : Int64} (hD : Do l G k_Pm_miss [.ref 1, .int p0] h (rl v) (hS h L)) (ho : (hS h L)[45]? = some (LA z)) : Do l G k_La_miss [.ref 1, .int p0, .ref 46] h (ri 0) (hS h (put L 45 (LA (vp_updL z z0 (v))))) := by
  refine Do.of (by decide) (Nat.le_of_ble_eq_true rfl) kw_La_miss ?_
  rw [← hS_set]
  refine V_aload_n d_La_miss_0 rfl ?_
  refine V_iconst (v := 0) d_La_miss_1 (by decide) ?_
  refine V_aload_n d_La_miss_2 rfl ?_
  refine V_iload_n d_La_miss_3 rfl ?_
  refine V_cV s_La_miss_4 hD c_Pm rfl rfl (Nat.le_of_ble_eq_true rfl) ?_
  refine V_last d_La_miss_7 ho vin0 ?_
  refine V_goto (tgt := 14) d_La_miss_8 (by decide) ?_
  refine V_iconst (v := 0) d_La_miss_14 (by decide) ?_
  exact V_iret d_La_miss_15 rfl rfl
theorem la_miss_1 (c_Pm : h[0]? = some PmO) (p0 : Int32) (hD : Do l G k_Pm_miss [.ref 1, .int p0] h (.inr h.length) (h ++ [exI])) : Do l G k_La_miss [.ref 1, .int p0, .ref 46] h (ri 1) (h ++ [exI]) := by
  refine Do.of (by decide) (Nat.le_of_ble_eq_true rfl) kw_La_miss ?_
  refine V_aload_n d_La_miss_0 rfl ?_
  refine V_iconst (v := 0) d_La_miss_1 (by decide) ?_
  refine V_aload_n d_La_miss_2 rfl ?_
  refine V_iload_n d_La_miss_3 rfl ?_
  refine V_cVc (hpc := 11) (ct := 13) (p1 := 0) (p2 := 8) (pre := []) (post := []) s_La_miss_4 hD c_Pm rfl rfl (Nat.le_of_ble_eq_true rfl) rfl rfl (by decide) (tx2 33 rfl rfl) (tx2 55 rfl rfl) (fun y hy => by cases hy) ?_
  refine V_astore_n d_La_miss_11 (by decide) rfl ?_
  refine V_iconst (v := 1) d_La_miss_12 (by decide) ?_
  exact V_iret d_La_miss_13 rfl rfl
theorem la_known_ok (c_Pm : h[0]? = some PmO) (p0 : Int32) (p1 : Int32) (p2 : Int32) {v : Int32} (hD : Do l G k_Pm_known [.ref 1, .int p0, .int p1, .int p2] h (ri v) (hS h L)) (ho : (hS h L)[45]? = some (LA z)) : Do l G k_La_known [.ref 1, .int p0, .int p1, .int p2, .ref 46] h (ri 0) (hS h (put L 45 (LA (vp_updL z z0 (v.toInt64))))) := by
  refine Do.of (by decide) (Nat.le_of_ble_eq_true rfl) kw_La_known ?_
  rw [← hS_set]
  refine V_aload d_La_known_0 rfl ?_
  refine V_iconst (v := 0) d_La_known_2 (by decide) ?_
  refine V_aload_n d_La_known_3 rfl ?_
  refine V_iload_n d_La_known_4 rfl ?_
  refine V_iload_n d_La_known_5 rfl ?_
  refine V_iload_n d_La_known_6 rfl ?_
  refine V_cV s_La_known_7 hD c_Pm rfl rfl (Nat.le_of_ble_eq_true rfl) ?_
  refine V_i2l d_La_known_10 ?_
  refine V_last d_La_known_11 ho vin0 ?_
  refine V_goto (tgt := 27) d_La_known_12 (by decide) ?_
  refine V_iconst (v := 0) d_La_known_27 (by decide) ?_
  exact V_iret d_La_known_28 rfl rfl
theorem la_known_1 (c_Pm : h[0]? = some PmO) (p0 : Int32) (p1 : Int32) (p2 : Int32) (hD : Do l G k_Pm_known [.ref 1, .int p0, .int p1, .int p2] h (.inr h.length) (h ++ [exI])) : Do l G k_La_known [.ref 1, .int p0, .int p1, .int p2, .ref 46] h (ri 1) (h ++ [exI]) := by
  refine Do.of (by decide) (Nat.le_of_ble_eq_true rfl) kw_La_known ?_
  refine V_aload d_La_known_0 rfl ?_
  refine V_iconst (v := 0) d_La_known_2 (by decide) ?_
  refine V_aload_n d_La_known_3 rfl ?_
  refine V_iload_n d_La_known_4 rfl ?_
  refine V_iload_n d_La_known_5 rfl ?_
  refine V_iload_n d_La_known_6 rfl ?_
  refine V_cVc (hpc := 15) (ct := 13) (p1 := 0) (p2 := 12) (pre := []) (post := [(0, 12, 19, 15), (0, 12, 23, 24)]) s_La_known_7 hD c_Pm rfl rfl (Nat.le_of_ble_eq_true rfl) rfl rfl (by decide) (tx2 33 rfl rfl) (tx2 55 rfl rfl) (fun y hy => by cases hy) ?_
  refine V_astore d_La_known_15 (by decide) rfl ?_
  refine V_iconst (v := 1) d_La_known_17 (by decide) ?_
  exact V_iret d_La_known_18 rfl rfl
theorem la_known_2 (c_Pm : h[0]? = some PmO) (p0 : Int32) (p1 : Int32) (p2 : Int32) (hD : Do l G k_Pm_known [.ref 1, .int p0, .int p1, .int p2] h (.inr h.length) (h ++ [exA])) : Do l G k_La_known [.ref 1, .int p0, .int p1, .int p2, .ref 46] h (ri 2) (h ++ [exA]) := by
  refine Do.of (by decide) (Nat.le_of_ble_eq_true rfl) kw_La_known ?_
  refine V_aload d_La_known_0 rfl ?_
  refine V_iconst (v := 0) d_La_known_2 (by decide) ?_
  refine V_aload_n d_La_known_3 rfl ?_
  refine V_iload_n d_La_known_4 rfl ?_
  refine V_iload_n d_La_known_5 rfl ?_
  refine V_iload_n d_La_known_6 rfl ?_
  refine V_cVc (hpc := 19) (ct := 15) (p1 := 0) (p2 := 12) (pre := [(0, 12, 15, 13)]) (post := [(0, 12, 23, 24)]) s_La_known_7 hD c_Pm rfl rfl (Nat.le_of_ble_eq_true rfl) rfl rfl (by decide) (tx2 34 rfl rfl) (tx2 126 rfl rfl) (List.forall_mem_cons.mpr ⟨⟨by decide, by decide, by decide, _, tx2 33 rfl rfl, fun U H e => e.2.1⟩, fun y hy => by cases hy⟩) ?_
  refine V_astore d_La_known_19 (by decide) rfl ?_
  refine V_iconst (v := 2) d_La_known_21 (by decide) ?_
  exact V_iret d_La_known_22 rfl rfl
theorem la_known_3 (c_Pm : h[0]? = some PmO) (p0 : Int32) (p1 : Int32) (p2 : Int32) (hD : Do l G k_Pm_known [.ref 1, .int p0, .int p1, .int p2] h (.inr h.length) (h ++ [exS])) : Do l G k_La_known [.ref 1, .int p0, .int p1, .int p2, .ref 46] h (ri 3) (h ++ [exS]) := by
  refine Do.of (by decide) (Nat.le_of_ble_eq_true rfl) kw_La_known ?_
  refine V_aload d_La_known_0 rfl ?_
  refine V_iconst (v := 0) d_La_known_2 (by decide) ?_
  refine V_aload_n d_La_known_3 rfl ?_
  refine V_iload_n d_La_known_4 rfl ?_
  refine V_iload_n d_La_known_5 rfl ?_
  refine V_iload_n d_La_known_6 rfl ?_
  refine V_cVc (hpc := 23) (ct := 24) (p1 := 0) (p2 := 12) (pre := [(0, 12, 15, 13), (0, 12, 19, 15)]) (post := []) s_La_known_7 hD c_Pm rfl rfl (Nat.le_of_ble_eq_true rfl) rfl rfl (by decide) (tx2 184 rfl rfl) (tx2 198 rfl rfl) (List.forall_mem_cons.mpr ⟨⟨by decide, by decide, by decide, _, tx2 33 rfl rfl, fun U H e => e.2.2.1⟩, List.forall_mem_cons.mpr ⟨⟨by decide, by decide, by decide, _, tx2 34 rfl rfl, fun U H e => e.2.2.2⟩, fun y hy => by cases hy⟩⟩) ?_
  refine V_astore d_La_known_23 (by decide) rfl ?_
  refine V_iconst (v := 3) d_La_known_25 (by decide) ?_
  exact V_iret d_La_known_26 rfl rfl
theorem la_scale_ok (c_Pm : h[0]? = some PmO) (p0 : Int32) {v : Int64} (hD : Do l G k_Pm_scale [.ref 1, .int p0] h (rl v) (hS h L)) (ho : (hS h L)[45]? = some (LA z)) : Do l G k_La_scale [.ref 1, .int p0, .ref 46] h (ri 0) (hS h (put L 45 (LA (vp_updL z z0 (v))))) := by
  refine Do.of (by decide) (Nat.le_of_ble_eq_true rfl) kw_La_scale ?_
  rw [← hS_set]
  refine V_aload_n d_La_scale_0 rfl ?_
  refine V_iconst (v := 0) d_La_scale_1 (by decide) ?_
  refine V_aload_n d_La_scale_2 rfl ?_
  refine V_iload_n d_La_scale_3 rfl ?_
  refine V_cV s_La_scale_4 hD c_Pm rfl rfl (Nat.le_of_ble_eq_true rfl) ?_
  refine V_last d_La_scale_7 ho vin0 ?_
  refine V_goto (tgt := 14) d_La_scale_8 (by decide) ?_
  refine V_iconst (v := 0) d_La_scale_14 (by decide) ?_
  exact V_iret d_La_scale_15 rfl rfl
theorem la_scale_1 (c_Pm : h[0]? = some PmO) (p0 : Int32) (hD : Do l G k_Pm_scale [.ref 1, .int p0] h (.inr h.length) (h ++ [exI])) : Do l G k_La_scale [.ref 1, .int p0, .ref 46] h (ri 1) (h ++ [exI]) := by
  refine Do.of (by decide) (Nat.le_of_ble_eq_true rfl) kw_La_scale ?_
  refine V_aload_n d_La_scale_0 rfl ?_
  refine V_iconst (v := 0) d_La_scale_1 (by decide) ?_
  refine V_aload_n d_La_scale_2 rfl ?_
  refine V_iload_n d_La_scale_3 rfl ?_
  refine V_cVc (hpc := 11) (ct := 13) (p1 := 0) (p2 := 8) (pre := []) (post := []) s_La_scale_4 hD c_Pm rfl rfl (Nat.le_of_ble_eq_true rfl) rfl rfl (by decide) (tx2 33 rfl rfl) (tx2 55 rfl rfl) (fun y hy => by cases hy) ?_
  refine V_astore_n d_La_scale_11 (by decide) rfl ?_
  refine V_iconst (v := 1) d_La_scale_12 (by decide) ?_
  exact V_iret d_La_scale_13 rfl rfl
theorem la_heights_ok (c_Pm : h[0]? = some PmO) (p0 : Int32) (p1 : Int32) (p2 : Int32) {v : Int32} (hD : Do l G k_Pm_heights [.ref 1, .int p0, .int p1, .int p2] h (ri v) (hS h L)) (ho : (hS h L)[45]? = some (LA z)) : Do l G k_La_heights [.ref 1, .int p0, .int p1, .int p2, .ref 46] h (ri 0) (hS h (put L 45 (LA (vp_updL z z0 (v.toInt64))))) := by
  refine Do.of (by decide) (Nat.le_of_ble_eq_true rfl) kw_La_heights ?_
  rw [← hS_set]
  refine V_aload d_La_heights_0 rfl ?_
  refine V_iconst (v := 0) d_La_heights_2 (by decide) ?_
  refine V_aload_n d_La_heights_3 rfl ?_
  refine V_iload_n d_La_heights_4 rfl ?_
  refine V_iload_n d_La_heights_5 rfl ?_
  refine V_iload_n d_La_heights_6 rfl ?_
  refine V_cV s_La_heights_7 hD c_Pm rfl rfl (Nat.le_of_ble_eq_true rfl) ?_
  refine V_i2l d_La_heights_10 ?_
  refine V_last d_La_heights_11 ho vin0 ?_
  refine V_goto (tgt := 23) d_La_heights_12 (by decide) ?_
  refine V_iconst (v := 0) d_La_heights_23 (by decide) ?_
  exact V_iret d_La_heights_24 rfl rfl
theorem la_heights_1 (c_Pm : h[0]? = some PmO) (p0 : Int32) (p1 : Int32) (p2 : Int32) (hD : Do l G k_Pm_heights [.ref 1, .int p0, .int p1, .int p2] h (.inr h.length) (h ++ [exI])) : Do l G k_La_heights [.ref 1, .int p0, .int p1, .int p2, .ref 46] h (ri 1) (h ++ [exI]) := by
  refine Do.of (by decide) (Nat.le_of_ble_eq_true rfl) kw_La_heights ?_
  refine V_aload d_La_heights_0 rfl ?_
  refine V_iconst (v := 0) d_La_heights_2 (by decide) ?_
  refine V_aload_n d_La_heights_3 rfl ?_
  refine V_iload_n d_La_heights_4 rfl ?_
  refine V_iload_n d_La_heights_5 rfl ?_
  refine V_iload_n d_La_heights_6 rfl ?_
  refine V_cVc (hpc := 15) (ct := 13) (p1 := 0) (p2 := 12) (pre := []) (post := [(0, 12, 19, 15)]) s_La_heights_7 hD c_Pm rfl rfl (Nat.le_of_ble_eq_true rfl) rfl rfl (by decide) (tx2 33 rfl rfl) (tx2 55 rfl rfl) (fun y hy => by cases hy) ?_
  refine V_astore d_La_heights_15 (by decide) rfl ?_
  refine V_iconst (v := 1) d_La_heights_17 (by decide) ?_
  exact V_iret d_La_heights_18 rfl rfl
theorem la_heights_2 (c_Pm : h[0]? = some PmO) (p0 : Int32) (p1 : Int32) (p2 : Int32) (hD : Do l G k_Pm_heights [.ref 1, .int p0, .int p1, .int p2] h (.inr h.length) (h ++ [exA])) : Do l G k_La_heights [.ref 1, .int p0, .int p1, .int p2, .ref 46] h (ri 2) (h ++ [exA]) := by
  refine Do.of (by decide) (Nat.le_of_ble_eq_true rfl) kw_La_heights ?_
  refine V_aload d_La_heights_0 rfl ?_
  refine V_iconst (v := 0) d_La_heights_2 (by decide) ?_
  refine V_aload_n d_La_heights_3 rfl ?_
  refine V_iload_n d_La_heights_4 rfl ?_
  refine V_iload_n d_La_heights_5 rfl ?_
  refine V_iload_n d_La_heights_6 rfl ?_
  refine V_cVc (hpc := 19) (ct := 15) (p1 := 0) (p2 := 12) (pre := [(0, 12, 15, 13)]) (post := []) s_La_heights_7 hD c_Pm rfl rfl (Nat.le_of_ble_eq_true rfl) rfl rfl (by decide) (tx2 34 rfl rfl) (tx2 126 rfl rfl) (List.forall_mem_cons.mpr ⟨⟨by decide, by decide, by decide, _, tx2 33 rfl rfl, fun U H e => e.2.1⟩, fun y hy => by cases hy⟩) ?_
  refine V_astore d_La_heights_19 (by decide) rfl ?_
  refine V_iconst (v := 2) d_La_heights_21 (by decide) ?_
  exact V_iret d_La_heights_22 rfl rfl
theorem la_depth_ok (c_Pm : h[0]? = some PmO) (p0 : Int32) (p1 : Int32) {v : Int32} (hD : Do l G k_Pm_depth [.ref 1, .int p0, .int p1] h (ri v) (hS h L)) (ho : (hS h L)[45]? = some (LA z)) : Do l G k_La_depth [.ref 1, .int p0, .int p1, .ref 46] h (ri 0) (hS h (put L 45 (LA (vp_updL z z0 (v.toInt64))))) := by
  refine Do.of (by decide) (Nat.le_of_ble_eq_true rfl) kw_La_depth ?_
  rw [← hS_set]
  refine V_aload_n d_La_depth_0 rfl ?_
  refine V_iconst (v := 0) d_La_depth_1 (by decide) ?_
  refine V_aload_n d_La_depth_2 rfl ?_
  refine V_iload_n d_La_depth_3 rfl ?_
  refine V_iload_n d_La_depth_4 rfl ?_
  refine V_cV s_La_depth_5 hD c_Pm rfl rfl (Nat.le_of_ble_eq_true rfl) ?_
  refine V_i2l d_La_depth_8 ?_
  refine V_last d_La_depth_9 ho vin0 ?_
  refine V_goto (tgt := 21) d_La_depth_10 (by decide) ?_
  refine V_iconst (v := 0) d_La_depth_21 (by decide) ?_
  exact V_iret d_La_depth_22 rfl rfl
theorem la_depth_1 (c_Pm : h[0]? = some PmO) (p0 : Int32) (p1 : Int32) (hD : Do l G k_Pm_depth [.ref 1, .int p0, .int p1] h (.inr h.length) (h ++ [exI])) : Do l G k_La_depth [.ref 1, .int p0, .int p1, .ref 46] h (ri 1) (h ++ [exI]) := by
  refine Do.of (by decide) (Nat.le_of_ble_eq_true rfl) kw_La_depth ?_
  refine V_aload_n d_La_depth_0 rfl ?_
  refine V_iconst (v := 0) d_La_depth_1 (by decide) ?_
  refine V_aload_n d_La_depth_2 rfl ?_
  refine V_iload_n d_La_depth_3 rfl ?_
  refine V_iload_n d_La_depth_4 rfl ?_
  refine V_cVc (hpc := 13) (ct := 13) (p1 := 0) (p2 := 10) (pre := []) (post := [(0, 10, 17, 24)]) s_La_depth_5 hD c_Pm rfl rfl (Nat.le_of_ble_eq_true rfl) rfl rfl (by decide) (tx2 33 rfl rfl) (tx2 55 rfl rfl) (fun y hy => by cases hy) ?_
  refine V_astore d_La_depth_13 (by decide) rfl ?_
  refine V_iconst (v := 1) d_La_depth_15 (by decide) ?_
  exact V_iret d_La_depth_16 rfl rfl
theorem la_depth_2 (c_Pm : h[0]? = some PmO) (p0 : Int32) (p1 : Int32) (hD : Do l G k_Pm_depth [.ref 1, .int p0, .int p1] h (.inr h.length) (h ++ [exS])) : Do l G k_La_depth [.ref 1, .int p0, .int p1, .ref 46] h (ri 2) (h ++ [exS]) := by
  refine Do.of (by decide) (Nat.le_of_ble_eq_true rfl) kw_La_depth ?_
  refine V_aload_n d_La_depth_0 rfl ?_
  refine V_iconst (v := 0) d_La_depth_1 (by decide) ?_
  refine V_aload_n d_La_depth_2 rfl ?_
  refine V_iload_n d_La_depth_3 rfl ?_
  refine V_iload_n d_La_depth_4 rfl ?_
  refine V_cVc (hpc := 17) (ct := 24) (p1 := 0) (p2 := 10) (pre := [(0, 10, 13, 13)]) (post := []) s_La_depth_5 hD c_Pm rfl rfl (Nat.le_of_ble_eq_true rfl) rfl rfl (by decide) (tx2 184 rfl rfl) (tx2 198 rfl rfl) (List.forall_mem_cons.mpr ⟨⟨by decide, by decide, by decide, _, tx2 33 rfl rfl, fun U H e => e.2.2.1⟩, fun y hy => by cases hy⟩) ?_
  refine V_astore d_La_depth_17 (by decide) rfl ?_
  refine V_iconst (v := 2) d_La_depth_19 (by decide) ?_
  exact V_iret d_La_depth_20 rfl rfl
theorem la_holes_ok (c_Pm : h[0]? = some PmO) (p0 : Int32) {v : Int32} (hD : Do l G k_Pm_holes [.ref 1, .int p0] h (ri v) (hS h L)) (ho : (hS h L)[45]? = some (LA z)) : Do l G k_La_holes [.ref 1, .int p0, .ref 46] h (ri 0) (hS h (put L 45 (LA (vp_updL z z0 (v.toInt64))))) := by
  refine Do.of (by decide) (Nat.le_of_ble_eq_true rfl) kw_La_holes ?_
  rw [← hS_set]
  refine V_aload_n d_La_holes_0 rfl ?_
  refine V_iconst (v := 0) d_La_holes_1 (by decide) ?_
  refine V_aload_n d_La_holes_2 rfl ?_
  refine V_iload_n d_La_holes_3 rfl ?_
  refine V_cV s_La_holes_4 hD c_Pm rfl rfl (Nat.le_of_ble_eq_true rfl) ?_
  refine V_i2l d_La_holes_7 ?_
  refine V_last d_La_holes_8 ho vin0 ?_
  refine V_goto (tgt := 15) d_La_holes_9 (by decide) ?_
  refine V_iconst (v := 0) d_La_holes_15 (by decide) ?_
  exact V_iret d_La_holes_16 rfl rfl
theorem la_holes_1 (c_Pm : h[0]? = some PmO) (p0 : Int32) (hD : Do l G k_Pm_holes [.ref 1, .int p0] h (.inr h.length) (h ++ [exS])) : Do l G k_La_holes [.ref 1, .int p0, .ref 46] h (ri 1) (h ++ [exS]) := by
  refine Do.of (by decide) (Nat.le_of_ble_eq_true rfl) kw_La_holes ?_
  refine V_aload_n d_La_holes_0 rfl ?_
  refine V_iconst (v := 0) d_La_holes_1 (by decide) ?_
  refine V_aload_n d_La_holes_2 rfl ?_
  refine V_iload_n d_La_holes_3 rfl ?_
  refine V_cVc (hpc := 12) (ct := 24) (p1 := 0) (p2 := 9) (pre := []) (post := []) s_La_holes_4 hD c_Pm rfl rfl (Nat.le_of_ble_eq_true rfl) rfl rfl (by decide) (tx2 184 rfl rfl) (tx2 198 rfl rfl) (fun y hy => by cases hy) ?_
  refine V_astore_n d_La_holes_12 (by decide) rfl ?_
  refine V_iconst (v := 1) d_La_holes_13 (by decide) ?_
  exact V_iret d_La_holes_14 rfl rfl
theorem la_count_ok (c_Pm : h[0]? = some PmO) (p0 : Int32) {v : Int32} (hD : Do l G k_Pm_count [.ref 1, .int p0] h (ri v) (hS h L)) (ho : (hS h L)[45]? = some (LA z)) : Do l G k_La_count [.ref 1, .int p0, .ref 46] h (ri 0) (hS h (put L 45 (LA (vp_updL z z0 (v.toInt64))))) := by
  refine Do.of (by decide) (Nat.le_of_ble_eq_true rfl) kw_La_count ?_
  rw [← hS_set]
  refine V_aload_n d_La_count_0 rfl ?_
  refine V_iconst (v := 0) d_La_count_1 (by decide) ?_
  refine V_aload_n d_La_count_2 rfl ?_
  refine V_iload_n d_La_count_3 rfl ?_
  refine V_cV s_La_count_4 hD c_Pm rfl rfl (Nat.le_of_ble_eq_true rfl) ?_
  refine V_i2l d_La_count_7 ?_
  refine V_last d_La_count_8 ho vin0 ?_
  refine V_goto (tgt := 15) d_La_count_9 (by decide) ?_
  refine V_iconst (v := 0) d_La_count_15 (by decide) ?_
  exact V_iret d_La_count_16 rfl rfl
theorem la_count_1 (c_Pm : h[0]? = some PmO) (p0 : Int32) (hD : Do l G k_Pm_count [.ref 1, .int p0] h (.inr h.length) (h ++ [exI])) : Do l G k_La_count [.ref 1, .int p0, .ref 46] h (ri 1) (h ++ [exI]) := by
  refine Do.of (by decide) (Nat.le_of_ble_eq_true rfl) kw_La_count ?_
  refine V_aload_n d_La_count_0 rfl ?_
  refine V_iconst (v := 0) d_La_count_1 (by decide) ?_
  refine V_aload_n d_La_count_2 rfl ?_
  refine V_iload_n d_La_count_3 rfl ?_
  refine V_cVc (hpc := 12) (ct := 13) (p1 := 0) (p2 := 9) (pre := []) (post := []) s_La_count_4 hD c_Pm rfl rfl (Nat.le_of_ble_eq_true rfl) rfl rfl (by decide) (tx2 33 rfl rfl) (tx2 55 rfl rfl) (fun y hy => by cases hy) ?_
  refine V_astore_n d_La_count_12 (by decide) rfl ?_
  refine V_iconst (v := 1) d_La_count_13 (by decide) ?_
  exact V_iret d_La_count_14 rfl rfl
theorem la_cell_in {k : Nat} (hk : k < G.L) (hL : G.L < 2 ^ 31) : Do l G k_La_cell [.ref 0, .int (nI k)] h (ri (G.xs k)) h := by
  refine Do.of (by decide) (Nat.le_of_ble_eq_true rfl) kw_La_cell ?_
  refine V_iload_n d_La_cell_0 rfl ?_
  refine V_aload_n d_La_cell_1 rfl ?_
  refine V_slen d_La_cell_2 ?_
  refine V_icmp_ge (tgt := 12) d_La_cell_3 (by decide) (fun c9 => absurd c9 ((nI_ge hk hL))) (fun _ => ?_)
  refine V_aload_n d_La_cell_6 rfl ?_
  refine V_iload_n d_La_cell_7 rfl ?_
  refine V_sldN d_La_cell_8 (Ix.of hk hL) ?_
  refine V_goto (tgt := 13) d_La_cell_9 (by decide) ?_
  exact V_iret d_La_cell_13 rfl rfl
theorem la_cell_out {k : Nat} (hk : G.L ≤ k) (hL : k < 2 ^ 31) : Do l G k_La_cell [.ref 0, .int (nI k)] h (ri 0) h := by
  refine Do.of (by decide) (Nat.le_of_ble_eq_true rfl) kw_La_cell ?_
  refine V_iload_n d_La_cell_0 rfl ?_
  refine V_aload_n d_La_cell_1 rfl ?_
  refine V_slen d_La_cell_2 ?_
  refine V_icmp_ge (tgt := 12) d_La_cell_3 (by decide) (fun _ => ?_) (fun c9 => absurd ((nI_le hk hL)) c9)
  refine V_iconst (v := 0) d_La_cell_12 (by decide) ?_
  exact V_iret d_La_cell_13 rfl rfl
theorem la_cell (k : Nat) (hk : k < 100) (hL : G.L < 2 ^ 31) : Do l G k_La_cell [.ref 0, .int (nI k)] h (ri (if k < G.L then G.xs k else 0)) h := by
  by_cases q : k < G.L
  · rw [if_pos q]
    exact la_cell_in q hL
  · rw [if_neg q]
    exact la_cell_out (by omega) (by omega)
end P49
