section P25
variable {l : Launch} {G : Gb} {h : List Ce}
/-- the cells of the list are there -/
def okS (h : List Ce) (l : List (Nat × Ce)) : Prop := ∀ k c, lk l k = some c → h[k]? = some c
theorem okS_nil : okS h [] := fun k c e => by cases e
theorem okS_cons {k : Nat} {c : Ce} {t : List (Nat × Ce)} (h1 : h[k]? = some c) (h2 : okS h t) : okS h ((k, c) :: t) := by
  intro j d e
  simp only [lk] at e
  by_cases q : k = j
  · subst q; rw [if_pos rfl] at e; cases e; exact h1
  · rw [if_neg q] at e; exact h2 j d e
abbrev exI : Ce := .inr (9, [])
abbrev exA : Ce := .inr (10, [])
abbrev exS : Ce := .inr (11, [])
theorem ownOf {own : String} {ic : Nat} {X9 : String} {names : List String} (hh : (Bundle.ownAtoms own ic X9 names).all (fun a => decide (a ∈ lw_tbl) && okW a || decide (a ∈ evw)) = true) : ∀ a ∈ Bundle.ownAtoms own ic X9 names, a ∈ tw ∨ a ∈ evw := by
  intro a ha
  have := List.all_eq_true.mp hh a ha
  simp only [Bool.or_eq_true, Bool.and_eq_true, decide_eq_true_eq] at this
  exact this.imp (fun q => List.mem_filter.mpr q) id
theorem own9 : ∀ a ∈ Bundle.ownAtoms "PhotoModels" 194 "java/lang/IndexOutOfBoundsException" ["java/lang/RuntimeException", "java/lang/Exception"], a ∈ tw ∨ a ∈ evw := ownOf (by decide +kernel)
theorem own10 : ∀ a ∈ Bundle.ownAtoms "PhotoModels" 211 "java/lang/IllegalArgumentException" ["java/lang/RuntimeException", "java/lang/Exception"], a ∈ tw ∨ a ∈ evw := ownOf (by decide +kernel)
theorem own11 : ∀ a ∈ Bundle.ownAtoms "PhotoModels" 216 "java/lang/IllegalStateException" ["java/lang/RuntimeException", "java/lang/Exception"], a ∈ tw ∨ a ∈ evw := ownOf (by decide +kernel)
theorem ndI_t : Do l G k_Pm_needIndex [.int (bI true)] h rv h := by
  refine Do.of (by decide) (Nat.le_of_ble_eq_true rfl) kw_Pm_needIndex ?_
  refine V_iload_n d_Pm_needIndex_0 rfl ?_
  refine V_if_ne (tgt := 14) d_Pm_needIndex_1 (by decide) (fun _ => ?_) (fun c9 => absurd (c9 : _) ((by decide : ¬ bI true = 0)))
  exact V_vret d_Pm_needIndex_14 rfl
theorem ndA_t : Do l G k_Pm_needArgument [.int (bI true)] h rv h := by
  refine Do.of (by decide) (Nat.le_of_ble_eq_true rfl) kw_Pm_needArgument ?_
  refine V_iload_n d_Pm_needArgument_0 rfl ?_
  refine V_if_ne (tgt := 14) d_Pm_needArgument_1 (by decide) (fun _ => ?_) (fun c9 => absurd (c9 : _) ((by decide : ¬ bI true = 0)))
  exact V_vret d_Pm_needArgument_14 rfl
theorem ndS_t : Do l G k_Pm_needState [.int (bI true)] h rv h := by
  refine Do.of (by decide) (Nat.le_of_ble_eq_true rfl) kw_Pm_needState ?_
  refine V_iload_n d_Pm_needState_0 rfl ?_
  refine V_if_ne (tgt := 14) d_Pm_needState_1 (by decide) (fun _ => ?_) (fun c9 => absurd (c9 : _) ((by decide : ¬ bI true = 0)))
  exact V_vret d_Pm_needState_14 rfl
theorem ndI_f (hNT : NoTr l) : Do l G k_Pm_needIndex [.int (bI false)] h (.inr h.length) (h ++ [exI]) := by
  refine Do.of0 (by decide) (Nat.le_of_ble_eq_true rfl) kw_Pm_needIndex ?_
  refine V0_iload_n d_Pm_needIndex_0 rfl ?_
  refine V0_ifne_f (tgt := 14) d_Pm_needIndex_1 (by decide) (by decide) ?_
  exact V0_thr hNT (X9 := "java/lang/IndexOutOfBoundsException") (tx := "no such photo, cell, place or what") (names := ["java/lang/RuntimeException", "java/lang/Exception"]) d_Pm_needIndex_4 d_Pm_needIndex_7 d_Pm_needIndex_8 d_Pm_needIndex_10 d_Pm_needIndex_13 rfl (tx2 53 rfl rfl) (tx2 54 rfl rfl) (tx1 14 rfl rfl) (tx2 94 rfl rfl) (by decide) (by decide) own9 rfl rfl (by decide) (by decide) (Nat.le_of_ble_eq_true rfl)
theorem ndA_f (hNT : NoTr l) : Do l G k_Pm_needArgument [.int (bI false)] h (.inr h.length) (h ++ [exA]) := by
  refine Do.of0 (by decide) (Nat.le_of_ble_eq_true rfl) kw_Pm_needArgument ?_
  refine V0_iload_n d_Pm_needArgument_0 rfl ?_
  refine V0_ifne_f (tgt := 14) d_Pm_needArgument_1 (by decide) (by decide) ?_
  exact V0_thr hNT (X9 := "java/lang/IllegalArgumentException") (tx := "an argument is not in its range") (names := ["java/lang/RuntimeException", "java/lang/Exception"]) d_Pm_needArgument_4 d_Pm_needArgument_7 d_Pm_needArgument_8 d_Pm_needArgument_10 d_Pm_needArgument_13 rfl (tx2 124 rfl rfl) (tx2 125 rfl rfl) (tx1 15 rfl rfl) (tx2 133 rfl rfl) (by decide) (by decide) own10 rfl rfl (by decide) (by decide) (Nat.le_of_ble_eq_true rfl)
theorem ndS_f (hNT : NoTr l) : Do l G k_Pm_needState [.int (bI false)] h (.inr h.length) (h ++ [exS]) := by
  refine Do.of0 (by decide) (Nat.le_of_ble_eq_true rfl) kw_Pm_needState ?_
  refine V0_iload_n d_Pm_needState_0 rfl ?_
  refine V0_ifne_f (tgt := 14) d_Pm_needState_1 (by decide) (by decide) ?_
  exact V0_thr hNT (X9 := "java/lang/IllegalStateException") (tx := "not now") (names := ["java/lang/RuntimeException", "java/lang/Exception"]) d_Pm_needState_4 d_Pm_needState_7 d_Pm_needState_8 d_Pm_needState_10 d_Pm_needState_13 rfl (tx2 196 rfl rfl) (tx2 197 rfl rfl) (tx1 16 rfl rfl) (tx2 205 rfl rfl) (by decide) (by decide) own11 rfl rfl (by decide) (by decide) (Nat.le_of_ble_eq_true rfl)
theorem do_isPhoto (x : Int32) : Do l G k_Pm_isPhoto [.int x] h (rz (wiB x 0 3)) h := by
  refine Do.of (by decide) (Nat.le_of_ble_eq_true rfl) kw_Pm_isPhoto ?_
  refine V_iload_n d_Pm_isPhoto_0 rfl ?_
  refine V_iconst (v := 0) d_Pm_isPhoto_1 (by decide) ?_
  refine V_iconst (v := 3) d_Pm_isPhoto_2 (by decide) ?_
  refine V_cS s_Pm_isPhoto_3 (do_isWithin x 0 3) rfl rfl (Nat.le_of_ble_eq_true rfl) ?_
  exact V_iret d_Pm_isPhoto_6 rfl (by first | rfl | exact bI_n _)
theorem do_isAxis (x : Int32) : Do l G k_Pm_isAxis [.int x] h (rz (wiB x 0 1)) h := by
  refine Do.of (by decide) (Nat.le_of_ble_eq_true rfl) kw_Pm_isAxis ?_
  refine V_iload_n d_Pm_isAxis_0 rfl ?_
  refine V_iconst (v := 0) d_Pm_isAxis_1 (by decide) ?_
  refine V_iconst (v := 1) d_Pm_isAxis_2 (by decide) ?_
  refine V_cS s_Pm_isAxis_3 (do_isWithin x 0 1) rfl rfl (Nat.le_of_ble_eq_true rfl) ?_
  exact V_iret d_Pm_isAxis_6 rfl (by first | rfl | exact bI_n _)
def clI (x a b : Int32) : Int32 := if a < (if x < b then x else b) then (if x < b then x else b) else a
theorem do_within (x a b : Int32) : Do l G k_Pm_within [.int x, .int a, .int b] h (ri (clI x a b)) h := by
  refine Do.of (by decide) (Nat.le_of_ble_eq_true rfl) kw_Pm_within ?_
  refine V_iload_n d_Pm_within_0 rfl ?_
  refine V_iload_n d_Pm_within_1 rfl ?_
  refine V_iload_n d_Pm_within_2 rfl ?_
  refine V_min s_Pm_within_3 (Nat.le_of_ble_eq_true rfl) ?_
  refine V_max s_Pm_within_6 (Nat.le_of_ble_eq_true rfl) ?_
  exact V_iret d_Pm_within_9 rfl rfl
end P25
