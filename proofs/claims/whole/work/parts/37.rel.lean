section P37
theorem ap_abG {a b : Int32} (ha : -100000 ≤ a.toInt ∧ a.toInt ≤ 100000) (hb : -100000 ≤ b.toInt ∧ b.toInt ≤ 100000) : apR a b = ab (a - b) := by
  have e : (a - b).toInt = a.toInt - b.toInt := isub (by omega) (by omega)
  have e2 : (b - a).toInt = b.toInt - a.toInt := isub (by omega) (by omega)
  have z0 : (0 : Int32).toInt = 0 := rfl
  unfold apR ab
  apply Int32.toInt_inj.mp
  by_cases q : b < a
  · rw [if_pos q, if_pos (by rw [Int32.le_iff_toInt_le, e, z0]; rw [Int32.lt_iff_toInt_lt] at q; omega)]
  · rw [if_neg q]
    rw [Int32.lt_iff_toInt_lt] at q
    by_cases q2 : 0 ≤ a - b
    · rw [if_pos q2]
      rw [Int32.le_iff_toInt_le, e, z0] at q2
      rw [e, e2]
      omega
    · rw [if_neg q2, e2, isub (by rw [e, z0]; omega) (by rw [e, z0]; omega), e, z0]
      omega
variable {l : Launch} {G : Gb} {h h0 h' : List Ce} {r : Rs} {th sx sy : Int32} {w ht sd pl ln : Nat} {md sh hi : Bool} {sX sY wh : Nat → Int32} {Bn : Nat → Bool}
/-- both photos see the place -/
def bo (Bn : Nat → Bool) (a b p : Nat) : Bool := Bn (p * 4 + a) && Bn (p * 4 + b)
def dx (wh : Nat → Int32) (a b x p : Nat) : Int32 := wh ((p * 4 + b) * 2 + x) - wh ((p * 4 + a) * 2 + x)
/-- how many such places lie below m -/
def rk (Bn : Nat → Bool) (a b : Nat) : Nat → Nat
  | 0 => 0
  | m + 1 => rk Bn a b m + (if bo Bn a b m then 1 else 0)
theorem rk_le (a b : Nat) : ∀ m, rk Bn a b m ≤ m
  | 0 => Nat.le_refl _
  | m + 1 => by
    have := rk_le a b m
    show rk Bn a b m + (if bo Bn a b m then 1 else 0) ≤ m + 1
    split <;> omega
theorem rk_mono (a b : Nat) {m : Nat} : ∀ k, rk Bn a b m ≤ rk Bn a b (m + k)
  | 0 => Nat.le_refl _
  | k + 1 => by
    have := rk_mono a b (m := m) k
    show rk Bn a b m ≤ rk Bn a b (m + k) + (if bo Bn a b (m + k) then 1 else 0)
    omega
theorem rk_lt (a b : Nat) {p m : Nat} (hp : p < m) (hb : bo Bn a b p = true) : rk Bn a b p < rk Bn a b m := by
  have h1 := rk_mono (Bn := Bn) a b (m := p + 1) (m - (p + 1))
  rw [show p + 1 + (m - (p + 1)) = m by omega] at h1
  have h2 : rk Bn a b (p + 1) = rk Bn a b p + (if bo Bn a b p then 1 else 0) := rfl
  rw [if_pos hb] at h2
  omega
/-- what the class gathers -/
theorem gt_spec (Bn : Nat → Bool) (wh : Nat → Int32) (a b n : Nat) (sx sy : Nat → Int32) : (gtR Bn wh a b n sx sy).1 = rk Bn a b n ∧ ∀ p, p < n → bo Bn a b p = true → (gtR Bn wh a b n sx sy).2.1 (rk Bn a b p) = dx wh a b 0 p ∧ (gtR Bn wh a b n sx sy).2.2 (rk Bn a b p) = dx wh a b 1 p := by
  have := fori_inv (f := gtS Bn wh a b) (fun m s => s.1 = rk Bn a b m ∧ ∀ p, p < m → bo Bn a b p = true → s.2.1 (rk Bn a b p) = dx wh a b 0 p ∧ s.2.2 (rk Bn a b p) = dx wh a b 1 p) n 0 (0, sx, sy) (fun m s _ hm hs => by
    obtain ⟨h1, h2⟩ := hs
    by_cases q : bo Bn a b m = true
    · have e : gtS Bn wh a b m s = (s.1 + 1, upd s.2.1 s.1 (dx wh a b 0 m), upd s.2.2 s.1 (dx wh a b 1 m)) := by
        unfold gtS
        rw [if_pos (show (Bn (m * 4 + a) && Bn (m * 4 + b)) = true from q)]
        rfl
      rw [e]
      refine ⟨?_, fun p hp hb => ?_⟩
      · show s.1 + 1 = rk Bn a b m + (if bo Bn a b m then 1 else 0)
        rw [if_pos q, h1]
      · rcases Nat.lt_or_ge p m with z | z
        · have := rk_lt a b z hb
          have hne : rk Bn a b p ≠ s.1 := by omega
          show upd s.2.1 s.1 _ _ = _ ∧ upd s.2.2 s.1 _ _ = _
          unfold upd
          rw [if_neg hne, if_neg hne]
          exact h2 p z hb
        · obtain rfl : p = m := by omega
          show upd s.2.1 s.1 _ _ = _ ∧ upd s.2.2 s.1 _ _ = _
          unfold upd
          rw [if_pos h1.symm, if_pos h1.symm]
          exact ⟨rfl, rfl⟩
    · have e : gtS Bn wh a b m s = s := by
        unfold gtS
        rw [if_neg (show ¬ (Bn (m * 4 + a) && Bn (m * 4 + b)) = true from q)]
      rw [e]
      refine ⟨?_, fun p hp hb => ?_⟩
      · show s.1 = rk Bn a b m + (if bo Bn a b m then 1 else 0)
        rw [if_neg q, h1]; rfl
      · rcases Nat.lt_or_ge p m with z | z
        · exact h2 p z hb
        · obtain rfl : p = m := by omega
          exact absurd hb q) ⟨rfl, fun p hp => by omega⟩
  rw [Nat.zero_add] at this
  exact this
/-- how many places agree, as the model counts -/
def agM (Bn : Nat → Bool) (wh : Nat → Int32) (a b one : Nat) (tol : Int32) (n : Nat) : Nat := fori (fun p c => if bo Bn a b p && (decide (apR (dx wh a b 0 p) (dx wh a b 0 one) ≤ tol) && decide (apR (dx wh a b 1 p) (dx wh a b 1 one) ≤ tol)) then c + 1 else c) n 0 0
theorem dx_b (hR : RS Bn wh sX sY) {a b x p : Nat} (hp : p < 12) (ha : a < 4) (hb : b < 4) (hx : x < 2) (hB : bo Bn a b p = true) : -100000 ≤ (dx wh a b x p).toInt ∧ (dx wh a b x p).toInt ≤ 100000 := by
  have q : ∀ k, k < 48 → Bn k = true → ∃ i : Nat, i ≤ 999 ∧ wh (k * 2 + x) = nI i := by
    intro k hk hz
    obtain ⟨i, j, h1, h2, -, -, e3, e4⟩ := (hR k hk).2 hz
    rcases (show x = 0 ∨ x = 1 by omega) with z | z <;> subst z
    · exact ⟨i, h1, e3⟩
    · exact ⟨j, h2, e4⟩
  unfold bo at hB
  rw [Bool.and_eq_true] at hB
  obtain ⟨i, hi, ei⟩ := q (p * 4 + b) (by omega) hB.2
  obtain ⟨j, hj, ej⟩ := q (p * 4 + a) (by omega) hB.1
  unfold dx
  rw [ei, ej, pk_sub_toInt (by omega) (by omega)]
  omega
theorem ag_eq (hR : RS Bn wh sX sY) {a b n one : Nat} (hn : n ≤ 12) (ha : a < 4) (hb : b < 4) (hone : one < n) (hB : bo Bn a b one = true) (sx sy : Nat → Int32) (tol : Int32) (g : Gt) (hg : g = gtR Bn wh a b n sx sy) : agC g.2.1 g.2.2 g.1 (rk Bn a b one) tol = agM Bn wh a b one tol n := by
  obtain ⟨h1, h2⟩ := gt_spec Bn wh a b n sx sy
  rw [← hg] at h1 h2
  have key : ∀ m, m ≤ n → fori (fun i c => if decide (ab (g.2.1 i - g.2.1 (rk Bn a b one)) ≤ tol) && decide (ab (g.2.2 i - g.2.2 (rk Bn a b one)) ≤ tol) then c + 1 else c) (rk Bn a b m) 0 0 = fori (fun p c => if bo Bn a b p && (decide (apR (dx wh a b 0 p) (dx wh a b 0 one) ≤ tol) && decide (apR (dx wh a b 1 p) (dx wh a b 1 one) ≤ tol)) then c + 1 else c) m 0 0 := by
    intro m
    induction m with
    | zero => intro _; rfl
    | succ m ih =>
      intro hm
      rw [fori_snoc, ← ih (by omega), Nat.zero_add]
      show fori _ (rk Bn a b m + (if bo Bn a b m then 1 else 0)) 0 0 = _
      by_cases q : bo Bn a b m = true
      · rw [if_pos q, fori_snoc, Nat.zero_add, (h2 m (by omega) q).1, (h2 m (by omega) q).2, (h2 one hone hB).1, (h2 one hone hB).2, q, Bool.true_and]
        rw [ap_abG (dx_b hR (by omega) ha hb (by decide) q) (dx_b hR (by omega) ha hb (by decide) hB), ap_abG (dx_b hR (by omega) ha hb (by decide) q) (dx_b hR (by omega) ha hb (by decide) hB)]
      · rw [if_neg q, Bool.eq_false_iff.mpr q]
        rfl
  unfold agC agM
  rw [h1]
  exact key n (Nat.le_refl _)
abbrev seH (h : List Ce) (th : Int32) (w ht sd : Nat) (md : Bool) (pl : Nat) (sh : Bool) (sx sy : Int32) (ln : Nat) (hi : Bool) (sX sY : Nat → Int32) : List Ce := hS h [(27, MoO th w ht sd md pl sh sx sy ln hi), (30, IA 48 sX), (31, IA 48 sY)]
theorem mo_agreeing (c_Mo : h[27]? = some (MoO th w ht sd md pl sh sx sy ln hi)) (a_Mo_seenX : h[30]? = some (IA 48 sX)) (a_Mo_seenY : h[31]? = some (IA 48 sY)) (hR : RS Bn wh sX sY) (hn : pl ≤ 12) {a b one : Nat} (ha : a < 4) (hb : b < 4) (hone : one < pl) (hB : bo Bn a b one = true) (tol : Int32) : Do l G k_Mo_agreeing [.ref 28, .int (nI one), .int (nI a), .int (nI b), .int tol] h (ri (nI (agM Bn wh a b one tol pl))) h := by
  refine Do.of (by decide) (Nat.le_of_ble_eq_true rfl) kw_Mo_agreeing ?_
  have hB1 : Bn (one * 4 + a) = true := by unfold bo at hB; rw [Bool.and_eq_true] at hB; exact hB.1
  have hB2 : Bn (one * 4 + b) = true := by unfold bo at hB; rw [Bool.and_eq_true] at hB; exact hB.2
  have loop : ∀ (m p c : Nat), p + m = pl → agM Bn wh a b one tol pl = fori (fun p c => if bo Bn a b p && (decide (apR (dx wh a b 0 p) (dx wh a b 0 one) ≤ tol) && decide (apR (dx wh a b 1 p) (dx wh a b 1 one) ≤ tol)) then c + 1 else c) m p c → V l G k_Mo_agreeing h 6 [(0, .ref 28), (1, .int (nI one)), (2, .int (nI a)), (3, .int (nI b)), (4, .int tol), (5, .int (nI c)), (6, .int (nI p))] [] h (ri (nI (agM Bn wh a b one tol pl))) h := by
    intro m
    induction m with
    | zero =>
      intro p c hp e
      rw [e]
      refine V_iload d_Mo_agreeing_6 rfl ?_
      refine V_aload_n d_Mo_agreeing_8 rfl ?_
      refine V_gf g_Mo_agreeing_9 c_Mo rfl ?_
      refine V_icmp_ge (tgt := 105) d_Mo_agreeing_12 (by decide) (fun _ => ?_) (fun c9 => absurd ((nI_le (by omega) (by omega) : nI pl ≤ nI p)) c9)
      refine V_iload d_Mo_agreeing_105 rfl ?_
      exact V_iret d_Mo_agreeing_107 rfl rfl
    | succ m ih =>
      intro p c hp e
      rw [fori_s] at e
      have fin : ∀ z : Bool, z = (bo Bn a b p && (decide (apR (dx wh a b 0 p) (dx wh a b 0 one) ≤ tol) && decide (apR (dx wh a b 1 p) (dx wh a b 1 one) ≤ tol))) → V l G k_Mo_agreeing h 81 [(0, .ref 28), (1, .int (nI one)), (2, .int (nI a)), (3, .int (nI b)), (4, .int tol), (5, .int (nI c)), (6, .int (nI p))] [.int (bI z)] h (ri (nI (agM Bn wh a b one tol pl))) h := by
        intro z hz
        rw [← hz] at e
        refine V_istore d_Mo_agreeing_81 (by decide) rfl ?_
        refine V_iload d_Mo_agreeing_83 rfl ?_
        refine V_if_eq (tgt := 95) d_Mo_agreeing_85 (by decide) (fun c1 => ?_) (fun c1 => ?_)
        · rw [(bI_0 _).mp c1] at e
          refine V_iload d_Mo_agreeing_95 rfl ?_
          refine V_istore d_Mo_agreeing_97 (by decide) rfl ?_
          refine V_iinc1 d_Mo_agreeing_99 rfl (by decide) rfl ?_
          refine V_goto (tgt := 6) d_Mo_agreeing_102 (by decide) ?_
          rw [nI_1]
          refine V_keep [0, 1, 2, 3, 4, 5, 6] ?_
          exact ih (p + 1) c (by omega) e
        · rw [show z = true by simpa [bI_0] using c1] at e
          refine V_iload d_Mo_agreeing_88 rfl ?_
          refine V_iconst (v := 1) d_Mo_agreeing_90 (by decide) ?_
          refine V_iadd d_Mo_agreeing_91 ?_
          rw [nI_1]
          refine V_goto (tgt := 97) d_Mo_agreeing_92 (by decide) ?_
          refine V_istore d_Mo_agreeing_97 (by decide) rfl ?_
          refine V_iinc1 d_Mo_agreeing_99 rfl (by decide) rfl ?_
          refine V_goto (tgt := 6) d_Mo_agreeing_102 (by decide) ?_
          rw [nI_1]
          refine V_keep [0, 1, 2, 3, 4, 5, 6] ?_
          exact ih (p + 1) (c + 1) (by omega) e
      have no : (bo Bn a b p && (decide (apR (dx wh a b 0 p) (dx wh a b 0 one) ≤ tol) && decide (apR (dx wh a b 1 p) (dx wh a b 1 one) ≤ tol))) = false → V l G k_Mo_agreeing h 80 [(0, .ref 28), (1, .int (nI one)), (2, .int (nI a)), (3, .int (nI b)), (4, .int tol), (5, .int (nI c)), (6, .int (nI p))] [] h (ri (nI (agM Bn wh a b one tol pl))) h := by
        intro z
        refine V_iconst (v := 0) d_Mo_agreeing_80 (by decide) ?_
        exact fin false z.symm
      refine V_iload d_Mo_agreeing_6 rfl ?_
      refine V_aload_n d_Mo_agreeing_8 rfl ?_
      refine V_gf g_Mo_agreeing_9 c_Mo rfl ?_
      refine V_icmp_ge (tgt := 105) d_Mo_agreeing_12 (by decide) (fun c9 => absurd c9 ((nI_ge (by omega) (by omega) : ¬ nI pl ≤ nI p))) (fun _ => ?_)
      refine V_aload_n d_Mo_agreeing_15 rfl ?_
      refine V_iload d_Mo_agreeing_16 rfl ?_
      refine V_iload_n d_Mo_agreeing_18 rfl ?_
      refine V_iload_n d_Mo_agreeing_19 rfl ?_
      refine V_cV s_Mo_agreeing_20 (mo_isBoth c_Mo a_Mo_seenX hR (show p < 12 by omega) ha hb) c_Mo rfl rfl (Nat.le_of_ble_eq_true rfl) ?_
      refine V_if_eq (tgt := 80) d_Mo_agreeing_23 (by decide) (fun c1 => ?_) (fun c1 => ?_)
      · exact no (by rw [show bo Bn a b p = false from (bI_0 _).mp c1]; rfl)
      · have c1' : bo Bn a b p = true := by unfold bo; simpa [bI_0] using c1
        have hA1 : Bn (p * 4 + a) = true := by unfold bo at c1'; rw [Bool.and_eq_true] at c1'; exact c1'.1
        have hA2 : Bn (p * 4 + b) = true := by unfold bo at c1'; rw [Bool.and_eq_true] at c1'; exact c1'.2
        refine V_aload_n d_Mo_agreeing_26 rfl ?_
        refine V_iload d_Mo_agreeing_27 rfl ?_
        refine V_iload_n d_Mo_agreeing_29 rfl ?_
        refine V_iload_n d_Mo_agreeing_30 rfl ?_
        refine V_iconst (v := 0) d_Mo_agreeing_31 (by decide) ?_
        refine V_cV s_Mo_agreeing_32 (mo_between c_Mo a_Mo_seenX a_Mo_seenY hR (p := p) (x := 0) (by omega) ha hb (by decide) hA1 hA2) c_Mo rfl rfl (Nat.le_of_ble_eq_true rfl) ?_
        refine V_aload_n d_Mo_agreeing_35 rfl ?_
        refine V_iload_n d_Mo_agreeing_36 rfl ?_
        refine V_iload_n d_Mo_agreeing_37 rfl ?_
        refine V_iload_n d_Mo_agreeing_38 rfl ?_
        refine V_iconst (v := 0) d_Mo_agreeing_39 (by decide) ?_
        refine V_cV s_Mo_agreeing_40 (mo_between c_Mo a_Mo_seenX a_Mo_seenY hR (p := one) (x := 0) (by omega) ha hb (by decide) hB1 hB2) c_Mo rfl rfl (Nat.le_of_ble_eq_true rfl) ?_
        refine V_cS s_Mo_agreeing_43 (mo_apart (dx wh a b 0 p) (dx wh a b 0 one)) rfl rfl (Nat.le_of_ble_eq_true rfl) ?_
        refine V_iload d_Mo_agreeing_46 rfl ?_
        refine V_icmp_gt (tgt := 80) d_Mo_agreeing_48 (by decide) (fun c2 => ?_) (fun c2 => ?_)
        · exact no (by rw [decide_eq_false (nle_iff.mpr c2), Bool.false_and, Bool.and_false])
        · refine V_aload_n d_Mo_agreeing_51 rfl ?_
          refine V_iload d_Mo_agreeing_52 rfl ?_
          refine V_iload_n d_Mo_agreeing_54 rfl ?_
          refine V_iload_n d_Mo_agreeing_55 rfl ?_
          refine V_iconst (v := 1) d_Mo_agreeing_56 (by decide) ?_
          refine V_cV s_Mo_agreeing_57 (mo_between c_Mo a_Mo_seenX a_Mo_seenY hR (p := p) (x := 1) (by omega) ha hb (by decide) hA1 hA2) c_Mo rfl rfl (Nat.le_of_ble_eq_true rfl) ?_
          refine V_aload_n d_Mo_agreeing_60 rfl ?_
          refine V_iload_n d_Mo_agreeing_61 rfl ?_
          refine V_iload_n d_Mo_agreeing_62 rfl ?_
          refine V_iload_n d_Mo_agreeing_63 rfl ?_
          refine V_iconst (v := 1) d_Mo_agreeing_64 (by decide) ?_
          refine V_cV s_Mo_agreeing_65 (mo_between c_Mo a_Mo_seenX a_Mo_seenY hR (p := one) (x := 1) (by omega) ha hb (by decide) hB1 hB2) c_Mo rfl rfl (Nat.le_of_ble_eq_true rfl) ?_
          refine V_cS s_Mo_agreeing_68 (mo_apart (dx wh a b 1 p) (dx wh a b 1 one)) rfl rfl (Nat.le_of_ble_eq_true rfl) ?_
          refine V_iload d_Mo_agreeing_71 rfl ?_
          refine V_icmp_gt (tgt := 80) d_Mo_agreeing_73 (by decide) (fun c3 => ?_) (fun c3 => ?_)
          · exact no (by rw [decide_eq_false (nle_iff.mpr c3), Bool.and_false, Bool.and_false])
          · refine V_iconst (v := 1) d_Mo_agreeing_76 (by decide) ?_
            refine V_goto (tgt := 81) d_Mo_agreeing_77 (by decide) ?_
            exact fin true (by rw [c1', decide_eq_true (nlt_iff.mp c2), decide_eq_true (nlt_iff.mp c3)]; rfl)
  refine V_iconst (v := 0) d_Mo_agreeing_0 (by decide) ?_
  refine V_istore d_Mo_agreeing_1 (by decide) rfl ?_
  refine V_iconst (v := 0) d_Mo_agreeing_3 (by decide) ?_
  refine V_istore d_Mo_agreeing_4 (by decide) rfl ?_
  exact loop pl 0 0 (by omega) rfl
end P37
