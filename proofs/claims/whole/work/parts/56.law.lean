section P56
/-- both sides as they are made, and the law's row -/
def h46 (w ht sd : Nat) : List Ce := [PmO, PhO w ht, IA (4 * ht * w) zI, SeO w ht false 0 0 0, IA (w * ht) zI, PlO 0 0, ZA 12 zB, ZA 48 zB, IA 96 zI, AgO sd 0 false 0 0, IA 12 zI, IA 12 zI, AdO, IA 24 zI, IA 8 zI, IA 24 zI, IA 8 zI, LeO 0, IA 10 zI, IA 10 zI, IA 10 zI, ReO w ht 0 false, IA (w * ht) zI, IA (w * ht) zI, IA (w * 6) zI, ZA ((w + 2) * (ht + 2)) zB, IA (w * ht) zI, MoO 0 w ht sd false 0 false 0 0 0 false, IA 1600 zI, IA 3 zI, IA 48 nX, IA 48 zI, ZA 12 zB, IA 24 zI, IA 8 zI, IA 24 zI, IA 8 zI, IA 10 zI, IA 10 zI, IA 10 zI, IA 400 zI, IA 400 zI, IA 120 zI, ZA 400 zB, ZA 400 zB, LA (fun _ => 0)]
variable {l : Launch} {G : Gb} {h : List Ce} {w ht sd pl ln : Nat} {th sx sy : Int32} {md sh hi : Bool}
theorem z50 : -50000000 ≤ (0 : Int32).toInt ∧ (0 : Int32).toInt ≤ 50000000 := by decide
theorem inv0 (w ht sd : Nat) : Inv w ht sd 0 false 0 false 0 0 0 false (h46 w ht sd) := by
  refine ⟨Nat.le_refl _, rfl, rfl, ⟨_, rfl⟩, ?_, ?_, ?_, ?_, ?_, ?_, ?_⟩
  · refine ⟨zI, zI, zI, zI, 0, 0, 0, rfl, rfl, rfl, rfl, rfl, rfl, fun p x y _ _ _ => ⟨rfl, 0, by omega, rfl⟩, fun q => by cases q⟩
  · refine ⟨zB, zB, zI, nX, zI, rfl, rfl, rfl, rfl, rfl, rfl, rfl, fun k hk => ⟨?_, fun q => by cases q⟩, fun p _ => rfl, by omega⟩
    have e : nX k = -1 := by
      have := cp_pt (fun _ => -1) zI k 48
      rw [if_pos hk] at this
      exact this
    rw [e]
    rfl
  · exact ⟨0, zI, zI, rfl, rfl, rfl⟩
  · exact ⟨zI, zI, zI, zI, zI, zI, rfl, rfl, rfl, rfl, rfl, rfl, rfl, rfl, rfl, fun k _ => z50, fun k _ => z50, fun k _ => rfl⟩
  · exact ⟨fun _ => 0, fun _ => 0, zI, rfl, rfl, rfl, rfl, rfl, rfl, rfl, by omega, fun i hi9 => by omega, fun i hi9 => by omega⟩
  · exact ⟨0, fun _ => 0, fun _ => 0, zI, zI, zI, zI, zI, zB, zB, zB, rfl, rfl, rfl, rfl, rfl, rfl, rfl, rfl, rfl, rfl, rfl, fun k q => absurd (show false = true from q) (by decide), fun q => absurd q (by decide)⟩
  · intro k c hk hc
    rw [List.getElem?_eq_none (by show 46 ≤ k; exact hk)] at hc
    cases hc
theorem sl_le : ∀ (h : List Ce), (∀ (k : Nat) (c : Ce), h[k]? = some c → sl1 c ≤ 2000) → sl h ≤ 2000 * h.length
  | [], _ => Nat.le_refl _
  | c :: t, hh => by
    have h1 := hh 0 c rfl
    have h2 := sl_le t (fun k c9 hk => hh (k + 1) c9 hk)
    show sl1 c + sl t ≤ 2000 * (t.length + 1)
    omega
theorem Inv_sl (hw : w ≤ 20) (hht : ht ≤ 20) (hI : Inv w ht sd th md pl sh sx sy ln hi h) : sl h ≤ 2000 * h.length := by
  obtain ⟨hn, c0, c27, ⟨z, c45⟩, gA, gB, gC, gD, gE, gF, gX⟩ := hI
  obtain ⟨f, mf, ms, mt, fx, fy, le, a1, a2, a3, a4, a5, a6, -⟩ := gA
  obtain ⟨As, Bn, wh, sX, sY, b1, b2, b3, b4, b5, b6, b7, -⟩ := gB
  obtain ⟨nm, gx, gy, d1, d2, d3⟩ := gC
  obtain ⟨P, O, PB, OB, KP, KO, e1, e2, e3, e4, e5, e6, e7, e8, e9, -⟩ := gD
  obtain ⟨F, T, Ln, g1, g2, g3, g4, g5, g6, g7, -⟩ := gE
  obtain ⟨q0, Dp, Q, Df, C, dD, dF, mC, op, o, M, r1, r2, r3, r4, r5, r6, r7, r8, r9, r10, r11, -⟩ := gF
  have w1 : 4 * ht * w ≤ 2000 := by have := Nat.mul_le_mul (Nat.mul_le_mul_left 4 hht) hw; omega
  have w2 : w * ht ≤ 2000 := by have := Nat.mul_le_mul hw hht; omega
  have w3 : (w + 2) * (ht + 2) ≤ 2000 := by have := Nat.mul_le_mul (show w + 2 ≤ 22 by omega) (show ht + 2 ≤ 22 by omega); omega
  have w4 : w * 6 ≤ 2000 := by omega
  refine sl_le h (fun k c hk => ?_)
  rcases Nat.lt_or_ge k 46 with q | q
  · have key : ∀ {c9 : Ce}, h[k]? = some c9 → sl1 c9 ≤ 2000 → sl1 c ≤ 2000 := fun h1 h2 => by
      rw [h1] at hk
      cases hk
      exact h2
    rcases (show k = 0 ∨ k = 1 ∨ k = 2 ∨ k = 3 ∨ k = 4 ∨ k = 5 ∨ k = 6 ∨ k = 7 ∨ k = 8 ∨ k = 9 ∨ k = 10 ∨ k = 11 ∨ k = 12 ∨ k = 13 ∨ k = 14 ∨ k = 15 ∨ k = 16 ∨ k = 17 ∨ k = 18 ∨ k = 19 ∨ k = 20 ∨ k = 21 ∨ k = 22 ∨ k = 23 ∨ k = 24 ∨ k = 25 ∨ k = 26 ∨ k = 27 ∨ k = 28 ∨ k = 29 ∨ k = 30 ∨ k = 31 ∨ k = 32 ∨ k = 33 ∨ k = 34 ∨ k = 35 ∨ k = 36 ∨ k = 37 ∨ k = 38 ∨ k = 39 ∨ k = 40 ∨ k = 41 ∨ k = 42 ∨ k = 43 ∨ k = 44 ∨ k = 45 by omega) with q9 | q9 | q9 | q9 | q9 | q9 | q9 | q9 | q9 | q9 | q9 | q9 | q9 | q9 | q9 | q9 | q9 | q9 | q9 | q9 | q9 | q9 | q9 | q9 | q9 | q9 | q9 | q9 | q9 | q9 | q9 | q9 | q9 | q9 | q9 | q9 | q9 | q9 | q9 | q9 | q9 | q9 | q9 | q9 | q9 | q9 <;> subst q9
    · exact key c0 (Nat.le_of_ble_eq_true rfl)
    · exact key a1 (Nat.le_of_ble_eq_true rfl)
    · exact key a2 (w1)
    · exact key a3 (Nat.le_of_ble_eq_true rfl)
    · exact key a4 (w2)
    · exact key b1 (Nat.le_of_ble_eq_true rfl)
    · exact key b2 (Nat.le_of_ble_eq_true rfl)
    · exact key b3 (Nat.le_of_ble_eq_true rfl)
    · exact key b4 (Nat.le_of_ble_eq_true rfl)
    · exact key d1 (Nat.le_of_ble_eq_true rfl)
    · exact key d2 (Nat.le_of_ble_eq_true rfl)
    · exact key d3 (Nat.le_of_ble_eq_true rfl)
    · exact key e1 (Nat.le_of_ble_eq_true rfl)
    · exact key e2 (Nat.le_of_ble_eq_true rfl)
    · exact key e3 (Nat.le_of_ble_eq_true rfl)
    · exact key e4 (Nat.le_of_ble_eq_true rfl)
    · exact key e5 (Nat.le_of_ble_eq_true rfl)
    · exact key g1 (Nat.le_of_ble_eq_true rfl)
    · exact key g2 (Nat.le_of_ble_eq_true rfl)
    · exact key g3 (Nat.le_of_ble_eq_true rfl)
    · exact key g4 (Nat.le_of_ble_eq_true rfl)
    · exact key r1 (Nat.le_of_ble_eq_true rfl)
    · exact key r2 (w2)
    · exact key r3 (w2)
    · exact key r4 (w4)
    · exact key r5 (w3)
    · exact key r6 (w2)
    · exact key c27 (Nat.le_of_ble_eq_true rfl)
    · exact key a5 (Nat.le_of_ble_eq_true rfl)
    · exact key a6 (Nat.le_of_ble_eq_true rfl)
    · exact key b5 (Nat.le_of_ble_eq_true rfl)
    · exact key b6 (Nat.le_of_ble_eq_true rfl)
    · exact key b7 (Nat.le_of_ble_eq_true rfl)
    · exact key e6 (Nat.le_of_ble_eq_true rfl)
    · exact key e7 (Nat.le_of_ble_eq_true rfl)
    · exact key e8 (Nat.le_of_ble_eq_true rfl)
    · exact key e9 (Nat.le_of_ble_eq_true rfl)
    · exact key g5 (Nat.le_of_ble_eq_true rfl)
    · exact key g6 (Nat.le_of_ble_eq_true rfl)
    · exact key g7 (Nat.le_of_ble_eq_true rfl)
    · exact key r7 (Nat.le_of_ble_eq_true rfl)
    · exact key r8 (Nat.le_of_ble_eq_true rfl)
    · exact key r9 (Nat.le_of_ble_eq_true rfl)
    · exact key r10 (Nat.le_of_ble_eq_true rfl)
    · exact key r11 (Nat.le_of_ble_eq_true rfl)
    · exact key c45 (Nat.le_of_ble_eq_true rfl)
  · exact gX k c q hk
/-- THE LAW: for every script of at most 2563 ints it ends with true -/
theorem do_law (hNT : NoTr l) (hGL : G.L ≤ 2563) : ∃ h' : List Ce, h'.length ≤ 700 ∧ sl h' ≤ 1400000 ∧ V l G k_La_law [] 0 [(0, .ref 0)] [] [] (rz true) h' := by
  have hL : G.L < 2 ^ 31 := by omega
  obtain ⟨w, hw1, hw2, ew⟩ := clN (if 0 < G.L then G.xs 0 else 0) (show 6 < 20 by decide) (by decide)
  obtain ⟨ht, hh1, hh2, eh⟩ := clN (if 1 < G.L then G.xs 1 else 0) (show 6 < 20 by decide) (by decide)
  obtain ⟨sd, -, hs2, es⟩ := clN (if 2 < G.L then G.xs 2 else 0) (show 0 < 65536 by decide) (by decide)
  obtain ⟨h', th', md', pl', sh', sx', sy', ln', hi', inv, hl, kk⟩ := law_loop (l := l) (G := G) hNT ⟨hw1, hw2⟩ ⟨hh1, hh2⟩ hs2 hGL 513 3 (h46 w ht sd) _ _ _ _ _ _ _ _ (by omega) (by omega) (inv0 w ht sd)
  have hl46 : (h46 w ht sd).length = 46 := rfl
  refine ⟨h', by omega, by have := Inv_sl hw2 hh2 inv; omega, ?_⟩
  have k9 := kk []
  have s3 : V l G k_La_law [] 45 [(0, .ref 0), (1, .ref 1)] [.ref 28] [PmO, PhO w ht, IA (4 * ht * w) zI, SeO w ht false 0 0 0, IA (w * ht) zI, PlO 0 0, ZA 12 zB, ZA 48 zB, IA 96 zI, AgO sd 0 false 0 0, IA 12 zI, IA 12 zI, AdO, IA 24 zI, IA 8 zI, IA 24 zI, IA 8 zI, LeO 0, IA 10 zI, IA 10 zI, IA 10 zI, ReO w ht 0 false, IA (w * ht) zI, IA (w * ht) zI, IA (w * 6) zI, ZA ((w + 2) * (ht + 2)) zB, IA (w * ht) zI, MoO 0 w ht sd false 0 false 0 0 0 false, IA 1600 zI, IA 3 zI, IA 48 nX, IA 48 zI, ZA 12 zB, IA 24 zI, IA 8 zI, IA 24 zI, IA 8 zI, IA 10 zI, IA 10 zI, IA 10 zI, IA 400 zI, IA 400 zI, IA 120 zI, ZA 400 zB, ZA 400 zB] (rz true) h' := by
    refine V_astore_n d_La_law_45 (by decide) rfl ?_
    refine V_iconst (v := 1) d_La_law_46 (by decide) ?_
    refine V_newlN d_La_law_47 tw_al ((⟨rfl, by decide⟩ : (1 : Int32) = nI 1 ∧ _)) ?_
    refine V_astore_n d_La_law_49 (by decide) rfl ?_
    refine V_iconst (v := 3) d_La_law_50 (by decide) ?_
    refine V_istore d_La_law_51 (by decide) rfl ?_
    exact k9
  have s2 : V l G k_La_law [] 22 [(0, .ref 0)] [.ref 1] (x0 w ht sd) (rz true) h' := by
    refine V_astore_n d_La_law_22 (by decide) rfl ?_
    refine V_nw n_La_law_23 ?_
    refine V_eqh (h2 := [PmO, PhO w ht, IA (4 * ht * w) zI, SeO w ht false 0 0 0, IA (w * ht) zI, PlO 0 0, ZA 12 zB, ZA 48 zB, IA 96 zI, AgO sd 0 false 0 0, IA 12 zI, IA 12 zI, AdO, IA 24 zI, IA 8 zI, IA 24 zI, IA 8 zI, LeO 0, IA 10 zI, IA 10 zI, IA 10 zI, ReO w ht 0 false, IA (w * ht) zI, IA (w * ht) zI, IA (w * 6) zI, ZA ((w + 2) * (ht + 2)) zB, IA (w * ht) zI, .inr (8, [.int 0, .int 0, .int 0, .int 0, .null, .int 0, .null, .int 0, .null, .null, .null, .null, .null, .null, .null, .int 0, .int 0, .int 0, .int 0, .null, .null, .null, .int 0, .null, .null, .null, .null, .null])]) rfl ?_
    refine V_dup d_La_law_26 rfl ?_
    refine V_aload_n d_La_law_27 rfl ?_
    refine V_iconst (v := 0) d_La_law_28 (by decide) ?_
    refine V_cS s_La_law_29 (la_cell 0 (by omega) hL) rfl rfl (Nat.le_of_ble_eq_true rfl) ?_
    refine V_aload_n d_La_law_32 rfl ?_
    refine V_iconst (v := 1) d_La_law_33 (by decide) ?_
    refine V_cS s_La_law_34 (la_cell 1 (by omega) hL) rfl rfl (Nat.le_of_ble_eq_true rfl) ?_
    refine V_aload_n d_La_law_37 rfl ?_
    refine V_iconst (v := 2) d_La_law_38 (by decide) ?_
    refine V_cS s_La_law_39 (la_cell 2 (by omega) hL) rfl rfl (Nat.le_of_ble_eq_true rfl) ?_
    refine V_cI s_La_law_42 (mo_init (PmO) (PhO w ht) (IA (4 * ht * w) zI) (SeO w ht false 0 0 0) (IA (w * ht) zI) (PlO 0 0) (ZA 12 zB) (ZA 48 zB) (IA 96 zI) (AgO sd 0 false 0 0) (IA 12 zI) (IA 12 zI) (AdO) (IA 24 zI) (IA 8 zI) (IA 24 zI) (IA 8 zI) (LeO 0) (IA 10 zI) (IA 10 zI) (IA 10 zI) (ReO w ht 0 false) (IA (w * ht) zI) (IA (w * ht) zI) (IA (w * 6) zI) (ZA ((w + 2) * (ht + 2)) zB) (IA (w * ht) zI) _ _ _ ew eh es) rfl rfl (Nat.le_of_ble_eq_true rfl) ?_
    exact s3
  refine V_nw n_La_law_0 ?_
  refine V_dup d_La_law_3 rfl ?_
  refine V_aload_n d_La_law_4 rfl ?_
  refine V_iconst (v := 0) d_La_law_5 (by decide) ?_
  refine V_cS s_La_law_6 (la_cell 0 (by omega) hL) rfl rfl (Nat.le_of_ble_eq_true rfl) ?_
  refine V_aload_n d_La_law_9 rfl ?_
  refine V_iconst (v := 1) d_La_law_10 (by decide) ?_
  refine V_cS s_La_law_11 (la_cell 1 (by omega) hL) rfl rfl (Nat.le_of_ble_eq_true rfl) ?_
  refine V_aload_n d_La_law_14 rfl ?_
  refine V_iconst (v := 2) d_La_law_15 (by decide) ?_
  refine V_cS s_La_law_16 (la_cell 2 (by omega) hL) rfl rfl (Nat.le_of_ble_eq_true rfl) ?_
  refine V_cI s_La_law_19 (do_Pm_init _ _ _ ew eh es hw2 hh2) rfl rfl (Nat.le_of_ble_eq_true rfl) ?_
  exact s2
end P56
