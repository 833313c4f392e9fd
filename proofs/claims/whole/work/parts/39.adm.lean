section P39
theorem ediv_is {a b v : Int} (hb : 0 < b) (h1 : v * b ≤ a) (h2 : a < v * b + b) : a / b = v := by
  have e1 : v ≤ a / b := (Int.le_ediv_iff_mul_le hb).mpr h1
  have e2 : a / b < v + 1 := (Int.ediv_lt_iff_lt_mul hb).mpr (by rw [Int.add_mul, Int.one_mul]; exact h2)
  omega
theorem fl_div {a b : Int} (hb : 0 < b) : (if a.tdiv b * b ≤ a then a.tdiv b else a.tdiv b - 1) = a / b := by
  have h1 := Int.tmod_add_mul_tdiv a b
  have h2 := Int.tmod_lt_of_pos a hb
  have h3 := Int.lt_tmod_of_pos a hb
  rw [Int.mul_comm b] at h1
  split
  · exact (ediv_is hb (by omega) (by omega)).symm
  · exact (ediv_is hb (by rw [Int.sub_mul, Int.one_mul]; omega) (by rw [Int.sub_mul, Int.one_mul]; omega)).symm
theorem tdiv_b {a b M : Int} (hb : 0 < b) (h1 : -M ≤ a) (h2 : a ≤ M) : -M ≤ a.tdiv b ∧ a.tdiv b ≤ M ∧ -M ≤ a.tdiv b * b ∧ a.tdiv b * b ≤ M := by
  have e1 := Int.tmod_add_mul_tdiv a b
  rw [Int.mul_comm b] at e1
  rcases Int.le_total 0 a with q | q
  · have e2 := Int.tmod_nonneg b q
    have e3 : 0 ≤ a.tdiv b := Int.tdiv_nonneg q (by omega)
    have e4 : a.tdiv b ≤ a.tdiv b * b := by
      have := Int.mul_le_mul_of_nonneg_left (show 1 ≤ b by omega) e3
      rw [Int.mul_one] at this; exact this
    omega
  · have e2 := Int.tmod_nonneg b (show 0 ≤ -a by omega)
    have e3 : 0 ≤ (-a).tdiv b := Int.tdiv_nonneg (by omega) (by omega)
    rw [Int.neg_tmod] at e2
    rw [Int.neg_tdiv] at e3
    have e4 : -a.tdiv b ≤ -a.tdiv b * b := by
      have := Int.mul_le_mul_of_nonneg_left (show 1 ≤ b by omega) e3
      rw [Int.mul_one] at this; exact this
    rw [Int.neg_mul] at e4
    omega
/-- as the model rounds down -/
def dnR (a b : Int32) : Int32 := if a / b * b ≤ a then a / b else a / b - 1
theorem dn_toInt {a : Int32} {c : Nat} (hc : 0 < c) (hc2 : c ≤ 12) (h1 : -2000000000 ≤ a.toInt) (h2 : a.toInt ≤ 2000000000) : (dnR a (nI c)).toInt = a.toInt / (c : Int) := by
  have ec : (nI c).toInt = (c : Int) := nI_toInt (by omega)
  have e1 : (a / nI c).toInt = a.toInt.tdiv c := by rw [idv (by omega), ec]
  obtain ⟨b1, b2, b3, b4⟩ := tdiv_b (show 0 < (c : Int) by omega) h1 h2
  have e2 : (a / nI c * nI c).toInt = a.toInt.tdiv c * c := by rw [imul (by rw [e1, ec]; omega) (by rw [e1, ec]; omega), e1, ec]
  rw [← fl_div (show 0 < (c : Int) by omega)]
  unfold dnR
  by_cases q : a / nI c * nI c ≤ a
  · rw [if_pos q, if_pos (by rw [Int32.le_iff_toInt_le, e2] at q; exact q), e1]
  · rw [if_neg q, if_neg (by rw [Int32.le_iff_toInt_le, e2] at q; exact q), isub (by rw [e1]; show _ ≤ _ - (1 : Int); omega) (by rw [e1]; show _ - (1 : Int) < _; omega), e1]
    rfl
theorem xor_sgn (x y : Int64) (hy : 0 ≤ y.toInt) : 0 ≤ (x ^^^ y).toInt ↔ 0 ≤ x.toInt := by
  have e1 : ∀ z : Int64, z.toBitVec.msb = decide (z.toInt < 0) := fun z => BitVec.msb_eq_toInt
  have e2 := e1 (x ^^^ y)
  rw [Int64.toBitVec_xor, BitVec.msb_xor, e1, e1, decide_eq_false (show ¬ y.toInt < 0 by omega), Bool.xor_false] at e2
  have := decide_eq_decide.mp e2
  omega
theorem fd_toInt {t : Int64} {c : Nat} (hc : 0 < c) (hc2 : c ≤ 12) (h1 : -2000000000 ≤ t.toInt) (h2 : t.toInt ≤ 2000000000) : (fdR t (nI c).toInt64).toInt = t.toInt / (c : Int) := by
  have ec : (nI c).toInt64.toInt = (c : Int) := by rw [Int32.toInt_toInt64]; exact nI_toInt (by omega)
  have hc0 : 0 < (c : Int) := by omega
  have e1 : (t / (nI c).toInt64).toInt = t.toInt.tdiv c := by rw [ldv (by omega), ec]
  obtain ⟨b1, b2, b3, b4⟩ := tdiv_b hc0 h1 h2
  have e2 : (t / (nI c).toInt64 * (nI c).toInt64).toInt = t.toInt.tdiv c * c := by rw [lmul (by rw [e1, ec]; omega) (by rw [e1, ec]; omega), e1, ec]
  have g1 := Int.tmod_add_mul_tdiv t.toInt c
  rw [Int.mul_comm (c : Int)] at g1
  have z0 : (0 : Int64).toInt = 0 := rfl
  rw [← fl_div hc0]
  unfold fdR
  by_cases q : 0 ≤ lg_cmp (t ^^^ (nI c).toInt64) 0
  · rw [if_pos q]
    rw [lg_cmp_ge, Int64.le_iff_toInt_le, z0, xor_sgn _ _ (by omega)] at q
    have g2 := Int.tmod_nonneg (c : Int) q
    rw [if_pos (by omega), e1]
  · rw [if_neg q]
    rw [lg_cmp_ge, Int64.le_iff_toInt_le, z0, xor_sgn _ _ (by omega)] at q
    have g2 := Int.tmod_nonneg (c : Int) (show 0 ≤ -t.toInt by omega)
    rw [Int.neg_tmod] at g2
    by_cases q2 : lg_cmp (t / (nI c).toInt64 * (nI c).toInt64) t = 0
    · rw [if_pos q2]
      rw [lg_cmp_eq, ← Int64.toInt_inj, e2] at q2
      rw [if_pos (by omega), e1]
    · rw [if_neg q2]
      rw [lg_cmp_eq, ← Int64.toInt_inj, e2] at q2
      rw [if_neg (by omega), lsub (by rw [e1]; show _ ≤ _ - (1 : Int); omega) (by rw [e1]; show _ - (1 : Int) < _; omega), e1]
      rfl
theorem div_b {a : Int} {c : Nat} {M : Int} (hc : 0 < c) (h1 : -((c : Int) * M) ≤ a) (h2 : a ≤ (c : Int) * M) : -M ≤ a / (c : Int) ∧ a / (c : Int) ≤ M := by
  have hc0 : 0 < (c : Int) := by omega
  constructor
  · exact (Int.le_ediv_iff_mul_le hc0).mpr (by rw [Int.neg_mul, Int.mul_comm]; exact h1)
  · have : a / (c : Int) < M + 1 := (Int.ediv_lt_iff_lt_mul hc0).mpr (by rw [Int.add_mul, Int.one_mul, Int.mul_comm]; omega)
    omega
theorem cM {c : Nat} {M : Int} (hc : c ≤ 12) (hM : 0 ≤ M) : (c : Int) * M ≤ 12 * M := Int.mul_le_mul_of_nonneg_right (by omega) hM
/-- the class's mean is the model's -/
theorem mean_eq {t : Int64} {z d : Int32} {c : Nat} {M : Int} (hc : c ≤ 12) (hM : 0 ≤ M ∧ M ≤ 150000000) (e : z.toInt = t.toInt) (h1 : -((c : Int) * M) ≤ t.toInt) (h2 : t.toInt ≤ (c : Int) * M) : (if c = 0 then d else dnR z (nI c)) = meanR t c d ∧ (0 < c → -M ≤ (meanR t c d).toInt ∧ (meanR t c d).toInt ≤ M) := by
  have b := cM hc hM.1
  unfold meanR
  by_cases q : c = 0
  · rw [if_pos q, if_pos q]
    exact ⟨rfl, fun z => by omega⟩
  · rw [if_neg q, if_neg q]
    have f := fd_toInt (t := t) (c := c) (by omega) hc (by omega) (by omega)
    have g := dn_toInt (a := z) (c := c) (by omega) hc (by omega) (by omega)
    have d1 := div_b (c := c) (M := M) (by omega) h1 h2
    have f2 : (fdR t (nI c).toInt64).toInt32.toInt = t.toInt / (c : Int) := by rw [l2i (by rw [f]; omega) (by rw [f]; omega), f]
    exact ⟨Int32.toInt_inj.mp (by rw [g, f2, e]), fun _ => by rw [f2]; exact d1⟩
def bd (f : Nat → Int32) (N : Nat) (B : Int) : Prop := ∀ k, k < N → -B ≤ (f k).toInt ∧ (f k).toInt ≤ B
theorem wh_n {Bn : Nat → Bool} {wh sX sY : Nat → Int32} (hR : RS Bn wh sX sY) {p q x : Nat} (hp : p < 12) (hq : q < 4) (hx : x < 2) (hB : Bn (p * 4 + q) = true) : ∃ i : Nat, i ≤ 999 ∧ wh ((p * 4 + q) * 2 + x) = nI i := by
  obtain ⟨i, j, h1, h2, -, -, e3, e4⟩ := (hR (p * 4 + q) (by omega)).2 hB
  rcases (show x = 0 ∨ x = 1 by omega) with z | z <;> subst z
  · exact ⟨i, h1, e3⟩
  · exact ⟨j, h2, e4⟩
theorem k32 {i : Nat} (hi : i ≤ 999) : (1000 * nI i).toInt = 1000 * (i : Int) := by
  rw [imul (by rw [nI_toInt (by omega)]; show _ ≤ (1000 : Int) * _; omega) (by rw [nI_toInt (by omega)]; show (1000 : Int) * _ < _; omega), nI_toInt (by omega)]
  rfl
theorem k64 {i : Nat} (hi : i ≤ 999) : (1000 * (nI i).toInt64).toInt = 1000 * (i : Int) := by
  rw [lmul (by rw [Int32.toInt_toInt64, nI_toInt (by omega)]; show _ ≤ (1000 : Int) * _; omega) (by rw [Int32.toInt_toInt64, nI_toInt (by omega)]; show (1000 : Int) * _ < _; omega), Int32.toInt_toInt64, nI_toInt (by omega)]
  rfl
/-- one more seen place in the two sums -/
theorem acc_eq {i c : Nat} {t : Int64} {z p : Int32} {B : Int} (hi : i ≤ 999) (hc : c < 12) (hB : 0 ≤ B ∧ B ≤ 100000000) (hp : -B ≤ p.toInt ∧ p.toInt ≤ B) (e : z.toInt = t.toInt) (h1 : -((c : Int) * (999000 + B)) ≤ t.toInt) (h2 : t.toInt ≤ (c : Int) * (999000 + B)) : (z + 1000 * nI i - p).toInt = (t + (1000 * (nI i).toInt64 - p.toInt64)).toInt ∧ -(((c + 1 : Nat) : Int) * (999000 + B)) ≤ (t + (1000 * (nI i).toInt64 - p.toInt64)).toInt ∧ (t + (1000 * (nI i).toInt64 - p.toInt64)).toInt ≤ ((c + 1 : Nat) : Int) * (999000 + B) := by
  have b := cM (c := c) (M := 999000 + B) (by omega) (by omega)
  have k1 := k32 hi
  have k2 := k64 hi
  have e1 : (z + 1000 * nI i).toInt = z.toInt + 1000 * (i : Int) := by rw [iadd (by omega) (by omega), k1]
  have e2 : (z + 1000 * nI i - p).toInt = z.toInt + 1000 * (i : Int) - p.toInt := by rw [isub (by omega) (by omega), e1]
  have e3 : (1000 * (nI i).toInt64 - p.toInt64).toInt = 1000 * (i : Int) - p.toInt := by rw [lsub (by rw [Int32.toInt_toInt64]; omega) (by rw [Int32.toInt_toInt64]; omega), k2, Int32.toInt_toInt64]
  have e4 : (t + (1000 * (nI i).toInt64 - p.toInt64)).toInt = t.toInt + (1000 * (i : Int) - p.toInt) := by rw [ladd (by omega) (by omega), e3]
  have e5 : ((c + 1 : Nat) : Int) * (999000 + B) = (c : Int) * (999000 + B) + (999000 + B) := by
    rw [show ((c + 1 : Nat) : Int) = (c : Int) + 1 by omega, Int.add_mul, Int.one_mul]
  omega
theorem off_eq {i : Nat} {p o : Int32} (hi : i ≤ 999) (hp : -100000000 ≤ p.toInt ∧ p.toInt ≤ 100000000) (ho : -100000000 ≤ o.toInt ∧ o.toInt ≤ 100000000) : (1000 * nI i - p - o).toInt64 = offL (nI i) p o := by
  have k1 := k32 hi
  have k2 := k64 hi
  have e1 : (1000 * nI i - p).toInt = 1000 * (i : Int) - p.toInt := by rw [isub (by omega) (by omega), k1]
  have e2 : (1000 * (nI i).toInt64 - p.toInt64).toInt = 1000 * (i : Int) - p.toInt := by rw [lsub (by rw [Int32.toInt_toInt64]; omega) (by rw [Int32.toInt_toInt64]; omega), k2, Int32.toInt_toInt64]
  unfold offL
  rw [← Int64.toInt_inj, Int32.toInt_toInt64, isub (by omega) (by omega), lsub (by rw [Int32.toInt_toInt64]; omega) (by rw [Int32.toInt_toInt64]; omega), e1, e2, Int32.toInt_toInt64]
/-- two loops, one in the other, as one loop -/
theorem flat2 {σ : Type} (f : Nat → Nat → σ → σ) : ∀ (n i : Nat) (s : σ), fori (fun p s => fori (fun x s => f p x s) 2 0 s) n i s = fori (fun k s => f (k / 2) (k % 2) s) (2 * n) (2 * i) s
  | 0, i, s => rfl
  | n + 1, i, s => by
    rw [fori_s, flat2 f n, show 2 * (n + 1) = 2 * n + 1 + 1 by omega, fori_s (fun k s => f (k / 2) (k % 2) s), fori_s (fun k s => f (k / 2) (k % 2) s), show 2 * i + 1 + 1 = 2 * (i + 1) by omega]
    show fori _ _ _ (f i 1 (f i 0 s)) = fori _ _ _ (f ((2 * i + 1) / 2) ((2 * i + 1) % 2) (f (2 * i / 2) (2 * i % 2) s))
    rw [show (2 * i + 1) / 2 = i by omega, show (2 * i + 1) % 2 = 1 by omega, show 2 * i / 2 = i by omega, show 2 * i % 2 = 0 by omega]
theorem sh_flat (Bn : Nat → Bool) (wh P O : Nat → Int32) (p : Nat) : shR Bn wh P O p = fori (fun k t => if Bn (p * 4 + k / 2) then shS wh P O p (k / 2) (k % 2) t else t) 8 0 0 := by
  have e := flat2 (fun q x t => if Bn (p * 4 + q) then shS wh P O p q x t else t) 4 0 (0 : Int64)
  rw [show 2 * 4 = 8 from rfl, show 2 * 0 = 0 from rfl] at e
  rw [← e]
  unfold shR
  refine fori_congr 4 0 0 (fun q s _ _ => ?_)
  unfold shQ
  cases Bn (p * 4 + q) <;> rfl
theorem d2 {k : Nat} (hk : k < 100) : nI k / 2 = nI (k / 2) := by rw [show (2 : Int32) = nI 2 from rfl, pk_div (by omega) (by decide) (by decide)]
theorem r2 {k : Nat} (hk : k < 100) : nI k - nI k / 2 * 2 = nI (k % 2) := by rw [show (2 : Int32) = nI 2 from rfl, pk_rem (by omega) (by decide) (by decide)]
theorem ix24 {p x : Nat} (hp : p < 12) (hx : x < 2) : Ix (2 * nI p + nI x) (p * 2 + x) 24 := ⟨by rw [show (2 : Int32) = nI 2 from rfl, pk_mul, nI_add, Nat.mul_comm], by omega, by decide⟩
theorem ix8 {p x : Nat} (hp : p < 4) (hx : x < 2) : Ix (2 * nI p + nI x) (p * 2 + x) 8 := ⟨by rw [show (2 : Int32) = nI 2 from rfl, pk_mul, nI_add, Nat.mul_comm], by omega, by decide⟩
variable {l : Launch} {G : Gb} {h h0 h' : List Ce} {r : Rs} {th sx sy : Int32} {w ht sd pl ln : Nat} {md sh hi : Bool} {sX sY wh P O : Nat → Int32} {Bn As : Nat → Bool}
theorem mo_down (a b : Int32) (hb : ¬ b = 0) : Do l G k_Mo_down [.int a, .int b] h (ri (dnR a b)) h := by
  refine Do.of (by decide) (Nat.le_of_ble_eq_true rfl) kw_Mo_down ?_
  refine V_iload_n d_Mo_down_0 rfl ?_
  refine V_iload_n d_Mo_down_1 rfl ?_
  refine V_idiv d_Mo_down_2 (hb) ?_
  refine V_istore_n d_Mo_down_3 (by decide) rfl ?_
  refine V_iload_n d_Mo_down_4 rfl ?_
  refine V_iload_n d_Mo_down_5 rfl ?_
  refine V_imul d_Mo_down_6 ?_
  refine V_iload_n d_Mo_down_7 rfl ?_
  refine V_icmp_le (tgt := 17) d_Mo_down_8 (by decide) (fun c1 => ?_) (fun c1 => ?_)
  · rw [dnR, if_pos c1]
    refine V_iload_n d_Mo_down_17 rfl ?_
    exact V_iret d_Mo_down_18 rfl rfl
  · rw [dnR, if_neg c1]
    refine V_iload_n d_Mo_down_11 rfl ?_
    refine V_iconst (v := 1) d_Mo_down_12 (by decide) ?_
    refine V_isub d_Mo_down_13 ?_
    refine V_goto (tgt := 18) d_Mo_down_14 (by decide) ?_
    exact V_iret d_Mo_down_18 rfl rfl
theorem mo_missed (c_Mo : h[27]? = some (MoO th w ht sd md pl sh sx sy ln hi)) (a_Mo_seenX : h[30]? = some (IA 48 sX)) (a_Mo_seenY : h[31]? = some (IA 48 sY)) (a_Mo_positions : h[33]? = some (IA 24 P)) (a_Mo_offsets : h[34]? = some (IA 8 O)) (hR : RS Bn wh sX sY) (hP : bd P 24 100000000) (hO : bd O 8 100000000) {p : Nat} (hp : p < 12) : Do l G k_Mo_missed [.ref 28, .int (nI p)] h (rl (shR Bn wh P O p)) h := by
  refine Do.of (by decide) (Nat.le_of_ble_eq_true rfl) kw_Mo_missed ?_
  have loop : ∀ (m k : Nat) (t : Int64), k + m = 8 → shR Bn wh P O p = fori (fun k t => if Bn (p * 4 + k / 2) then shS wh P O p (k / 2) (k % 2) t else t) m k t → V l G k_Mo_missed h 5 [(0, .ref 28), (1, .int (nI p)), (2, .long t), (4, .int (nI k))] [] h (rl (shR Bn wh P O p)) h := by
    intro m
    induction m with
    | zero =>
      intro k t hk e
      obtain rfl : k = 8 := by omega
      rw [e]
      refine V_iload d_Mo_missed_5 rfl ?_
      refine V_bipush (v := 8) d_Mo_missed_7 (by decide) ?_
      refine V_icmp_ge (tgt := 85) d_Mo_missed_9 (by decide) (fun _ => ?_) (fun c9 => absurd ((by decide : (8 : Int32) ≤ nI 8)) c9)
      refine V_lload_n d_Mo_missed_85 rfl ?_
      exact V_lret d_Mo_missed_86 rfl
    | succ m ih =>
      intro k t hk e
      rw [fori_s] at e
      have hq : k / 2 < 4 := by omega
      have hx : k % 2 < 2 := by omega
      refine V_iload d_Mo_missed_5 rfl ?_
      refine V_bipush (v := 8) d_Mo_missed_7 (by decide) ?_
      refine V_icmp_ge (tgt := 85) d_Mo_missed_9 (by decide) (fun c9 => absurd c9 ((nI_ge (b := 8) (by omega) (by decide) : ¬ (8 : Int32) ≤ nI k))) (fun _ => ?_)
      refine V_iload d_Mo_missed_12 rfl ?_
      refine V_iconst (v := 2) d_Mo_missed_14 (by decide) ?_
      refine V_idiv d_Mo_missed_15 (by decide) ?_
      refine V_istore d_Mo_missed_16 (by decide) rfl ?_
      refine V_iload d_Mo_missed_18 rfl ?_
      refine V_iconst (v := 2) d_Mo_missed_20 (by decide) ?_
      refine V_irem d_Mo_missed_21 (by decide) ?_
      rw [r2 (by omega), d2 (by omega)]
      refine V_istore d_Mo_missed_22 (by decide) rfl ?_
      refine V_aload_n d_Mo_missed_24 rfl ?_
      refine V_iload_n d_Mo_missed_25 rfl ?_
      refine V_iload d_Mo_missed_26 rfl ?_
      refine V_cV s_Mo_missed_28 (mo_isSeen c_Mo a_Mo_seenX hR hp hq) c_Mo rfl rfl (Nat.le_of_ble_eq_true rfl) ?_
      refine V_if_eq (tgt := 79) d_Mo_missed_31 (by decide) (fun c1 => ?_) (fun c1 => ?_)
      · rw [if_neg (by rw [(bI_0 _).mp c1]; decide)] at e
        refine V_iinc1 d_Mo_missed_79 rfl (by decide) rfl ?_
        refine V_goto (tgt := 5) d_Mo_missed_82 (by decide) ?_
        rw [nI_1]
        refine V_keep [0, 1, 2, 4] ?_
        exact ih (k + 1) _ (by omega) e
      · have c1' : Bn (p * 4 + k / 2) = true := by simpa [bI_0] using c1
        rw [if_pos c1'] at e
        obtain ⟨i, hi9, ei⟩ := wh_n hR hp hq hx c1'
        refine V_aload_n d_Mo_missed_34 rfl ?_
        refine V_iload_n d_Mo_missed_35 rfl ?_
        refine V_iload d_Mo_missed_36 rfl ?_
        refine V_iload d_Mo_missed_38 rfl ?_
        refine V_cV s_Mo_missed_40 (mo_where c_Mo a_Mo_seenX a_Mo_seenY hR hp hq hx c1') c_Mo rfl rfl (Nat.le_of_ble_eq_true rfl) ?_
        refine V_aload_n d_Mo_missed_43 rfl ?_
        refine V_gf g_Mo_missed_44 c_Mo rfl ?_
        refine V_iconst (v := 2) d_Mo_missed_47 (by decide) ?_
        refine V_iload_n d_Mo_missed_48 rfl ?_
        refine V_imul d_Mo_missed_49 ?_
        refine V_iload d_Mo_missed_50 rfl ?_
        refine V_iadd d_Mo_missed_52 ?_
        refine V_ialdN d_Mo_missed_53 a_Mo_positions (ix24 hp hx) ?_
        refine V_isub d_Mo_missed_54 ?_
        refine V_aload_n d_Mo_missed_55 rfl ?_
        refine V_gf g_Mo_missed_56 c_Mo rfl ?_
        refine V_iconst (v := 2) d_Mo_missed_59 (by decide) ?_
        refine V_iload d_Mo_missed_60 rfl ?_
        refine V_imul d_Mo_missed_62 ?_
        refine V_iload d_Mo_missed_63 rfl ?_
        refine V_iadd d_Mo_missed_65 ?_
        refine V_ialdN d_Mo_missed_66 a_Mo_offsets (ix8 hq hx) ?_
        refine V_isub d_Mo_missed_67 ?_
        refine V_i2l d_Mo_missed_68 ?_
        rw [show (1000 * wh ((p * 4 + k / 2) * 2 + k % 2) - P (p * 2 + k % 2) - O (k / 2 * 2 + k % 2)).toInt64 = offL (wh ((p * 4 + k / 2) * 2 + k % 2)) (P (p * 2 + k % 2)) (O (k / 2 * 2 + k % 2)) by rw [ei]; exact off_eq hi9 (hP _ (by omega)) (hO _ (by omega))]
        refine V_lstore d_Mo_missed_69 (by decide) rfl ?_
        refine V_lload_n d_Mo_missed_71 rfl ?_
        refine V_lload d_Mo_missed_72 rfl ?_
        refine V_lload d_Mo_missed_74 rfl ?_
        refine V_lmul d_Mo_missed_76 ?_
        refine V_ladd d_Mo_missed_77 ?_
        refine V_lstore_n d_Mo_missed_78 (by decide) rfl ?_
        refine V_iinc1 d_Mo_missed_79 rfl (by decide) rfl ?_
        refine V_goto (tgt := 5) d_Mo_missed_82 (by decide) ?_
        rw [nI_1]
        refine V_keep [0, 1, 2, 4] ?_
        exact ih (k + 1) _ (by omega) e
  refine V_lconst (v := 0) d_Mo_missed_0 (by decide) ?_
  refine V_lstore_n d_Mo_missed_1 (by decide) rfl ?_
  refine V_iconst (v := 0) d_Mo_missed_2 (by decide) ?_
  refine V_istore d_Mo_missed_3 (by decide) rfl ?_
  exact loop 8 0 0 (by omega) (sh_flat Bn wh P O p)
theorem mo_all (c_Mo : h[27]? = some (MoO th w ht sd md pl sh sx sy ln hi)) (a_Mo_seenX : h[30]? = some (IA 48 sX)) (a_Mo_seenY : h[31]? = some (IA 48 sY)) (a_Mo_spares : h[32]? = some (ZA 12 As)) (a_Mo_positions : h[33]? = some (IA 24 P)) (a_Mo_offsets : h[34]? = some (IA 8 O)) (hR : RS Bn wh sX sY) (hP : bd P 24 100000000) (hO : bd O 8 100000000) (hn : pl ≤ 12) : Do l G k_Mo_all [.ref 28] h (rl (toR As Bn wh P O pl)) h := by
  refine Do.of (by decide) (Nat.le_of_ble_eq_true rfl) kw_Mo_all ?_
  have loop : ∀ (m p : Nat) (t : Int64), p + m = pl → toR As Bn wh P O pl = fori (fun p t => if As p then t else t + shR Bn wh P O p) m p t → V l G k_Mo_all h 4 [(0, .ref 28), (1, .long t), (3, .int (nI p))] [] h (rl (toR As Bn wh P O pl)) h := by
    intro m
    induction m with
    | zero =>
      intro p t hp e
      rw [e]
      refine V_iload_n d_Mo_all_4 rfl ?_
      refine V_aload_n d_Mo_all_5 rfl ?_
      refine V_gf g_Mo_all_6 c_Mo rfl ?_
      refine V_icmp_ge (tgt := 39) d_Mo_all_9 (by decide) (fun _ => ?_) (fun c9 => absurd ((nI_le (by omega) (by omega) : nI pl ≤ nI p)) c9)
      refine V_lload_n d_Mo_all_39 rfl ?_
      exact V_lret d_Mo_all_40 rfl
    | succ m ih =>
      intro p t hp e
      rw [fori_s] at e
      refine V_iload_n d_Mo_all_4 rfl ?_
      refine V_aload_n d_Mo_all_5 rfl ?_
      refine V_gf g_Mo_all_6 c_Mo rfl ?_
      refine V_icmp_ge (tgt := 39) d_Mo_all_9 (by decide) (fun c9 => absurd c9 ((nI_ge (by omega) (by omega) : ¬ nI pl ≤ nI p))) (fun _ => ?_)
      refine V_aload_n d_Mo_all_12 rfl ?_
      refine V_gf g_Mo_all_13 c_Mo rfl ?_
      refine V_iload_n d_Mo_all_16 rfl ?_
      refine V_zaldN d_Mo_all_17 a_Mo_spares (Ix.of (show p < 12 by omega) (by decide)) ?_
      refine V_if_eq (tgt := 25) d_Mo_all_18 (by decide) (fun c1 => ?_) (fun c1 => ?_)
      · rw [if_neg (by rw [(bI_0 _).mp c1]; decide)] at e
        refine V_lload_n d_Mo_all_25 rfl ?_
        refine V_aload_n d_Mo_all_26 rfl ?_
        refine V_iload_n d_Mo_all_27 rfl ?_
        refine V_cV s_Mo_all_28 (mo_missed c_Mo a_Mo_seenX a_Mo_seenY a_Mo_positions a_Mo_offsets hR hP hO (show p < 12 by omega)) c_Mo rfl rfl (Nat.le_of_ble_eq_true rfl) ?_
        refine V_ladd d_Mo_all_31 ?_
        refine V_lstore_n d_Mo_all_32 (by decide) rfl ?_
        refine V_iinc1 d_Mo_all_33 rfl (by decide) rfl ?_
        refine V_goto (tgt := 4) d_Mo_all_36 (by decide) ?_
        rw [nI_1]
        exact ih (p + 1) _ (by omega) e
      · rw [if_pos (show As p = true by simpa [bI_0] using c1)] at e
        refine V_lload_n d_Mo_all_21 rfl ?_
        refine V_goto (tgt := 32) d_Mo_all_22 (by decide) ?_
        refine V_lstore_n d_Mo_all_32 (by decide) rfl ?_
        refine V_iinc1 d_Mo_all_33 rfl (by decide) rfl ?_
        refine V_goto (tgt := 4) d_Mo_all_36 (by decide) ?_
        rw [nI_1]
        exact ih (p + 1) _ (by omega) e
  refine V_lconst (v := 0) d_Mo_all_0 (by decide) ?_
  refine V_lstore_n d_Mo_all_1 (by decide) rfl ?_
  refine V_iconst (v := 0) d_Mo_all_2 (by decide) ?_
  refine V_istore_n d_Mo_all_3 (by decide) rfl ?_
  exact loop pl 0 0 (by omega) rfl
theorem mp_inv (hR : RS Bn wh sX sY) {B : Int} (hB : 0 ≤ B ∧ B ≤ 100000000) (hP : bd P 24 B) (hn : pl ≤ 12) {q x : Nat} (hq : q < 4) (hx : x < 2) : (fori (mpS As Bn wh P q x) pl 0 (0, 0)).2 ≤ pl ∧ -(((fori (mpS As Bn wh P q x) pl 0 (0, 0)).2 : Int) * (999000 + B)) ≤ (fori (mpS As Bn wh P q x) pl 0 (0, 0)).1.toInt ∧ (fori (mpS As Bn wh P q x) pl 0 (0, 0)).1.toInt ≤ ((fori (mpS As Bn wh P q x) pl 0 (0, 0)).2 : Int) * (999000 + B) := by
  have inv := fori_inv (f := mpS As Bn wh P q x) (fun p s => s.2 ≤ p ∧ -((s.2 : Int) * (999000 + B)) ≤ s.1.toInt ∧ s.1.toInt ≤ (s.2 : Int) * (999000 + B)) pl 0 (0, 0) (fun p s _ hp hs => by
    obtain ⟨h1, h2, h3⟩ := hs
    by_cases c : (!As p && Bn (p * 4 + q)) = true
    · have c2 : Bn (p * 4 + q) = true := by rw [Bool.and_eq_true] at c; exact c.2
      obtain ⟨i, hi9, ei⟩ := wh_n hR (show p < 12 by omega) hq hx c2
      have e : mpS As Bn wh P q x p s = (s.1 + (1000 * (wh ((p * 4 + q) * 2 + x)).toInt64 - (P (p * 2 + x)).toInt64), s.2 + 1) := by unfold mpS; rw [if_pos c]
      rw [e, ei]
      have z9 : ∃ z : Int32, z.toInt = s.1.toInt := by
        have b := cM (c := s.2) (M := 999000 + B) (by omega) (by omega)
        exact ⟨s.1.toInt32, l2i (by omega) (by omega)⟩
      obtain ⟨z, hz⟩ := z9
      have := acc_eq (p := P (p * 2 + x)) hi9 (show s.2 < 12 by omega) hB (hP _ (by omega)) hz h2 h3
      exact ⟨by show s.2 + 1 ≤ p + 1; omega, this.2⟩
    · have e : mpS As Bn wh P q x p s = s := by unfold mpS; rw [if_neg c]
      rw [e]
      exact ⟨by omega, h2, h3⟩) ⟨Nat.le_refl _, by simp, by simp⟩
  rw [Nat.zero_add] at inv
  exact inv
theorem mp_b (hR : RS Bn wh sX sY) {B : Int} (hB : 0 ≤ B ∧ B ≤ 100000000) (hP : bd P 24 B) (hn : pl ≤ 12) {q x : Nat} (hq : q < 4) (hx : x < 2) : (-(999000 + B) ≤ (mpR As Bn wh P O pl q x (q * 2 + x)).toInt ∧ (mpR As Bn wh P O pl q x (q * 2 + x)).toInt ≤ 999000 + B ∨ mpR As Bn wh P O pl q x (q * 2 + x) = O (q * 2 + x)) := by
  have inv := mp_inv (As := As) hR hB hP hn hq hx
  generalize hF : fori (mpS As Bn wh P q x) pl 0 (0, 0) = F at inv
  obtain ⟨i1, i2, i3⟩ := inv
  have eR : mpR As Bn wh P O pl q x = upd O (q * 2 + x) (meanR F.1 F.2 (O (q * 2 + x))) := by unfold mpR; rw [hF]
  rw [eR]
  have e9 : upd O (q * 2 + x) (meanR F.1 F.2 (O (q * 2 + x))) (q * 2 + x) = meanR F.1 F.2 (O (q * 2 + x)) := if_pos rfl
  rw [e9]
  rcases Nat.eq_zero_or_pos F.2 with c | c
  · right
    unfold meanR
    rw [if_pos c]
  · left
    have b := cM (c := F.2) (M := 999000 + B) (by omega) (by omega)
    exact (mean_eq (z := F.1.toInt32) (d := O (q * 2 + x)) (by omega) (M := 999000 + B) (by omega) (l2i (by omega) (by omega)) i2 i3).2 c
theorem mo_move (c_Mo : h[27]? = some (MoO th w ht sd md pl sh sx sy ln hi)) (a_Mo_seenX : h[30]? = some (IA 48 sX)) (a_Mo_seenY : h[31]? = some (IA 48 sY)) (a_Mo_spares : h[32]? = some (ZA 12 As)) (a_Mo_positions : h[33]? = some (IA 24 P)) (a_Mo_offsets : h[34]? = some (IA 8 O)) (hR : RS Bn wh sX sY) {B : Int} (hB : 0 ≤ B ∧ B ≤ 100000000) (hP : bd P 24 B) (hn : pl ≤ 12) {q x : Nat} (hq : q < 4) (hx : x < 2) : Do l G k_Mo_move [.ref 28, .int (nI q), .int (nI x)] h rv (h.set 34 (IA 8 (mpR As Bn wh P O pl q x))) := by
  generalize hF : fori (mpS As Bn wh P q x) pl 0 (0, 0) = F
  have eR : mpR As Bn wh P O pl q x = upd O (q * 2 + x) (meanR F.1 F.2 (O (q * 2 + x))) := by unfold mpR; rw [hF]
  rw [eR]
  refine Do.of (by decide) (Nat.le_of_ble_eq_true rfl) kw_Mo_move ?_
  have loop : ∀ (m p : Nat) (s : Ac) (z : Int32), p + m = pl → s.2 ≤ p → z.toInt = s.1.toInt → -((s.2 : Int) * (999000 + B)) ≤ s.1.toInt → s.1.toInt ≤ (s.2 : Int) * (999000 + B) → F = fori (mpS As Bn wh P q x) m p s → V l G k_Mo_move h 8 [(0, .ref 28), (1, .int (nI q)), (2, .int (nI x)), (3, .int (nI s.2)), (4, .int z), (5, .int (nI p))] [] h rv (h.set 34 (IA 8 (upd O (q * 2 + x) (meanR F.1 F.2 (O (q * 2 + x)))))) := by
    intro m
    induction m with
    | zero =>
      intro p s z hp h1 h2 h3 h4 e
      rw [show F = s from e]
      have me := (mean_eq (d := O (q * 2 + x)) (show s.2 ≤ 12 by omega) (M := 999000 + B) (by omega) h2 h3 h4).1
      refine V_iload d_Mo_move_8 rfl ?_
      refine V_aload_n d_Mo_move_10 rfl ?_
      refine V_gf g_Mo_move_11 c_Mo rfl ?_
      refine V_icmp_ge (tgt := 71) d_Mo_move_14 (by decide) (fun _ => ?_) (fun c9 => absurd ((nI_le (by omega) (by omega) : nI pl ≤ nI p)) c9)
      refine V_aload_n d_Mo_move_71 rfl ?_
      refine V_gf g_Mo_move_72 c_Mo rfl ?_
      refine V_iconst (v := 2) d_Mo_move_75 (by decide) ?_
      refine V_iload_n d_Mo_move_76 rfl ?_
      refine V_imul d_Mo_move_77 ?_
      refine V_iload_n d_Mo_move_78 rfl ?_
      refine V_iadd d_Mo_move_79 ?_
      refine V_iload_n d_Mo_move_80 rfl ?_
      rcases Nat.eq_zero_or_pos s.2 with c | c
      · refine V_if_ne (tgt := 97) d_Mo_move_81 (by decide) (fun c9 => absurd ((by rw [c]; decide)) c9) (fun _ => ?_)
        rw [if_pos c] at me
        rw [← me]
        refine V_aload_n d_Mo_move_84 rfl ?_
        refine V_gf g_Mo_move_85 c_Mo rfl ?_
        refine V_iconst (v := 2) d_Mo_move_88 (by decide) ?_
        refine V_iload_n d_Mo_move_89 rfl ?_
        refine V_imul d_Mo_move_90 ?_
        refine V_iload_n d_Mo_move_91 rfl ?_
        refine V_iadd d_Mo_move_92 ?_
        refine V_ialdN d_Mo_move_93 a_Mo_offsets (ix8 hq hx) ?_
        refine V_goto (tgt := 103) d_Mo_move_94 (by decide) ?_
        refine V_iastN d_Mo_move_103 a_Mo_offsets (ix8 hq hx) ?_
        exact V_vret d_Mo_move_104 rfl
      · refine V_if_ne (tgt := 97) d_Mo_move_81 (by decide) (fun _ => ?_) (fun c9 => absurd (c9 : _) ((nI_ne0 c (by omega))))
        rw [if_neg (by omega)] at me
        rw [← me]
        refine V_iload d_Mo_move_97 rfl ?_
        refine V_iload_n d_Mo_move_99 rfl ?_
        refine V_cS s_Mo_move_100 (mo_down z (nI s.2) (nI_ne0 c (by omega))) rfl rfl (Nat.le_of_ble_eq_true rfl) ?_
        refine V_iastN d_Mo_move_103 a_Mo_offsets (ix8 hq hx) ?_
        exact V_vret d_Mo_move_104 rfl
    | succ m ih =>
      intro p s z hp h1 h2 h3 h4 e
      rw [fori_s] at e
      have skip : mpS As Bn wh P q x p s = s → V l G k_Mo_move h 65 [(0, .ref 28), (1, .int (nI q)), (2, .int (nI x)), (3, .int (nI s.2)), (4, .int z), (5, .int (nI p))] [] h rv (h.set 34 (IA 8 (upd O (q * 2 + x) (meanR F.1 F.2 (O (q * 2 + x)))))) := by
        intro e2
        rw [e2] at e
        refine V_iinc1 d_Mo_move_65 rfl (by decide) rfl ?_
        refine V_goto (tgt := 8) d_Mo_move_68 (by decide) ?_
        rw [nI_1]
        exact ih (p + 1) s z (by omega) (by omega) h2 h3 h4 e
      refine V_iload d_Mo_move_8 rfl ?_
      refine V_aload_n d_Mo_move_10 rfl ?_
      refine V_gf g_Mo_move_11 c_Mo rfl ?_
      refine V_icmp_ge (tgt := 71) d_Mo_move_14 (by decide) (fun c9 => absurd c9 ((nI_ge (by omega) (by omega) : ¬ nI pl ≤ nI p))) (fun _ => ?_)
      refine V_aload_n d_Mo_move_17 rfl ?_
      refine V_gf g_Mo_move_18 c_Mo rfl ?_
      refine V_iload d_Mo_move_21 rfl ?_
      refine V_zaldN d_Mo_move_23 a_Mo_spares (Ix.of (show p < 12 by omega) (by decide)) ?_
      refine V_if_ne (tgt := 65) d_Mo_move_24 (by decide) (fun c1 => ?_) (fun c1 => ?_)
      · exact skip (by unfold mpS; rw [if_neg]; rw [show As p = true by simpa [bI_0] using c1]; simp)
      · have c1' : As p = false := by simpa [bI_0] using c1
        refine V_aload_n d_Mo_move_27 rfl ?_
        refine V_iload d_Mo_move_28 rfl ?_
        refine V_iload_n d_Mo_move_30 rfl ?_
        refine V_cV s_Mo_move_31 (mo_isSeen c_Mo a_Mo_seenX hR (show p < 12 by omega) hq) c_Mo rfl rfl (Nat.le_of_ble_eq_true rfl) ?_
        refine V_if_eq (tgt := 65) d_Mo_move_34 (by decide) (fun c2 => ?_) (fun c2 => ?_)
        · exact skip (by unfold mpS; rw [if_neg]; rw [(bI_0 _).mp c2]; simp)
        · have c2' : Bn (p * 4 + q) = true := by simpa [bI_0] using c2
          obtain ⟨i, hi9, ei⟩ := wh_n hR (show p < 12 by omega) hq hx c2'
          have e2 : mpS As Bn wh P q x p s = (s.1 + (1000 * (nI i).toInt64 - (P (p * 2 + x)).toInt64), s.2 + 1) := by unfold mpS; rw [if_pos (by rw [c1', c2']; rfl), ei]
          rw [e2] at e
          obtain ⟨a1, a2, a3⟩ := acc_eq (p := P (p * 2 + x)) hi9 (show s.2 < 12 by omega) hB (hP _ (by omega)) h2 h3 h4
          refine V_iinc1 d_Mo_move_37 rfl (by decide) rfl ?_
          refine V_iload d_Mo_move_40 rfl ?_
          refine V_aload_n d_Mo_move_42 rfl ?_
          refine V_iload d_Mo_move_43 rfl ?_
          refine V_iload_n d_Mo_move_45 rfl ?_
          refine V_iload_n d_Mo_move_46 rfl ?_
          refine V_cV s_Mo_move_47 (mo_where c_Mo a_Mo_seenX a_Mo_seenY hR (show p < 12 by omega) hq hx c2') c_Mo rfl rfl (Nat.le_of_ble_eq_true rfl) ?_
          refine V_iadd d_Mo_move_50 ?_
          refine V_aload_n d_Mo_move_51 rfl ?_
          refine V_gf g_Mo_move_52 c_Mo rfl ?_
          refine V_iconst (v := 2) d_Mo_move_55 (by decide) ?_
          refine V_iload d_Mo_move_56 rfl ?_
          refine V_imul d_Mo_move_58 ?_
          refine V_iload_n d_Mo_move_59 rfl ?_
          refine V_iadd d_Mo_move_60 ?_
          refine V_ialdN d_Mo_move_61 a_Mo_positions (ix24 (show p < 12 by omega) hx) ?_
          refine V_isub d_Mo_move_62 ?_
          rw [ei, nI_1]
          refine V_istore d_Mo_move_63 (by decide) rfl ?_
          refine V_iinc1 d_Mo_move_65 rfl (by decide) rfl ?_
          refine V_goto (tgt := 8) d_Mo_move_68 (by decide) ?_
          rw [nI_1]
          exact ih (p + 1) (s.1 + (1000 * (nI i).toInt64 - (P (p * 2 + x)).toInt64), s.2 + 1) (z + 1000 * nI i - P (p * 2 + x)) (by omega) (by show s.2 + 1 ≤ p + 1; omega) a1 a2 a3 e
  refine V_iconst (v := 0) d_Mo_move_0 (by decide) ?_
  refine V_istore_n d_Mo_move_1 (by decide) rfl ?_
  refine V_iconst (v := 0) d_Mo_move_2 (by decide) ?_
  refine V_istore d_Mo_move_3 (by decide) rfl ?_
  refine V_iconst (v := 0) d_Mo_move_5 (by decide) ?_
  refine V_istore d_Mo_move_6 (by decide) rfl ?_
  exact loop pl 0 (0, 0) 0 (by omega) (Nat.le_refl _) rfl (by simp) (by simp) hF.symm
/-- where a place is put -/
def mvR (Bn : Nat → Bool) (wh O : Nat → Int32) (p x : Nat) : Int32 := meanR (fori (plS Bn wh O p x) 4 0 (0, 0)).1 (fori (plS Bn wh O p x) 4 0 (0, 0)).2 0
theorem mo_put (c_Mo : h[27]? = some (MoO th w ht sd md pl sh sx sy ln hi)) (a_Mo_seenX : h[30]? = some (IA 48 sX)) (a_Mo_seenY : h[31]? = some (IA 48 sY)) (a_Mo_positions : h[33]? = some (IA 24 P)) (a_Mo_offsets : h[34]? = some (IA 8 O)) (hR : RS Bn wh sX sY) {B : Int} (hB : 0 ≤ B ∧ B ≤ 100000000) (hO : bd O 8 B) {p x : Nat} (hp : p < 12) (hx : x < 2) (hU : (fori (plS Bn wh O p x) 4 0 (0, 0)).2 = 0 → P (p * 2 + x) = 0) : Do l G k_Mo_put [.ref 28, .int (nI p), .int (nI x)] h rv (h.set 33 (IA 24 (plR Bn wh O p x P))) := by
  generalize hF : fori (plS Bn wh O p x) 4 0 (0, 0) = F at hU
  have eR : plR Bn wh O p x P = upd P (p * 2 + x) (meanR F.1 F.2 0) := by unfold plR; rw [hF]
  rw [eR]
  refine Do.of (by decide) (Nat.le_of_ble_eq_true rfl) kw_Mo_put ?_
  have loop : ∀ (m q : Nat) (s : Ac) (z : Int32), q + m = 4 → s.2 ≤ q → z.toInt = s.1.toInt → -((s.2 : Int) * (999000 + B)) ≤ s.1.toInt → s.1.toInt ≤ (s.2 : Int) * (999000 + B) → F = fori (plS Bn wh O p x) m q s → V l G k_Mo_put h 8 [(0, .ref 28), (1, .int (nI p)), (2, .int (nI x)), (3, .int (nI s.2)), (4, .int z), (5, .int (nI q))] [] h rv (h.set 33 (IA 24 (upd P (p * 2 + x) (meanR F.1 F.2 0)))) := by
    intro m
    induction m with
    | zero =>
      intro q s z hq h1 h2 h3 h4 e
      have eF : F = s := e
      rw [eF] at hU ⊢
      obtain rfl : q = 4 := by omega
      have me := (mean_eq (d := 0) (show s.2 ≤ 12 by omega) (M := 999000 + B) (by omega) h2 h3 h4).1
      refine V_iload d_Mo_put_8 rfl ?_
      refine V_iconst (v := 4) d_Mo_put_10 (by decide) ?_
      refine V_icmp_ge (tgt := 58) d_Mo_put_11 (by decide) (fun _ => ?_) (fun c9 => absurd ((by decide : (4 : Int32) ≤ nI 4)) c9)
      refine V_aload_n d_Mo_put_58 rfl ?_
      refine V_gf g_Mo_put_59 c_Mo rfl ?_
      refine V_iconst (v := 2) d_Mo_put_62 (by decide) ?_
      refine V_iload_n d_Mo_put_63 rfl ?_
      refine V_imul d_Mo_put_64 ?_
      refine V_iload_n d_Mo_put_65 rfl ?_
      refine V_iadd d_Mo_put_66 ?_
      refine V_iload_n d_Mo_put_67 rfl ?_
      rcases Nat.eq_zero_or_pos s.2 with c | c
      · refine V_if_ne (tgt := 84) d_Mo_put_68 (by decide) (fun c9 => absurd ((by rw [c]; decide)) c9) (fun _ => ?_)
        rw [if_pos c] at me
        rw [← me]
        refine V_aload_n d_Mo_put_71 rfl ?_
        refine V_gf g_Mo_put_72 c_Mo rfl ?_
        refine V_iconst (v := 2) d_Mo_put_75 (by decide) ?_
        refine V_iload_n d_Mo_put_76 rfl ?_
        refine V_imul d_Mo_put_77 ?_
        refine V_iload_n d_Mo_put_78 rfl ?_
        refine V_iadd d_Mo_put_79 ?_
        refine V_ialdN d_Mo_put_80 a_Mo_positions (ix24 hp hx) ?_
        refine V_goto (tgt := 90) d_Mo_put_81 (by decide) ?_
        rw [hU c]
        refine V_iastN d_Mo_put_90 a_Mo_positions (ix24 hp hx) ?_
        exact V_vret d_Mo_put_91 rfl
      · refine V_if_ne (tgt := 84) d_Mo_put_68 (by decide) (fun _ => ?_) (fun c9 => absurd (c9 : _) ((nI_ne0 c (by omega))))
        rw [if_neg (by omega)] at me
        rw [← me]
        refine V_iload d_Mo_put_84 rfl ?_
        refine V_iload_n d_Mo_put_86 rfl ?_
        refine V_cS s_Mo_put_87 (mo_down z (nI s.2) (nI_ne0 c (by omega))) rfl rfl (Nat.le_of_ble_eq_true rfl) ?_
        refine V_iastN d_Mo_put_90 a_Mo_positions (ix24 hp hx) ?_
        exact V_vret d_Mo_put_91 rfl
    | succ m ih =>
      intro q s z hq h1 h2 h3 h4 e
      rw [fori_s] at e
      refine V_iload d_Mo_put_8 rfl ?_
      refine V_iconst (v := 4) d_Mo_put_10 (by decide) ?_
      refine V_icmp_ge (tgt := 58) d_Mo_put_11 (by decide) (fun c9 => absurd c9 ((nI_ge (b := 4) (by omega) (by decide) : ¬ (4 : Int32) ≤ nI q))) (fun _ => ?_)
      refine V_aload_n d_Mo_put_14 rfl ?_
      refine V_iload_n d_Mo_put_15 rfl ?_
      refine V_iload d_Mo_put_16 rfl ?_
      refine V_cV s_Mo_put_18 (mo_isSeen c_Mo a_Mo_seenX hR hp (show q < 4 by omega)) c_Mo rfl rfl (Nat.le_of_ble_eq_true rfl) ?_
      refine V_if_eq (tgt := 52) d_Mo_put_21 (by decide) (fun c2 => ?_) (fun c2 => ?_)
      · rw [show plS Bn wh O p x q s = s by unfold plS; rw [if_neg]; rw [(bI_0 _).mp c2]; decide] at e
        refine V_iinc1 d_Mo_put_52 rfl (by decide) rfl ?_
        refine V_goto (tgt := 8) d_Mo_put_55 (by decide) ?_
        rw [nI_1]
        exact ih (q + 1) s z (by omega) (by omega) h2 h3 h4 e
      · have c2' : Bn (p * 4 + q) = true := by simpa [bI_0] using c2
        obtain ⟨i, hi9, ei⟩ := wh_n hR hp (show q < 4 by omega) hx c2'
        have e2 : plS Bn wh O p x q s = (s.1 + (1000 * (nI i).toInt64 - (O (q * 2 + x)).toInt64), s.2 + 1) := by unfold plS; rw [if_pos c2', ei]
        rw [e2] at e
        obtain ⟨a1, a2, a3⟩ := acc_eq (p := O (q * 2 + x)) hi9 (show s.2 < 12 by omega) hB (hO _ (by omega)) h2 h3 h4
        refine V_iinc1 d_Mo_put_24 rfl (by decide) rfl ?_
        refine V_iload d_Mo_put_27 rfl ?_
        refine V_aload_n d_Mo_put_29 rfl ?_
        refine V_iload_n d_Mo_put_30 rfl ?_
        refine V_iload d_Mo_put_31 rfl ?_
        refine V_iload_n d_Mo_put_33 rfl ?_
        refine V_cV s_Mo_put_34 (mo_where c_Mo a_Mo_seenX a_Mo_seenY hR hp (show q < 4 by omega) hx c2') c_Mo rfl rfl (Nat.le_of_ble_eq_true rfl) ?_
        refine V_iadd d_Mo_put_37 ?_
        refine V_aload_n d_Mo_put_38 rfl ?_
        refine V_gf g_Mo_put_39 c_Mo rfl ?_
        refine V_iconst (v := 2) d_Mo_put_42 (by decide) ?_
        refine V_iload d_Mo_put_43 rfl ?_
        refine V_imul d_Mo_put_45 ?_
        refine V_iload_n d_Mo_put_46 rfl ?_
        refine V_iadd d_Mo_put_47 ?_
        refine V_ialdN d_Mo_put_48 a_Mo_offsets (ix8 (show q < 4 by omega) hx) ?_
        refine V_isub d_Mo_put_49 ?_
        rw [ei, nI_1]
        refine V_istore d_Mo_put_50 (by decide) rfl ?_
        refine V_iinc1 d_Mo_put_52 rfl (by decide) rfl ?_
        refine V_goto (tgt := 8) d_Mo_put_55 (by decide) ?_
        rw [nI_1]
        exact ih (q + 1) (s.1 + (1000 * (nI i).toInt64 - (O (q * 2 + x)).toInt64), s.2 + 1) (z + 1000 * nI i - O (q * 2 + x)) (by omega) (by show s.2 + 1 ≤ q + 1; omega) a1 a2 a3 e
  refine V_iconst (v := 0) d_Mo_put_0 (by decide) ?_
  refine V_istore_n d_Mo_put_1 (by decide) rfl ?_
  refine V_iconst (v := 0) d_Mo_put_2 (by decide) ?_
  refine V_istore d_Mo_put_3 (by decide) rfl ?_
  refine V_iconst (v := 0) d_Mo_put_5 (by decide) ?_
  refine V_istore d_Mo_put_6 (by decide) rfl ?_
  exact loop 4 0 (0, 0) 0 (by omega) (Nat.le_refl _) rfl (by simp) (by simp) hF.symm
theorem mv_b (hR : RS Bn wh sX sY) {B : Int} (hB : 0 ≤ B ∧ B ≤ 100000000) (hO : bd O 8 B) {p x : Nat} (hp : p < 12) (hx : x < 2) : -(999000 + B) ≤ (mvR Bn wh O p x).toInt ∧ (mvR Bn wh O p x).toInt ≤ 999000 + B := by
  have inv := fori_inv (f := plS Bn wh O p x) (fun q s => s.2 ≤ q ∧ -((s.2 : Int) * (999000 + B)) ≤ s.1.toInt ∧ s.1.toInt ≤ (s.2 : Int) * (999000 + B)) 4 0 (0, 0) (fun q s _ hq hs => by
    obtain ⟨h1, h2, h3⟩ := hs
    by_cases c : Bn (p * 4 + q) = true
    · obtain ⟨i, hi9, ei⟩ := wh_n hR hp (show q < 4 by omega) hx c
      have e : plS Bn wh O p x q s = (s.1 + (1000 * (wh ((p * 4 + q) * 2 + x)).toInt64 - (O (q * 2 + x)).toInt64), s.2 + 1) := by unfold plS; rw [if_pos c]
      rw [e, ei]
      have z9 : ∃ z : Int32, z.toInt = s.1.toInt := by
        have b := cM (c := s.2) (M := 999000 + B) (by omega) (by omega)
        exact ⟨s.1.toInt32, l2i (by omega) (by omega)⟩
      obtain ⟨z, hz⟩ := z9
      have := acc_eq (p := O (q * 2 + x)) hi9 (show s.2 < 12 by omega) hB (hO _ (by omega)) hz h2 h3
      exact ⟨by show s.2 + 1 ≤ q + 1; omega, this.2⟩
    · have e : plS Bn wh O p x q s = s := by unfold plS; rw [if_neg c]
      rw [e]
      exact ⟨by omega, h2, h3⟩) ⟨Nat.le_refl _, by simp, by simp⟩
  unfold mvR
  generalize fori (plS Bn wh O p x) 4 0 (0, 0) = F at inv
  obtain ⟨i1, i2, i3⟩ := inv
  rcases Nat.eq_zero_or_pos F.2 with c | c
  · unfold meanR
    rw [if_pos c]
    show -(999000 + B) ≤ (0 : Int) ∧ (0 : Int) ≤ 999000 + B
    omega
  · have b := cM (c := F.2) (M := 999000 + B) (by omega) (by omega)
    exact (mean_eq (z := F.1.toInt32) (d := 0) (by omega) (M := 999000 + B) (by omega) (l2i (by omega) (by omega)) i2 i3).2 c
end P39
