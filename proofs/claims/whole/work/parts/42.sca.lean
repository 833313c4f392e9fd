section P42
theorem sq_lt {a b : Nat} (h : a * a < b * b) : a < b := by
  rcases Nat.lt_or_ge a b with q | q
  · exact q
  · exact absurd h (Nat.not_lt.mpr (Nat.mul_le_mul q q))
theorem sq_le {a b : Nat} (h : a ≤ b) : a * a ≤ b * b := Nat.mul_le_mul h h
/-- s is the root of n, rounded down -/
def Rt (n s : Nat) : Prop := s * s ≤ n ∧ n < (s + 1) * (s + 1)
theorem Rt_le {n s a : Nat} (h : Rt n s) : a * a ≤ n ↔ a ≤ s := by
  constructor
  · intro q
    have := sq_lt (Nat.lt_of_le_of_lt q h.2)
    omega
  · intro q
    exact Nat.le_trans (sq_le q) h.1
theorem shl1 : ∀ k, k < 31 → (1 : Int64) <<< ((nI k).toInt64 &&& 63) = lN (2 ^ k) := by decide
theorem rd_step {n k a : Nat} (hn : n < 2 ^ 62) (hk : k < 31) (ha : a + 2 ^ (k + 1) ≤ 2 ^ 31) (h1 : a * a ≤ n) (h2 : n < (a + 2 ^ (k + 1)) * (a + 2 ^ (k + 1))) : ∃ a', rdS (lN n) k (lN a) = lN a' ∧ a' + 2 ^ k ≤ 2 ^ 31 ∧ a' * a' ≤ n ∧ n < (a' + 2 ^ k) * (a' + 2 ^ k) := by
  have e : 2 ^ (k + 1) = 2 ^ k + 2 ^ k := by rw [Nat.pow_succ]; omega
  have hp := Nat.two_pow_pos k
  rw [e] at ha h2
  have hq : a + 2 ^ k ≤ 2 ^ 31 := by omega
  have hb : (a + 2 ^ k) * (a + 2 ^ k) ≤ 2 ^ 62 := Nat.le_trans (Nat.mul_le_mul hq hq) (by decide)
  unfold rdS
  rw [shl1 k hk, lN_add, lN_mul]
  by_cases q : (0 : Int32) < lg_cmp (lN ((a + 2 ^ k) * (a + 2 ^ k))) (lN n)
  · rw [if_pos q]
    rw [lg_cmp_gt, pk_lLT (by omega) (by omega)] at q
    exact ⟨a, rfl, by omega, h1, q⟩
  · rw [if_neg q]
    rw [lg_cmp_gt, pk_lLT (by omega) (by omega)] at q
    refine ⟨a + 2 ^ k, rfl, by omega, by omega, ?_⟩
    rw [show a + 2 ^ k + 2 ^ k = a + (2 ^ k + 2 ^ k) by omega]
    exact h2
theorem rd_loop {n : Nat} (hn : n < 2 ^ 62) : ∀ (k a : Nat), k ≤ 31 → a + 2 ^ k ≤ 2 ^ 31 → a * a ≤ n → n < (a + 2 ^ k) * (a + 2 ^ k) → ∃ s, Rt n s ∧ s < 2 ^ 31 ∧ ford (rdS (lN n)) k (lN a) = lN s
  | 0, a, _, h0, h1, h2 => ⟨a, ⟨h1, h2⟩, by omega, rfl⟩
  | k + 1, a, hk, h0, h1, h2 => by
    obtain ⟨a', e, g0, g1, g2⟩ := rd_step hn (by omega) h0 h1 h2
    rw [ford_s, e]
    exact rd_loop hn k a' (by omega) g0 g1 g2
theorem rd_spec {n : Nat} (hn : n < 2 ^ 62) : ∃ s, Rt n s ∧ s < 2 ^ 31 ∧ rdR (lN n) = lN s :=
  rd_loop hn 31 0 (Nat.le_refl _) (by decide) (by omega) (by rw [Nat.zero_add]; exact hn)
/-- the class's divisor is the greatest common one -/
theorem cd_gcd : ∀ (k n x y : Nat), 2 * k + 1 ≤ n → x < 2 ^ 63 → y < 2 ^ 63 → y < 2 ^ k → cdR n (lN x) (lN y) = lN (Nat.gcd x y)
  | 0, n, x, y, hn, hx, _, hy => by
    obtain ⟨m, rfl⟩ : ∃ m, n = m + 1 := ⟨n - 1, by omega⟩
    obtain rfl : y = 0 := by simp at hy; exact hy
    unfold cdR
    rw [if_pos (show lN 0 = 0 from rfl), Nat.gcd_zero_right]
  | k + 1, n, x, y, hn, hx, hy0, hy => by
    obtain ⟨m, rfl⟩ : ∃ m, n = m + 2 := ⟨n - 2, by omega⟩
    rcases Nat.eq_zero_or_pos y with z | z
    · subst z
      unfold cdR
      rw [if_pos (show lN 0 = 0 from rfl), Nat.gcd_zero_right]
    · have nz : ∀ q : Nat, q < 2 ^ 63 → 0 < q → ¬ lN q = 0 := fun q h1 h2 e => by
        have := (pk_lEQ (b := 0) h1 (by decide)).mp e
        omega
      rw [show cdR (m + 2) (lN x) (lN y) = (if lN y = 0 then lN x else cdR (m + 1) (lN y) (lN x - lN x / lN y * lN y)) from rfl, if_neg (nz y hy0 z), pk_lRem hx z hy0]
      have hr : x % y < y := Nat.mod_lt _ z
      rcases Nat.eq_zero_or_pos (x % y) with z2 | z2
      · rw [z2]
        unfold cdR
        rw [if_pos (show lN 0 = 0 from rfl), Nat.gcd_comm, Nat.gcd_rec, z2, Nat.gcd_zero_left]
      · rw [show cdR (m + 1) (lN y) (lN (x % y)) = (if lN (x % y) = 0 then lN y else cdR m (lN (x % y)) (lN y - lN y / lN (x % y) * lN (x % y))) from rfl, if_neg (nz _ (by omega) z2), pk_lRem hy0 z2 (by omega)]
        have hr2 : y % (x % y) < x % y := Nat.mod_lt _ z2
        have hh : 2 * (y % (x % y)) < y := by
          have e1 := Nat.div_add_mod y (x % y)
          have e2 : 1 ≤ y / (x % y) := (Nat.le_div_iff_mul_le z2).mpr (by omega)
          have e3 := Nat.mul_le_mul_left (x % y) e2
          omega
        rw [cd_gcd k m _ _ (by omega) (by omega) (by omega) (by rw [Nat.pow_succ] at hy; omega)]
        rw [Nat.gcd_comm x y, Nat.gcd_rec y x, Nat.gcd_rec (x % y) y, Nat.gcd_comm]
theorem cd_gcd44 {a b : Nat} (ha : a < 2 ^ 44) (hb : b < 2 ^ 63) : cdR 100 (lN a) (lN b) = lN (Nat.gcd a b) := by
  rcases Nat.eq_zero_or_pos b with z | z
  · subst z
    unfold cdR
    rw [if_pos (show lN 0 = 0 from rfl), Nat.gcd_zero_right]
  · have nz : ¬ lN b = 0 := fun e => by
      have := (pk_lEQ (b := 0) hb (by decide)).mp e
      omega
    rw [show cdR 100 (lN a) (lN b) = (if lN b = 0 then lN a else cdR 99 (lN b) (lN a - lN a / lN b * lN b)) from rfl, if_neg nz, pk_lRem (by omega) z hb]
    have h1 : a % b ≤ a := Nat.mod_le _ _
    have h2 : a % b < b := Nat.mod_lt _ z
    rw [cd_gcd 44 99 b (a % b) (by omega) hb (by omega) (by omega), Nat.gcd_comm a b, Nat.gcd_rec b a, Nat.gcd_comm]
theorem sub64 {a b : Int32} (ha : -50000000 ≤ a.toInt ∧ a.toInt ≤ 50000000) (hb : -50000000 ≤ b.toInt ∧ b.toInt ≤ 50000000) : (a - b).toInt64 = a.toInt64 - b.toInt64 := by
  rw [← Int64.toInt_inj, Int32.toInt_toInt64, isub (by omega) (by omega), lsub (by rw [Int32.toInt_toInt64, Int32.toInt_toInt64]; omega) (by rw [Int32.toInt_toInt64, Int32.toInt_toInt64]; omega), Int32.toInt_toInt64, Int32.toInt_toInt64]
theorem sq_n {d : Int64} (h1 : -100000000 ≤ d.toInt) (h2 : d.toInt ≤ 100000000) : ∃ n : Nat, n ≤ 10000000000000000 ∧ d * d = lN n := by
  have e : ∃ k : Nat, k ≤ 100000000 ∧ d.toInt * d.toInt = ((k * k : Nat) : Int) := by
    refine ⟨d.toInt.natAbs, by omega, ?_⟩
    rw [Int.natCast_mul]
    rcases Int.natAbs_eq d.toInt with q | q
    · rw [← q]
    · have q2 : (d.toInt.natAbs : Int) = - d.toInt := by omega
      rw [q2, Int.neg_mul_neg]
  obtain ⟨k, hk, ek⟩ := e
  have hk2 : k * k ≤ 100000000 * 100000000 := Nat.mul_le_mul hk hk
  refine ⟨k * k, hk2, ?_⟩
  rw [← Int64.toInt_inj, lmul (by rw [ek]; omega) (by rw [ek]; omega), ek, pk_lT (by omega)]
/-- a distance -/
theorem ds_n {P : Nat → Int32} (hP : bd P 24 50000000) {a b : Nat} (ha : a < 12) (hb : b < 12) : ∃ n s : Nat, n < 2 ^ 62 ∧ Rt n s ∧ s ≤ 141421357 ∧ ((P (a * 2 + 0) - P (b * 2 + 0)).toInt64 * (P (a * 2 + 0) - P (b * 2 + 0)).toInt64 + (P (a * 2 + 1) - P (b * 2 + 1)).toInt64 * (P (a * 2 + 1) - P (b * 2 + 1)).toInt64) = lN n ∧ dsR P a b = lN s := by
  have hd : ∀ x, x < 2 → -100000000 ≤ ((P (a * 2 + x)).toInt64 - (P (b * 2 + x)).toInt64).toInt ∧ ((P (a * 2 + x)).toInt64 - (P (b * 2 + x)).toInt64).toInt ≤ 100000000 := by
    intro x hx
    have h1 := hP (a * 2 + x) (by omega)
    have h2 := hP (b * 2 + x) (by omega)
    rw [lsub (by rw [Int32.toInt_toInt64, Int32.toInt_toInt64]; omega) (by rw [Int32.toInt_toInt64, Int32.toInt_toInt64]; omega), Int32.toInt_toInt64, Int32.toInt_toInt64]
    omega
  obtain ⟨n1, b1, e1⟩ := sq_n (hd 0 (by omega)).1 (hd 0 (by omega)).2
  obtain ⟨n2, b2, e2⟩ := sq_n (hd 1 (by omega)).1 (hd 1 (by omega)).2
  obtain ⟨s, s1, s2, s3⟩ := rd_spec (n := n1 + n2) (by omega)
  have s4 : s ≤ 141421357 := by
    rcases Nat.lt_or_ge 141421357 s with q | q
    · have := Nat.le_trans (sq_le q) s1.1
      simp at this
      omega
    · exact q
  refine ⟨n1 + n2, s, by omega, s1, s4, ?_, ?_⟩
  · rw [sub64 (hP _ (by omega)) (hP _ (by omega)), sub64 (hP _ (by omega)) (hP _ (by omega)), e1, e2, lN_add]
  · unfold dsR
    rw [e1, e2, lN_add, s3]
/-- what the lengths add up to -/
theorem fr_n {P Ln : Nat → Int32} {F T : Nat → Nat} {m : Nat} (hP : bd P 24 50000000) (hm : m ≤ 10) (hF : ∀ i, i < m → F i < 12 ∧ T i < 12) (hL : ∀ i, i < m → ∃ k : Nat, k ≤ 10000 ∧ Ln i = nI k) : ∃ a b : Nat, a < 2 ^ 44 ∧ b < 2 ^ 62 ∧ (b = 0 → a = 0) ∧ frR P Ln F T m = (lN a, lN b) := by
  have inv := fori_inv (f := frS P Ln F T) (fun i s => ∃ a b : Nat, a ≤ i * 1414213570000 ∧ b ≤ i * 20000000000000000 * 2 ∧ (b = 0 → a = 0) ∧ s = (lN a, lN b)) m 0 (0, 0) (fun i s _ hi hs => by
    obtain ⟨a, b, h1, h2, h3, h4⟩ := hs
    obtain ⟨n, s9, -, -, s2, -, s3⟩ := ds_n hP (hF i (by omega)).1 (hF i (by omega)).2
    obtain ⟨k, k1, k2⟩ := hL i (by omega)
    have q1 : k * s9 ≤ 10000 * 141421357 := Nat.mul_le_mul k1 s2
    have q2 : s9 * s9 ≤ 141421357 * 141421357 := Nat.mul_le_mul s2 s2
    refine ⟨a + k * s9, b + s9 * s9, by omega, by omega, fun e => ?_, ?_⟩
    · have e1 : s9 * s9 = 0 := by omega
      have e2 : s9 = 0 := by rcases Nat.mul_eq_zero.mp e1 with z | z <;> exact z
      rw [e2, h3 (by omega), Nat.mul_zero]
    · rw [h4]
      unfold frS
      rw [s3, k2, nI_l (by omega), lN_mul, lN_mul, lN_add, lN_add]) ⟨0, 0, by omega, by omega, fun _ => rfl, rfl⟩
  rw [Nat.zero_add] at inv
  obtain ⟨a, b, h1, h2, h3, h4⟩ := inv
  exact ⟨a, b, by omega, by omega, h3, h4⟩
variable {l : Launch} {G : Gb} {h h0 h' : List Ce} {r : Rs} {th sx sy : Int32} {w ht sd pl ln : Nat} {md sh hi : Bool} {P Ln : Nat → Int32} {F T : Nat → Nat}
theorem mo_root {n s : Nat} (hn : n < 2 ^ 62) (hs : Rt n s) (hs2 : s < 3000000000) : Do l G k_Mo_root [.long (lN n)] h (rl (lN s)) h := by
  refine Do.of (by decide) (Nat.le_of_ble_eq_true rfl) kw_Mo_root ?_
  have loop : ∀ (d a b : Nat), b - a ≤ d → a ≤ s → s < b → b ≤ 3000000000 → V l G k_Mo_root h 7 [(0, .long (lN n)), (2, .long (lN a)), (4, .long (lN b))] [] h (rl (lN s)) h := by
    intro d
    induction d with
    | zero => intro a b h1 h2 h3 h4; omega
    | succ d ih =>
      intro a b h1 h2 h3 h4
      refine V_lload_n d_Mo_root_7 rfl ?_
      refine V_lconst (v := 1) d_Mo_root_8 (by decide) ?_
      refine V_ladd d_Mo_root_9 ?_
      rw [lN_1]
      refine V_lload d_Mo_root_10 rfl ?_
      refine V_lcmp d_Mo_root_12 ?_
      rcases Nat.lt_or_ge (a + 1) b with q | q
      · refine V_if_ge (tgt := 72) d_Mo_root_13 (by decide) (fun c9 => absurd c9 ((fun c => by rw [lg_cmp_ge, pk_lLE (by omega) (by omega)] at c; omega))) (fun _ => ?_)
        refine V_lload_n d_Mo_root_16 rfl ?_
        refine V_lload d_Mo_root_17 rfl ?_
        refine V_ladd d_Mo_root_19 ?_
        rw [lN_add]
        refine V_ldc2 d_Mo_root_20 c_Mo_root_20 ?_
        refine V_ldiv d_Mo_root_23 (by decide) ?_
        rw [show (2 : Int64) = lN 2 from rfl, pk_lDiv (by omega) (by decide) (by decide)]
        have hm : ((a + b) / 2) * ((a + b) / 2) ≤ 3000000000 * 3000000000 := Nat.mul_le_mul (by omega) (by omega)
        refine V_lstore d_Mo_root_24 (by decide) rfl ?_
        refine V_lload d_Mo_root_26 rfl ?_
        refine V_lload d_Mo_root_28 rfl ?_
        refine V_lmul d_Mo_root_30 ?_
        rw [lN_mul]
        refine V_lload_n d_Mo_root_31 rfl ?_
        refine V_lcmp d_Mo_root_32 ?_
        rcases Nat.lt_or_ge n (((a + b) / 2) * ((a + b) / 2)) with z | z
        · have z' : s < (a + b) / 2 := by
            rcases Nat.lt_or_ge s ((a + b) / 2) with y | y
            · exact y
            · exact absurd ((Rt_le hs).mpr y) (by omega)
          refine V_if_gt (tgt := 40) d_Mo_root_33 (by decide) (fun _ => ?_) (fun c9 => absurd ((by rw [lg_cmp_gt, pk_lLT (by omega) (by omega)]; exact z)) c9)
          refine V_iconst (v := 0) d_Mo_root_40 (by decide) ?_
          refine V_istore d_Mo_root_41 (by decide) rfl ?_
          refine V_iload d_Mo_root_43 rfl ?_
          refine V_if_eq (tgt := 53) d_Mo_root_45 (by decide) (fun _ => ?_) (fun c9 => absurd ((rfl : (0 : Int32) = 0)) c9)
          refine V_lload_n d_Mo_root_53 rfl ?_
          refine V_lstore_n d_Mo_root_54 (by decide) rfl ?_
          refine V_iload d_Mo_root_55 rfl ?_
          refine V_if_eq (tgt := 65) d_Mo_root_57 (by decide) (fun _ => ?_) (fun c9 => absurd ((rfl : (0 : Int32) = 0)) c9)
          refine V_lload d_Mo_root_65 rfl ?_
          refine V_lstore d_Mo_root_67 (by decide) rfl ?_
          refine V_goto (tgt := 7) d_Mo_root_69 (by decide) ?_
          refine V_keep [0, 2, 4] ?_
          exact ih a ((a + b) / 2) (by omega) h2 z' (by omega)
        · have z' := (Rt_le hs).mp z
          refine V_if_gt (tgt := 40) d_Mo_root_33 (by decide) (fun c9 => absurd c9 ((fun c => by rw [lg_cmp_gt, pk_lLT (by omega) (by omega)] at c; omega))) (fun _ => ?_)
          refine V_iconst (v := 1) d_Mo_root_36 (by decide) ?_
          refine V_goto (tgt := 41) d_Mo_root_37 (by decide) ?_
          refine V_istore d_Mo_root_41 (by decide) rfl ?_
          refine V_iload d_Mo_root_43 rfl ?_
          refine V_if_eq (tgt := 53) d_Mo_root_45 (by decide) (fun c9 => absurd c9 ((by decide : ¬ (1 : Int32) = 0))) (fun _ => ?_)
          refine V_lload d_Mo_root_48 rfl ?_
          refine V_goto (tgt := 54) d_Mo_root_50 (by decide) ?_
          refine V_lstore_n d_Mo_root_54 (by decide) rfl ?_
          refine V_iload d_Mo_root_55 rfl ?_
          refine V_if_eq (tgt := 65) d_Mo_root_57 (by decide) (fun c9 => absurd c9 ((by decide : ¬ (1 : Int32) = 0))) (fun _ => ?_)
          refine V_lload d_Mo_root_60 rfl ?_
          refine V_goto (tgt := 67) d_Mo_root_62 (by decide) ?_
          refine V_lstore d_Mo_root_67 (by decide) rfl ?_
          refine V_goto (tgt := 7) d_Mo_root_69 (by decide) ?_
          refine V_keep [0, 2, 4] ?_
          exact ih ((a + b) / 2) b (by omega) z' h3 (by omega)
      · refine V_if_ge (tgt := 72) d_Mo_root_13 (by decide) (fun _ => ?_) (fun c9 => absurd ((by rw [lg_cmp_ge, pk_lLE (by omega) (by omega)]; omega)) c9)
        obtain rfl : a = s := by omega
        refine V_lload_n d_Mo_root_72 rfl ?_
        exact V_lret d_Mo_root_73 rfl
  refine V_lconst (v := 0) d_Mo_root_0 (by decide) ?_
  refine V_lstore_n d_Mo_root_1 (by decide) rfl ?_
  refine V_ldc2 d_Mo_root_2 c_Mo_root_2 ?_
  refine V_lstore d_Mo_root_5 (by decide) rfl ?_
  exact loop 3000000000 0 3000000000 (by omega) (by omega) hs2 (by omega)
theorem lnz {b : Nat} (hb : b < 2 ^ 63) (z : 0 < b) : ¬ lN b = 0 := fun e => by
  have := (pk_lEQ (b := 0) hb (by decide)).mp e
  omega
theorem mo_divisor {x0 y0 : Nat} (hx0 : x0 < 2 ^ 63) (hy0 : y0 < 2 ^ 63) : Do l G k_Mo_divisor [.long (lN x0), .long (lN y0)] h (rl (lN (Nat.gcd x0 y0))) h := by
  refine Do.of (by decide) (Nat.le_of_ble_eq_true rfl) kw_Mo_divisor ?_
  have loop : ∀ (d x y : Nat), y ≤ d → x < 2 ^ 63 → y < 2 ^ 63 → Nat.gcd x y = Nat.gcd x0 y0 → V l G k_Mo_divisor h 6 [(0, .long (lN x0)), (2, .long (lN y0)), (4, .long (lN x)), (6, .long (lN y))] [] h (rl (lN (Nat.gcd x0 y0))) h := by
    intro d
    induction d with
    | zero =>
      intro x y hd hx hy e
      obtain rfl : y = 0 := by omega
      rw [← e, Nat.gcd_zero_right]
      refine V_lload d_Mo_divisor_6 rfl ?_
      refine V_lconst (v := 0) d_Mo_divisor_8 (by decide) ?_
      refine V_lcmp d_Mo_divisor_9 ?_
      refine V_if_eq (tgt := 31) d_Mo_divisor_10 (by decide) (fun _ => ?_) (fun c9 => absurd (((lgc0 _ _).mpr rfl)) c9)
      refine V_lload d_Mo_divisor_31 rfl ?_
      exact V_lret d_Mo_divisor_33 rfl
    | succ d ih =>
      intro x y hd hx hy e
      rcases Nat.eq_zero_or_pos y with z | z
      · subst z
        rw [← e, Nat.gcd_zero_right]
        refine V_lload d_Mo_divisor_6 rfl ?_
        refine V_lconst (v := 0) d_Mo_divisor_8 (by decide) ?_
        refine V_lcmp d_Mo_divisor_9 ?_
        refine V_if_eq (tgt := 31) d_Mo_divisor_10 (by decide) (fun _ => ?_) (fun c9 => absurd (((lgc0 _ _).mpr rfl)) c9)
        refine V_lload d_Mo_divisor_31 rfl ?_
        exact V_lret d_Mo_divisor_33 rfl
      · refine V_lload d_Mo_divisor_6 rfl ?_
        refine V_lconst (v := 0) d_Mo_divisor_8 (by decide) ?_
        refine V_lcmp d_Mo_divisor_9 ?_
        refine V_if_eq (tgt := 31) d_Mo_divisor_10 (by decide) (fun c9 => absurd c9 ((fun c => lnz hy z ((lgc0 _ _).mp c)))) (fun _ => ?_)
        refine V_lload d_Mo_divisor_13 rfl ?_
        refine V_lload d_Mo_divisor_15 rfl ?_
        refine V_lrem d_Mo_divisor_17 (lnz hy z) ?_
        rw [pk_lRem hx z hy]
        have hr : x % y < y := Nat.mod_lt _ z
        refine V_lstore d_Mo_divisor_18 (by decide) rfl ?_
        refine V_lload d_Mo_divisor_20 rfl ?_
        refine V_lstore d_Mo_divisor_22 (by decide) rfl ?_
        refine V_lload d_Mo_divisor_24 rfl ?_
        refine V_lstore d_Mo_divisor_26 (by decide) rfl ?_
        refine V_goto (tgt := 6) d_Mo_divisor_28 (by decide) ?_
        refine V_keep [0, 2, 4, 6] ?_
        exact ih y (x % y) (by omega) hy (by omega) (by rw [← e, Nat.gcd_comm x y, Nat.gcd_rec y x, Nat.gcd_comm])
  refine V_lload_n d_Mo_divisor_0 rfl ?_
  refine V_lstore d_Mo_divisor_1 (by decide) rfl ?_
  refine V_lload_n d_Mo_divisor_3 rfl ?_
  refine V_lstore d_Mo_divisor_4 (by decide) rfl ?_
  exact loop y0 x0 y0 (Nat.le_refl _) hx0 hy0 rfl
abbrev moL (h : List Ce) (th : Int32) (w ht sd : Nat) (md : Bool) (pl : Nat) (sh : Bool) (sx sy : Int32) (ln : Nat) (hi : Bool) (P : Nat → Int32) (F T : Nat → Nat) (Ln : Nat → Int32) : List Ce := hS h [(27, MoO th w ht sd md pl sh sx sy ln hi), (33, IA 24 P), (37, NA 10 F), (38, NA 10 T), (39, IA 10 Ln)]
theorem ix24a {a : Nat} (ha : a < 12) : Ix (2 * nI a) (a * 2 + 0) 24 := ⟨by rw [show (2 : Int32) = nI 2 from rfl, pk_mul, Nat.mul_comm]; rfl, by omega, by decide⟩
theorem ix24b {a : Nat} (ha : a < 12) : Ix (2 * nI a + 1) (a * 2 + 1) 24 := ⟨by rw [show (2 : Int32) = nI 2 from rfl, pk_mul, Nat.mul_comm]; exact nI_add _ 1, by omega, by decide⟩
theorem mo_scale_e (hL : 45 ≤ h.length) (x : Int32) (hE : wiB x 0 1 = false) : Do l G k_Mo_scale [.ref 28, .int x] (moH h th w ht sd md pl sh sx sy ln hi) (rl 0) (moH h 1 w ht sd md pl sh sx sy ln hi) := by
  refine Do.of (by decide) (Nat.le_of_ble_eq_true rfl) kw_Mo_scale ?_
  refine V_aload_n d_Mo_scale_0 rfl ?_
  refine V_iload_n d_Mo_scale_1 rfl ?_
  refine V_iconst (v := 0) d_Mo_scale_2 (by decide) ?_
  refine V_iconst (v := 1) d_Mo_scale_3 (by decide) ?_
  refine V_cS s_Mo_scale_4 (mo_within x 0 1) rfl rfl (Nat.le_of_ble_eq_true rfl) ?_
  refine V_iconst (v := 1) d_Mo_scale_7 (by decide) ?_
  refine V_iconst (v := 1) d_Mo_scale_8 (by decide) ?_
  rw [hE]
  refine V_cV s_Mo_scale_9 (mo_goes (rd hL rfl rfl) false true true) (rd hL rfl rfl) rfl rfl (Nat.le_of_ble_eq_true rfl) ?_
  refine V_hS rfl ?_
  refine V_if_ne (tgt := 17) d_Mo_scale_12 (by decide) (fun c9 => absurd ((rfl : bI (false && true && true) = 0)) c9) (fun _ => ?_)
  refine V_lconst (v := 0) d_Mo_scale_15 (by decide) ?_
  exact V_lret d_Mo_scale_16 rfl
theorem mo_scale (hL : 45 ≤ h.length) (hln : ln ≤ 10) (hP : bd P 24 50000000) (hF : ∀ i, i < ln → F i < 12 ∧ T i < 12) (hLn : ∀ i, i < ln → ∃ k : Nat, k ≤ 10000 ∧ Ln i = nI k) (x : Nat) (hx : x < 2) : Do l G k_Mo_scale [.ref 28, .int (nI x)] (moL h th w ht sd md pl sh sx sy ln hi P F T Ln) (rl (frA (frR P Ln F T ln) (nI x))) (moL h 0 w ht sd md pl sh sx sy ln hi P F T Ln) := by
  refine Do.of (by decide) (Nat.le_of_ble_eq_true rfl) kw_Mo_scale ?_
  obtain ⟨a, b, ha, hb, hab, hfr⟩ := fr_n hP hln hF hLn
  have loop : ∀ (H0 : List Ce) (m k : Nat) (s : Fr), k + m = ln → frR P Ln F T ln = fori (frS P Ln F T) m k s → V l G k_Mo_scale H0 25 [(0, .ref 28), (1, .int (nI x)), (2, .long s.1), (4, .long s.2), (6, .int (nI k))] [] (moL h 0 w ht sd md pl sh sx sy ln hi P F T Ln) (rl (frA (frR P Ln F T ln) (nI x))) (moL h 0 w ht sd md pl sh sx sy ln hi P F T Ln) := by
    intro H0 m
    induction m with
    | zero =>
      intro k s hk e
      have es : s = (lN a, lN b) := by rw [← hfr, e]; rfl
      rw [hfr, es]
      refine V_iload d_Mo_scale_25 rfl ?_
      refine V_aload_n d_Mo_scale_27 rfl ?_
      refine V_gf g_Mo_scale_28 (rd hL rfl rfl) rfl ?_
      refine V_icmp_ge (tgt := 148) d_Mo_scale_31 (by decide) (fun _ => ?_) (fun c9 => absurd ((nI_le (by omega) (by omega) : nI ln ≤ nI k)) c9)
      refine V_lload d_Mo_scale_148 rfl ?_
      refine V_lconst (v := 0) d_Mo_scale_150 (by decide) ?_
      refine V_lcmp d_Mo_scale_151 ?_
      rcases Nat.eq_zero_or_pos b with z | z
      · have za := hab z
        subst z
        subst za
        refine V_if_ne (tgt := 159) d_Mo_scale_152 (by decide) (fun c9 => absurd (((lgc0 _ _).mpr rfl)) c9) (fun _ => ?_)
        refine V_lconst (v := 1) d_Mo_scale_155 (by decide) ?_
        refine V_goto (tgt := 165) d_Mo_scale_156 (by decide) ?_
        refine V_lstore d_Mo_scale_165 (by decide) rfl ?_
        refine V_lload d_Mo_scale_167 rfl ?_
        refine V_lconst (v := 0) d_Mo_scale_169 (by decide) ?_
        refine V_lcmp d_Mo_scale_170 ?_
        refine V_if_ne (tgt := 179) d_Mo_scale_171 (by decide) (fun c9 => absurd (((lgc0 _ _).mpr rfl)) c9) (fun _ => ?_)
        refine V_iload_n d_Mo_scale_174 rfl ?_
        refine V_i2l d_Mo_scale_175 ?_
        refine V_goto (tgt := 195) d_Mo_scale_176 (by decide) ?_
        have e9 : frA (lN 0, lN 0) (nI x) = (nI x).toInt64 := by
          unfold frA
          rw [show cdR 100 (lN 0) (lN 0) = 0 from rfl, if_pos rfl]
          rcases (show x = 0 ∨ x = 1 by omega) with z | z <;> subst z <;> decide
        rw [e9]
        exact V_lret d_Mo_scale_195 rfl
      · have hg : 0 < Nat.gcd a b := Nat.gcd_pos_of_pos_right _ z
        have hg2 : Nat.gcd a b < 2 ^ 63 := Nat.lt_of_le_of_lt (Nat.gcd_le_right _ z) (by omega)
        have hgn := lnz hg2 hg
        have e9 : frA (lN a, lN b) (nI x) = (if nI x = 0 then lN a else lN b) / lN (Nat.gcd a b) := by
          unfold frA
          rw [cd_gcd44 ha (by omega), if_neg hgn]
        rw [e9]
        refine V_if_ne (tgt := 159) d_Mo_scale_152 (by decide) (fun _ => ?_) (fun c9 => absurd (c9 : _) ((fun c => lnz (by omega) z ((lgc0 _ _).mp c))))
        refine V_lload_n d_Mo_scale_159 rfl ?_
        refine V_lload d_Mo_scale_160 rfl ?_
        refine V_cS s_Mo_scale_162 (mo_divisor (show a < 2 ^ 63 by omega) (show b < 2 ^ 63 by omega)) rfl rfl (Nat.le_of_ble_eq_true rfl) ?_
        refine V_lstore d_Mo_scale_165 (by decide) rfl ?_
        refine V_lload d_Mo_scale_167 rfl ?_
        refine V_lconst (v := 0) d_Mo_scale_169 (by decide) ?_
        refine V_lcmp d_Mo_scale_170 ?_
        refine V_if_ne (tgt := 179) d_Mo_scale_171 (by decide) (fun _ => ?_) (fun c9 => absurd (c9 : _) ((fun c => lnz (by omega) z ((lgc0 _ _).mp c))))
        refine V_iload_n d_Mo_scale_179 rfl ?_
        refine V_if_ne (tgt := 190) d_Mo_scale_180 (by decide) (fun c1 => ?_) (fun c1 => ?_)
        · rw [if_neg c1]
          refine V_lload d_Mo_scale_190 rfl ?_
          refine V_lload d_Mo_scale_192 rfl ?_
          refine V_ldiv d_Mo_scale_194 (hgn) ?_
          exact V_lret d_Mo_scale_195 rfl
        · rw [if_pos (by simpa using c1)]
          refine V_lload_n d_Mo_scale_183 rfl ?_
          refine V_lload d_Mo_scale_184 rfl ?_
          refine V_ldiv d_Mo_scale_186 (hgn) ?_
          refine V_goto (tgt := 195) d_Mo_scale_187 (by decide) ?_
          exact V_lret d_Mo_scale_195 rfl
    | succ m ih =>
      intro k s hk e
      rw [fori_s] at e
      obtain ⟨n, s9, n1, n2, n3, n4, n5⟩ := ds_n hP (hF k (by omega)).1 (hF k (by omega)).2
      have e5 : frS P Ln F T k s = (s.1 + (Ln k).toInt64 * lN s9, s.2 + lN s9 * lN s9) := by unfold frS; rw [n5]
      rw [e5] at e
      have hroot : ∀ H, Do l G k_Mo_root [.long (lN n)] H (rl (lN s9)) H := fun H => mo_root n1 n2 (by omega)
      clear n5 e5
      generalize lN s9 = q9 at hroot e
      have ih9 := ih (k + 1) (s.1 + (Ln k).toInt64 * q9, s.2 + q9 * q9) (by omega) e
      have nxt : V l G k_Mo_scale H0 116 [(0, .ref 28), (1, .int (nI x)), (2, .long s.1), (4, .long s.2), (6, .int (nI k))] [.long q9] (moL h 0 w ht sd md pl sh sx sy ln hi P F T Ln) (rl (frA (frR P Ln F T ln) (nI x))) (moL h 0 w ht sd md pl sh sx sy ln hi P F T Ln) := by
        refine V_lstore d_Mo_scale_116 (by decide) rfl ?_
        refine V_lload_n d_Mo_scale_118 rfl ?_
        refine V_aload_n d_Mo_scale_119 rfl ?_
        refine V_gf g_Mo_scale_120 (rd hL rfl rfl) rfl ?_
        refine V_iload d_Mo_scale_123 rfl ?_
        refine V_ialdN d_Mo_scale_125 (rd hL rfl rfl) (Ix.of (show k < 10 by omega) (by decide)) ?_
        refine V_i2l d_Mo_scale_126 ?_
        refine V_lload d_Mo_scale_127 rfl ?_
        refine V_lmul d_Mo_scale_129 ?_
        refine V_ladd d_Mo_scale_130 ?_
        refine V_lstore_n d_Mo_scale_131 (by decide) rfl ?_
        refine V_lload d_Mo_scale_132 rfl ?_
        refine V_lload d_Mo_scale_134 rfl ?_
        refine V_lload d_Mo_scale_136 rfl ?_
        refine V_lmul d_Mo_scale_138 ?_
        refine V_ladd d_Mo_scale_139 ?_
        refine V_lstore d_Mo_scale_140 (by decide) rfl ?_
        refine V_iinc1 d_Mo_scale_142 rfl (by decide) rfl ?_
        refine V_goto (tgt := 25) d_Mo_scale_145 (by decide) ?_
        rw [nI_1]
        refine V_keep [0, 1, 2, 4, 6] ?_
        exact ih9
      have st3 : V l G k_Mo_scale H0 100 [(0, .ref 28), (1, .int (nI x)), (2, .long s.1), (4, .long s.2), (6, .int (nI k)), (7, .long (P (F k * 2 + 0) - P (T k * 2 + 0)).toInt64)] [.long (P (F k * 2 + 1) - P (T k * 2 + 1)).toInt64] (moL h 0 w ht sd md pl sh sx sy ln hi P F T Ln) (rl (frA (frR P Ln F T ln) (nI x))) (moL h 0 w ht sd md pl sh sx sy ln hi P F T Ln) := by
        refine V_lstore d_Mo_scale_100 (by decide) rfl ?_
        refine V_lload d_Mo_scale_102 rfl ?_
        refine V_lload d_Mo_scale_104 rfl ?_
        refine V_lmul d_Mo_scale_106 ?_
        refine V_lload d_Mo_scale_107 rfl ?_
        refine V_lload d_Mo_scale_109 rfl ?_
        refine V_lmul d_Mo_scale_111 ?_
        refine V_ladd d_Mo_scale_112 ?_
        rw [n4]
        refine V_cS s_Mo_scale_113 (hroot _) rfl rfl (Nat.le_of_ble_eq_true rfl) ?_
        refine V_keep [0, 1, 2, 4, 6] ?_
        exact nxt
      have st2 : V l G k_Mo_scale H0 66 [(0, .ref 28), (1, .int (nI x)), (2, .long s.1), (4, .long s.2), (6, .int (nI k)), (7, .long (P (F k * 2 + 0) - P (T k * 2 + 0)).toInt64)] [] (moL h 0 w ht sd md pl sh sx sy ln hi P F T Ln) (rl (frA (frR P Ln F T ln) (nI x))) (moL h 0 w ht sd md pl sh sx sy ln hi P F T Ln) := by
        refine V_aload_n d_Mo_scale_66 rfl ?_
        refine V_gf g_Mo_scale_67 (rd hL rfl rfl) rfl ?_
        refine V_iconst (v := 2) d_Mo_scale_70 (by decide) ?_
        refine V_aload_n d_Mo_scale_71 rfl ?_
        refine V_gf g_Mo_scale_72 (rd hL rfl rfl) rfl ?_
        refine V_iload d_Mo_scale_75 rfl ?_
        refine V_ialdN d_Mo_scale_77 (rd hL rfl rfl) (Ix.of (show k < 10 by omega) (by decide)) ?_
        refine V_imul d_Mo_scale_78 ?_
        refine V_iconst (v := 1) d_Mo_scale_79 (by decide) ?_
        refine V_iadd d_Mo_scale_80 ?_
        refine V_ialdN d_Mo_scale_81 (rd hL rfl rfl) (ix24b (hF k (by omega)).1) ?_
        refine V_aload_n d_Mo_scale_82 rfl ?_
        refine V_gf g_Mo_scale_83 (rd hL rfl rfl) rfl ?_
        refine V_iconst (v := 2) d_Mo_scale_86 (by decide) ?_
        refine V_aload_n d_Mo_scale_87 rfl ?_
        refine V_gf g_Mo_scale_88 (rd hL rfl rfl) rfl ?_
        refine V_iload d_Mo_scale_91 rfl ?_
        refine V_ialdN d_Mo_scale_93 (rd hL rfl rfl) (Ix.of (show k < 10 by omega) (by decide)) ?_
        refine V_imul d_Mo_scale_94 ?_
        refine V_iconst (v := 1) d_Mo_scale_95 (by decide) ?_
        refine V_iadd d_Mo_scale_96 ?_
        refine V_ialdN d_Mo_scale_97 (rd hL rfl rfl) (ix24b (hF k (by omega)).2) ?_
        refine V_isub d_Mo_scale_98 ?_
        refine V_i2l d_Mo_scale_99 ?_
        exact st3
      refine V_iload d_Mo_scale_25 rfl ?_
      refine V_aload_n d_Mo_scale_27 rfl ?_
      refine V_gf g_Mo_scale_28 (rd hL rfl rfl) rfl ?_
      refine V_icmp_ge (tgt := 148) d_Mo_scale_31 (by decide) (fun c9 => absurd c9 ((nI_ge (by omega) (by omega) : ¬ nI ln ≤ nI k))) (fun _ => ?_)
      refine V_aload_n d_Mo_scale_34 rfl ?_
      refine V_gf g_Mo_scale_35 (rd hL rfl rfl) rfl ?_
      refine V_iconst (v := 2) d_Mo_scale_38 (by decide) ?_
      refine V_aload_n d_Mo_scale_39 rfl ?_
      refine V_gf g_Mo_scale_40 (rd hL rfl rfl) rfl ?_
      refine V_iload d_Mo_scale_43 rfl ?_
      refine V_ialdN d_Mo_scale_45 (rd hL rfl rfl) (Ix.of (show k < 10 by omega) (by decide)) ?_
      refine V_imul d_Mo_scale_46 ?_
      refine V_ialdN d_Mo_scale_47 (rd hL rfl rfl) (ix24a (hF k (by omega)).1) ?_
      refine V_aload_n d_Mo_scale_48 rfl ?_
      refine V_gf g_Mo_scale_49 (rd hL rfl rfl) rfl ?_
      refine V_iconst (v := 2) d_Mo_scale_52 (by decide) ?_
      refine V_aload_n d_Mo_scale_53 rfl ?_
      refine V_gf g_Mo_scale_54 (rd hL rfl rfl) rfl ?_
      refine V_iload d_Mo_scale_57 rfl ?_
      refine V_ialdN d_Mo_scale_59 (rd hL rfl rfl) (Ix.of (show k < 10 by omega) (by decide)) ?_
      refine V_imul d_Mo_scale_60 ?_
      refine V_ialdN d_Mo_scale_61 (rd hL rfl rfl) (ix24a (hF k (by omega)).2) ?_
      refine V_isub d_Mo_scale_62 ?_
      refine V_i2l d_Mo_scale_63 ?_
      refine V_lstore d_Mo_scale_64 (by decide) rfl ?_
      exact st2
  refine V_aload_n d_Mo_scale_0 rfl ?_
  refine V_iload_n d_Mo_scale_1 rfl ?_
  refine V_iconst (v := 0) d_Mo_scale_2 (by decide) ?_
  refine V_iconst (v := 1) d_Mo_scale_3 (by decide) ?_
  refine V_cS s_Mo_scale_4 (mo_within (nI x) 0 1) rfl rfl (Nat.le_of_ble_eq_true rfl) ?_
  refine V_iconst (v := 1) d_Mo_scale_7 (by decide) ?_
  refine V_iconst (v := 1) d_Mo_scale_8 (by decide) ?_
  rw [show wiB (nI x) 0 1 = true from wi_n (b := 1) (by omega) (by decide)]
  refine V_cV s_Mo_scale_9 (mo_goes (rd hL rfl rfl) true true true) (rd hL rfl rfl) rfl rfl (Nat.le_of_ble_eq_true rfl) ?_
  refine V_hS rfl ?_
  refine V_if_ne (tgt := 17) d_Mo_scale_12 (by decide) (fun _ => ?_) (fun c9 => absurd (c9 : _) ((by decide : ¬ bI (true && true && true) = 0)))
  refine V_lconst (v := 0) d_Mo_scale_17 (by decide) ?_
  refine V_lstore_n d_Mo_scale_18 (by decide) rfl ?_
  refine V_lconst (v := 0) d_Mo_scale_19 (by decide) ?_
  refine V_lstore d_Mo_scale_20 (by decide) rfl ?_
  refine V_iconst (v := 0) d_Mo_scale_22 (by decide) ?_
  refine V_istore d_Mo_scale_23 (by decide) rfl ?_
  exact loop _ ln 0 (0, 0) (by omega) rfl
/-- known -/
theorem mo_known_p (c_Mo : h[27]? = some (MoO th w ht sd md pl sh sx sy ln hi)) (hn : pl ≤ 12) (hln : ln ≤ 10) (a b k : Int32) (A B : Bool) (hA : A = (hasB a pl && hasB b pl)) (hB : B = (!decide (a = b) && wiB k 1 10000)) (kk : V l G k_Mo_known h0 60 [(0, .ref 28), (1, .int a), (2, .int b), (3, .int k)] [.int (bI (A && B && decide (ln < 10)))] (h.set 27 (MoO (nI (gc A B (decide (ln < 10)))) w ht sd md pl sh sx sy ln hi)) r h') : V l G k_Mo_known h0 0 [(0, .ref 28), (1, .int a), (2, .int b), (3, .int k)] [] h r h' := by
  have mid3 : V l G k_Mo_known h0 43 [(0, .ref 28), (1, .int a), (2, .int b), (3, .int k)] [.int (bI B), .int (bI A), .ref 28] h r h' := by
    refine V_aload_n d_Mo_known_43 rfl ?_
    refine V_gf g_Mo_known_44 c_Mo rfl ?_
    refine V_bipush (v := 10) d_Mo_known_47 (by decide) ?_
    rcases Nat.lt_or_ge ln 10 with z | z
    · rw [decide_eq_true z] at kk
      refine V_icmp_ge (tgt := 56) d_Mo_known_49 (by decide) (fun c9 => absurd c9 ((nI_ge (b := 10) z (by decide) : ¬ (10 : Int32) ≤ nI ln))) (fun _ => ?_)
      refine V_iconst (v := 1) d_Mo_known_52 (by decide) ?_
      refine V_goto (tgt := 57) d_Mo_known_53 (by decide) ?_
      refine V_cV s_Mo_known_57 (mo_goes c_Mo A B true) c_Mo rfl rfl (Nat.le_of_ble_eq_true rfl) ?_
      exact kk
    · rw [decide_eq_false (by omega)] at kk
      refine V_icmp_ge (tgt := 56) d_Mo_known_49 (by decide) (fun _ => ?_) (fun c9 => absurd ((nI_le (a := 10) z (by omega) : (10 : Int32) ≤ nI ln)) c9)
      refine V_iconst (v := 0) d_Mo_known_56 (by decide) ?_
      refine V_cV s_Mo_known_57 (mo_goes c_Mo A B false) c_Mo rfl rfl (Nat.le_of_ble_eq_true rfl) ?_
      exact kk
  have mid : V l G k_Mo_known h0 22 [(0, .ref 28), (1, .int a), (2, .int b), (3, .int k)] [.int (bI A), .ref 28] h r h' := by
    refine V_iload_n d_Mo_known_22 rfl ?_
    refine V_iload_n d_Mo_known_23 rfl ?_
    refine V_icmp_eq (tgt := 42) d_Mo_known_24 (by decide) (fun c1 => ?_) (fun c1 => ?_)
    · rw [show B = false by rw [hB, decide_eq_true c1]; rfl] at mid3
      refine V_iconst (v := 0) d_Mo_known_42 (by decide) ?_
      exact mid3
    · rw [decide_eq_false c1, Bool.not_false, Bool.true_and] at hB
      refine V_iload_n d_Mo_known_27 rfl ?_
      refine V_iconst (v := 1) d_Mo_known_28 (by decide) ?_
      refine V_sipush (v := 10000) d_Mo_known_29 (by decide) ?_
      refine V_cS s_Mo_known_32 (mo_within k 1 10000) rfl rfl (Nat.le_of_ble_eq_true rfl) ?_
      refine V_if_eq (tgt := 42) d_Mo_known_35 (by decide) (fun c2 => ?_) (fun c2 => ?_)
      · rw [show B = false by rw [hB, (bI_0 _).mp c2]] at mid3
        refine V_iconst (v := 0) d_Mo_known_42 (by decide) ?_
        exact mid3
      · rw [show B = true by rw [hB]; simpa [bI_0] using c2] at mid3
        refine V_iconst (v := 1) d_Mo_known_38 (by decide) ?_
        refine V_goto (tgt := 43) d_Mo_known_39 (by decide) ?_
        exact mid3
  refine V_aload_n d_Mo_known_0 rfl ?_
  refine V_aload_n d_Mo_known_1 rfl ?_
  refine V_iload_n d_Mo_known_2 rfl ?_
  refine V_cV s_Mo_known_3 (mo_isPlace c_Mo hn a) c_Mo rfl rfl (Nat.le_of_ble_eq_true rfl) ?_
  refine V_if_eq (tgt := 21) d_Mo_known_6 (by decide) (fun c1 => ?_) (fun c1 => ?_)
  · rw [show A = false by rw [hA, (bI_0 _).mp c1]; rfl] at mid
    refine V_iconst (v := 0) d_Mo_known_21 (by decide) ?_
    exact mid
  · rw [(show hasB a pl = true by simpa [bI_0] using c1), Bool.true_and] at hA
    refine V_aload_n d_Mo_known_9 rfl ?_
    refine V_iload_n d_Mo_known_10 rfl ?_
    refine V_cV s_Mo_known_11 (mo_isPlace c_Mo hn b) c_Mo rfl rfl (Nat.le_of_ble_eq_true rfl) ?_
    refine V_if_eq (tgt := 21) d_Mo_known_14 (by decide) (fun c2 => ?_) (fun c2 => ?_)
    · rw [show A = false by rw [hA, (bI_0 _).mp c2]] at mid
      refine V_iconst (v := 0) d_Mo_known_21 (by decide) ?_
      exact mid
    · rw [show A = true by rw [hA]; simpa [bI_0] using c2] at mid
      refine V_iconst (v := 1) d_Mo_known_17 (by decide) ?_
      refine V_goto (tgt := 22) d_Mo_known_18 (by decide) ?_
      exact mid
theorem mo_known_e (c_Mo : h[27]? = some (MoO th w ht sd md pl sh sx sy ln hi)) (hn : pl ≤ 12) (hln : ln ≤ 10) (a b k : Int32) (hE : ((hasB a pl && hasB b pl) && (!decide (a = b) && wiB k 1 10000) && decide (ln < 10)) = false) : Do l G k_Mo_known [.ref 28, .int a, .int b, .int k] h (ri 0) (h.set 27 (MoO (nI (gc (hasB a pl && hasB b pl) (!decide (a = b) && wiB k 1 10000) (decide (ln < 10)))) w ht sd md pl sh sx sy ln hi)) := by
  refine Do.of (by decide) (Nat.le_of_ble_eq_true rfl) kw_Mo_known ?_
  refine mo_known_p c_Mo hn hln a b k _ _ rfl rfl ?_
  refine V_if_ne (tgt := 65) d_Mo_known_60 (by decide) (fun c9 => absurd (((bI_0 _).mpr hE)) c9) (fun _ => ?_)
  refine V_iconst (v := 0) d_Mo_known_63 (by decide) ?_
  exact V_iret d_Mo_known_64 rfl rfl
theorem mo_known (hL : 45 ≤ h.length) (hn : pl ≤ 12) (hln : ln < 10) (a b : Nat) (k : Int32) (ha : a < pl) (hb : b < pl) (hab : a ≠ b) (hk : wiB k 1 10000 = true) : Do l G k_Mo_known [.ref 28, .int (nI a), .int (nI b), .int k] (moL h th w ht sd md pl sh sx sy ln hi P F T Ln) (ri (nI (ln + 1))) (moL h 0 w ht sd md pl sh sx sy (ln + 1) hi P (updN F ln a) (updN T ln b) (upd Ln ln k)) := by
  refine Do.of (by decide) (Nat.le_of_ble_eq_true rfl) kw_Mo_known ?_
  have e1 : ¬ nI a = nI b := fun q => hab (by
    have := congrArg Int32.toInt q
    rw [nI_toInt (by omega), nI_toInt (by omega)] at this
    omega)
  refine mo_known_p (rd hL rfl rfl) hn (by omega) (nI a) (nI b) k true true (by rw [has_n ha (by omega), has_n hb (by omega)]; rfl) (by rw [decide_eq_false e1, hk]; rfl) ?_
  rw [decide_eq_true hln]
  refine V_hS rfl ?_
  refine V_if_ne (tgt := 65) d_Mo_known_60 (by decide) (fun _ => ?_) (fun c9 => absurd (c9 : _) ((by decide : ¬ bI (true && true && true) = 0)))
  refine V_aload_n d_Mo_known_65 rfl ?_
  refine V_gf g_Mo_known_66 (rd hL rfl rfl) rfl ?_
  refine V_aload_n d_Mo_known_69 rfl ?_
  refine V_gf g_Mo_known_70 (rd hL rfl rfl) rfl ?_
  refine V_iload_n d_Mo_known_73 rfl ?_
  refine V_iastN d_Mo_known_74 (rd hL rfl rfl) (Ix.of (show ln < 10 by omega) (by decide)) ?_
  refine V_hS rfl ?_
  rw [updN_I]
  refine V_aload_n d_Mo_known_75 rfl ?_
  refine V_gf g_Mo_known_76 (rd hL rfl rfl) rfl ?_
  refine V_aload_n d_Mo_known_79 rfl ?_
  refine V_gf g_Mo_known_80 (rd hL rfl rfl) rfl ?_
  refine V_iload_n d_Mo_known_83 rfl ?_
  refine V_iastN d_Mo_known_84 (rd hL rfl rfl) (Ix.of (show ln < 10 by omega) (by decide)) ?_
  refine V_hS rfl ?_
  rw [updN_I]
  refine V_aload_n d_Mo_known_85 rfl ?_
  refine V_gf g_Mo_known_86 (rd hL rfl rfl) rfl ?_
  refine V_aload_n d_Mo_known_89 rfl ?_
  refine V_gf g_Mo_known_90 (rd hL rfl rfl) rfl ?_
  refine V_iload_n d_Mo_known_93 rfl ?_
  refine V_iastN d_Mo_known_94 (rd hL rfl rfl) (Ix.of (show ln < 10 by omega) (by decide)) ?_
  refine V_hS rfl ?_
  refine V_aload_n d_Mo_known_95 rfl ?_
  refine V_dup d_Mo_known_96 rfl ?_
  refine V_gf g_Mo_known_97 (rd hL rfl rfl) rfl ?_
  refine V_iconst (v := 1) d_Mo_known_100 (by decide) ?_
  refine V_iadd d_Mo_known_101 ?_
  rw [nI_1]
  refine V_pf p_Mo_known_102 (rd hL rfl rfl) (Nat.le_of_ble_eq_true rfl) rfl rfl ?_
  refine V_hS rfl ?_
  refine V_aload_n d_Mo_known_105 rfl ?_
  refine V_gf g_Mo_known_106 (rd hL rfl rfl) rfl ?_
  exact V_iret d_Mo_known_109 rfl rfl
end P42
