section P10
variable {l : Launch} {G : Gb} {h : List Ce}
/-- a truth as an int -/
def bI (b : Bool) : Int32 := if b then 1 else 0
theorem bI_n (b : Bool) : narrow .boolean (.int (bI b)) = .int (bI b) := by cases b <;> rfl
theorem bI_v (b : Bool) : vp_nar .boolean (bI b) = bI b := by cases b <;> rfl
theorem bI_0 (b : Bool) : bI b = 0 ↔ b = false := by cases b <;> decide
theorem bI_ne (a b : Bool) : bI a = bI b ↔ a = b := by cases a <;> cases b <;> decide
abbrev IA (N : Nat) (f : Nat → Int32) : Ce := .inl (.int, N, .inl f)
abbrev ZA (N : Nat) (B : Nat → Bool) : Ce := .inl (.boolean, N, .inl (fun i => bI (B i)))
abbrev ri (x : Int32) : Rs := .inl (some (.int x))
abbrev rz (b : Bool) : Rs := .inl (some (.int (bI b)))
abbrev rl (x : Int64) : Rs := .inl (some (.long x))
abbrev rv : Rs := .inl none
def updB (B : Nat → Bool) (k : Nat) (b : Bool) : Nat → Bool := fun i => if i = k then b else B i
theorem updB_I (B : Nat → Bool) (k : Nat) (b : Bool) : upd (fun i => bI (B i)) k (bI b) = fun i => bI (updB B k b i) := by
  funext i
  simp only [upd, updB]
  by_cases e : i = k <;> simp [e]
/-- the index i is the place k of an array of N -/
def Ix (i : Int32) (k N : Nat) : Prop := i = nI k ∧ k < N ∧ N < 2 ^ 31
theorem Ix.of {k N : Nat} (h1 : k < N) (h2 : N < 2 ^ 31) : Ix (nI k) k N := ⟨rfl, h1, h2⟩
section R
variable {K : Kt} {h0 : List Ce} {pc : Nat} {ls : List (Nat × Value)} {st : List Value} {r : Rs} {h' : List Ce}
theorem V_ialdN {a N k : Nat} {f : Nat → Int32} {i : Int32} (hd : decode K.code pc = .ok (.iaload, 1)) (hcell : h[a]? = some (IA N f)) (hi : Ix i k N) (kk : V l G K h0 (pc + 1) ls (.int (f k) :: st) h r h') : V l G K h0 pc ls (.int i :: .ref (a + 1) :: st) h r h' := by
  obtain ⟨rfl, h1, h2⟩ := hi
  refine V_iald hd hcell (vp_in_nI h1 h2) ?_
  rw [nI_clamp (by omega)]
  exact kk
theorem V_zaldN {a N k : Nat} {B : Nat → Bool} {i : Int32} (hd : decode K.code pc = .ok (.baload, 1)) (hcell : h[a]? = some (ZA N B)) (hi : Ix i k N) (kk : V l G K h0 (pc + 1) ls (.int (bI (B k)) :: st) h r h') : V l G K h0 pc ls (.int i :: .ref (a + 1) :: st) h r h' := by
  obtain ⟨rfl, h1, h2⟩ := hi
  refine V_zald hd hcell (vp_in_nI h1 h2) ?_
  rw [nI_clamp (by omega)]
  exact kk
theorem V_iastN {a N k : Nat} {f : Nat → Int32} {i x : Int32} (hd : decode K.code pc = .ok (.iastore, 1)) (hcell : h[a]? = some (IA N f)) (hi : Ix i k N) (kk : V l G K h0 (pc + 1) ls st (h.set a (IA N (upd f k x))) r h') : V l G K h0 pc ls (.int x :: .int i :: .ref (a + 1) :: st) h r h' := by
  obtain ⟨rfl, h1, h2⟩ := hi
  refine V_iast hd hcell (vp_in_nI h1 h2) ?_
  rw [nI_clamp (by omega)]
  exact kk
theorem V_zastN {a N k : Nat} {B : Nat → Bool} {b : Bool} {i : Int32} (hd : decode K.code pc = .ok (.bastore, 1)) (hcell : h[a]? = some (ZA N B)) (hi : Ix i k N) (kk : V l G K h0 (pc + 1) ls st (h.set a (ZA N (updB B k b))) r h') : V l G K h0 pc ls (.int (bI b) :: .int i :: .ref (a + 1) :: st) h r h' := by
  obtain ⟨rfl, h1, h2⟩ := hi
  refine V_zast hd hcell (vp_in_nI h1 h2) (bI_v b) ?_
  rw [nI_clamp (by omega), updB_I]
  exact kk
theorem V_sldN {k : Nat} {i : Int32} (hd : decode K.code pc = .ok (.iaload, 1)) (hi : Ix i k G.L) (kk : V l G K h0 (pc + 1) ls (.int (G.xs k) :: st) h r h') : V l G K h0 pc ls (.int i :: .ref 0 :: st) h r h' := by
  obtain ⟨rfl, h1, h2⟩ := hi
  refine V_sld hd (vp_in_nI h1 h2) ?_
  rw [nI_clamp (by omega)]
  exact kk
end R
/-- a loop: n rounds, the first with i -/
def fori {σ : Type} (f : Nat → σ → σ) : Nat → Nat → σ → σ
  | 0, _, s => s
  | n + 1, i, s => fori f n (i + 1) (f i s)
def wiB (x a b : Int32) : Bool := decide (a ≤ x) && decide (x ≤ b)
theorem wi_lo {x a b : Int32} (c : x < a) : bI (wiB x a b) = 0 := by
  have : ¬ a ≤ x := by rw [Int32.le_iff_toInt_le]; rw [Int32.lt_iff_toInt_lt] at c; omega
  simp [bI, wiB, this]
theorem wi_hi {x a b : Int32} (c : b < x) : bI (wiB x a b) = 0 := by
  have : ¬ x ≤ b := by rw [Int32.le_iff_toInt_le]; rw [Int32.lt_iff_toInt_lt] at c; omega
  simp [bI, wiB, this]
theorem wi_in {x a b : Int32} (c : ¬ x < a) (d : ¬ b < x) : bI (wiB x a b) = 1 := by
  have c1 : a ≤ x := by rw [Int32.le_iff_toInt_le]; rw [Int32.lt_iff_toInt_lt] at c; omega
  have d1 : x ≤ b := by rw [Int32.le_iff_toInt_le]; rw [Int32.lt_iff_toInt_lt] at d; omega
  simp [bI, wiB, c1, d1]
theorem do_isWithin (x a b : Int32) : Do l G k_Pm_isWithin [.int x, .int a, .int b] h (rz (wiB x a b)) h := by
  refine Do.of (by decide) (Nat.le_of_ble_eq_true rfl) kw_Pm_isWithin ?_
  refine V_iload_n d_Pm_isWithin_0 rfl ?_
  refine V_iload_n d_Pm_isWithin_1 rfl ?_
  refine V_icmp_lt (tgt := 14) d_Pm_isWithin_2 (by decide) (fun c1 => ?_) (fun c1 => ?_)
  · rw [rz, wi_lo c1]
    refine V_iconst (v := 0) d_Pm_isWithin_14 (by decide) ?_
    exact V_iret d_Pm_isWithin_15 rfl (by first | rfl | exact bI_n _)
  · refine V_iload_n d_Pm_isWithin_5 rfl ?_
    refine V_iload_n d_Pm_isWithin_6 rfl ?_
    refine V_icmp_gt (tgt := 14) d_Pm_isWithin_7 (by decide) (fun c2 => ?_) (fun c2 => ?_)
    · rw [rz, wi_hi c2]
      refine V_iconst (v := 0) d_Pm_isWithin_14 (by decide) ?_
      exact V_iret d_Pm_isWithin_15 rfl (by first | rfl | exact bI_n _)
    · rw [rz, wi_in c1 c2]
      refine V_iconst (v := 1) d_Pm_isWithin_10 (by decide) ?_
      refine V_goto (tgt := 15) d_Pm_isWithin_11 (by decide) ?_
      exact V_iret d_Pm_isWithin_15 rfl (by first | rfl | exact bI_n _)
variable {w ht : Nat} {N : Nat} {f : Nat → Int32}
abbrev PhO (w ht : Nat) : Ce := .inr (3, [.int (nI w), .int (nI ht), .ref 3])
theorem do_Ph_width (c_Ph : h[1]? = some (PhO w ht)) : Do l G k_Ph_width [.ref 2] h (ri (nI w)) h := by
  refine Do.of (by decide) (Nat.le_of_ble_eq_true rfl) kw_Ph_width ?_
  refine V_aload_n d_Ph_width_0 rfl ?_
  refine V_gf g_Ph_width_1 c_Ph rfl ?_
  exact V_iret d_Ph_width_4 rfl rfl
theorem do_Ph_height (c_Ph : h[1]? = some (PhO w ht)) : Do l G k_Ph_height [.ref 2] h (ri (nI ht)) h := by
  refine Do.of (by decide) (Nat.le_of_ble_eq_true rfl) kw_Ph_height ?_
  refine V_aload_n d_Ph_height_0 rfl ?_
  refine V_gf g_Ph_height_1 c_Ph rfl ?_
  exact V_iret d_Ph_height_4 rfl rfl
theorem do_Ph_hasCell (c_Ph : h[1]? = some (PhO w ht)) (x y : Int32) : Do l G k_Ph_hasCell [.ref 2, .int x, .int y] h (rz (wiB x 0 (nI w - 1) && wiB y 0 (nI ht - 1))) h := by
  refine Do.of (by decide) (Nat.le_of_ble_eq_true rfl) kw_Ph_hasCell ?_
  refine V_iload_n d_Ph_hasCell_0 rfl ?_
  refine V_iconst (v := 0) d_Ph_hasCell_1 (by decide) ?_
  refine V_aload_n d_Ph_hasCell_2 rfl ?_
  refine V_gf g_Ph_hasCell_3 c_Ph rfl ?_
  refine V_iconst (v := 1) d_Ph_hasCell_6 (by decide) ?_
  refine V_isub d_Ph_hasCell_7 ?_
  refine V_cS s_Ph_hasCell_8 (do_isWithin x 0 (nI w - 1)) rfl rfl (Nat.le_of_ble_eq_true rfl) ?_
  refine V_if_eq (tgt := 32) d_Ph_hasCell_11 (by decide) (fun c1 => ?_) (fun c1 => ?_)
  · rw [rz, (bI_0 _).mp c1]
    refine V_iconst (v := 0) d_Ph_hasCell_32 (by decide) ?_
    exact V_iret d_Ph_hasCell_33 rfl (by first | rfl | exact bI_n _)
  · rw [(show wiB x 0 (nI w - 1) = true by simpa [bI_0] using c1)]
    refine V_iload_n d_Ph_hasCell_14 rfl ?_
    refine V_iconst (v := 0) d_Ph_hasCell_15 (by decide) ?_
    refine V_aload_n d_Ph_hasCell_16 rfl ?_
    refine V_gf g_Ph_hasCell_17 c_Ph rfl ?_
    refine V_iconst (v := 1) d_Ph_hasCell_20 (by decide) ?_
    refine V_isub d_Ph_hasCell_21 ?_
    refine V_cS s_Ph_hasCell_22 (do_isWithin y 0 (nI ht - 1)) rfl rfl (Nat.le_of_ble_eq_true rfl) ?_
    refine V_if_eq (tgt := 32) d_Ph_hasCell_25 (by decide) (fun c2 => ?_) (fun c2 => ?_)
    · rw [rz, (bI_0 _).mp c2]
      refine V_iconst (v := 0) d_Ph_hasCell_32 (by decide) ?_
      exact V_iret d_Ph_hasCell_33 rfl (by first | rfl | exact bI_n _)
    · rw [rz, (show wiB y 0 (nI ht - 1) = true by simpa [bI_0] using c2)]
      refine V_iconst (v := 1) d_Ph_hasCell_28 (by decide) ?_
      refine V_goto (tgt := 33) d_Ph_hasCell_29 (by decide) ?_
      exact V_iret d_Ph_hasCell_33 rfl (by first | rfl | exact bI_n _)
theorem do_Ph_hasWindow (c_Ph : h[1]? = some (PhO w ht)) (x y : Int32) : Do l G k_Ph_hasWindow [.ref 2, .int x, .int y] h (rz (wiB x 1 (nI w - 2) && wiB y 1 (nI ht - 2))) h := by
  refine Do.of (by decide) (Nat.le_of_ble_eq_true rfl) kw_Ph_hasWindow ?_
  refine V_iload_n d_Ph_hasWindow_0 rfl ?_
  refine V_iconst (v := 1) d_Ph_hasWindow_1 (by decide) ?_
  refine V_aload_n d_Ph_hasWindow_2 rfl ?_
  refine V_gf g_Ph_hasWindow_3 c_Ph rfl ?_
  refine V_iconst (v := 2) d_Ph_hasWindow_6 (by decide) ?_
  refine V_isub d_Ph_hasWindow_7 ?_
  refine V_cS s_Ph_hasWindow_8 (do_isWithin x 1 (nI w - 2)) rfl rfl (Nat.le_of_ble_eq_true rfl) ?_
  refine V_if_eq (tgt := 32) d_Ph_hasWindow_11 (by decide) (fun c1 => ?_) (fun c1 => ?_)
  · rw [rz, (bI_0 _).mp c1]
    refine V_iconst (v := 0) d_Ph_hasWindow_32 (by decide) ?_
    exact V_iret d_Ph_hasWindow_33 rfl (by first | rfl | exact bI_n _)
  · rw [(show wiB x 1 (nI w - 2) = true by simpa [bI_0] using c1)]
    refine V_iload_n d_Ph_hasWindow_14 rfl ?_
    refine V_iconst (v := 1) d_Ph_hasWindow_15 (by decide) ?_
    refine V_aload_n d_Ph_hasWindow_16 rfl ?_
    refine V_gf g_Ph_hasWindow_17 c_Ph rfl ?_
    refine V_iconst (v := 2) d_Ph_hasWindow_20 (by decide) ?_
    refine V_isub d_Ph_hasWindow_21 ?_
    refine V_cS s_Ph_hasWindow_22 (do_isWithin y 1 (nI ht - 2)) rfl rfl (Nat.le_of_ble_eq_true rfl) ?_
    refine V_if_eq (tgt := 32) d_Ph_hasWindow_25 (by decide) (fun c2 => ?_) (fun c2 => ?_)
    · rw [rz, (bI_0 _).mp c2]
      refine V_iconst (v := 0) d_Ph_hasWindow_32 (by decide) ?_
      exact V_iret d_Ph_hasWindow_33 rfl (by first | rfl | exact bI_n _)
    · rw [rz, (show wiB y 1 (nI ht - 2) = true by simpa [bI_0] using c2)]
      refine V_iconst (v := 1) d_Ph_hasWindow_28 (by decide) ?_
      refine V_goto (tgt := 33) d_Ph_hasWindow_29 (by decide) ?_
      exact V_iret d_Ph_hasWindow_33 rfl (by first | rfl | exact bI_n _)
/-- the place of a photo's cell -/
def px (w ht p x y : Nat) : Nat := (p * ht + y) * w + x
theorem px_lt {p x y : Nat} (hp : p < 4) (hx : x < w) (hy : y < ht) : px w ht p x y < 4 * ht * w := by
  have h1 : p * ht ≤ 3 * ht := Nat.mul_le_mul_right _ (by omega)
  have h2 : (p * ht + y + 1) * w ≤ 4 * ht * w := Nat.mul_le_mul_right _ (by omega)
  have h3 : (p * ht + y + 1) * w = (p * ht + y) * w + w := by rw [Nat.add_mul, Nat.one_mul]
  unfold px
  omega
theorem do_Ph_index (c_Ph : h[1]? = some (PhO w ht)) (p x y : Nat) : Do l G k_Ph_index [.ref 2, .int (nI p), .int (nI x), .int (nI y)] h (ri (nI (px w ht p x y))) h := by
  refine Do.of (by decide) (Nat.le_of_ble_eq_true rfl) kw_Ph_index ?_
  have e : (nI p * nI ht + nI y) * nI w + nI x = nI (px w ht p x y) := by rw [pk_mul, nI_add, pk_mul, nI_add]; rfl
  rw [← e]
  refine V_iload_n d_Ph_index_0 rfl ?_
  refine V_aload_n d_Ph_index_1 rfl ?_
  refine V_gf g_Ph_index_2 c_Ph rfl ?_
  refine V_imul d_Ph_index_5 ?_
  refine V_iload_n d_Ph_index_6 rfl ?_
  refine V_iadd d_Ph_index_7 ?_
  refine V_aload_n d_Ph_index_8 rfl ?_
  refine V_gf g_Ph_index_9 c_Ph rfl ?_
  refine V_imul d_Ph_index_12 ?_
  refine V_iload_n d_Ph_index_13 rfl ?_
  refine V_iadd d_Ph_index_14 ?_
  exact V_iret d_Ph_index_15 rfl rfl
theorem do_Ph_value (c_Ph : h[1]? = some (PhO w ht)) (a_Ph_values : h[2]? = some (IA N f)) (p x y : Nat) (hi : px w ht p x y < N) (hN : N < 2 ^ 31) : Do l G k_Ph_value [.ref 2, .int (nI p), .int (nI x), .int (nI y)] h (ri (f (px w ht p x y))) h := by
  refine Do.of (by decide) (Nat.le_of_ble_eq_true rfl) kw_Ph_value ?_
  refine V_aload_n d_Ph_value_0 rfl ?_
  refine V_gf g_Ph_value_1 c_Ph rfl ?_
  refine V_aload_n d_Ph_value_4 rfl ?_
  refine V_iload_n d_Ph_value_5 rfl ?_
  refine V_iload_n d_Ph_value_6 rfl ?_
  refine V_iload_n d_Ph_value_7 rfl ?_
  refine V_cV s_Ph_value_8 (do_Ph_index c_Ph p x y) c_Ph rfl rfl (Nat.le_of_ble_eq_true rfl) ?_
  refine V_ialdN d_Ph_value_11 a_Ph_values (Ix.of hi hN) ?_
  exact V_iret d_Ph_value_12 rfl rfl
theorem do_Ph_change (c_Ph : h[1]? = some (PhO w ht)) (a_Ph_values : h[2]? = some (IA N f)) (p x y : Nat) (v : Int32) (hi : px w ht p x y < N) (hN : N < 2 ^ 31) : Do l G k_Ph_change [.ref 2, .int (nI p), .int (nI x), .int (nI y), .int v] h (ri (f (px w ht p x y))) (h.set 2 (IA N (upd f (px w ht p x y) v))) := by
  refine Do.of (by decide) (Nat.le_of_ble_eq_true rfl) kw_Ph_change ?_
  refine V_aload_n d_Ph_change_0 rfl ?_
  refine V_iload_n d_Ph_change_1 rfl ?_
  refine V_iload_n d_Ph_change_2 rfl ?_
  refine V_iload_n d_Ph_change_3 rfl ?_
  refine V_cV s_Ph_change_4 (do_Ph_index c_Ph p x y) c_Ph rfl rfl (Nat.le_of_ble_eq_true rfl) ?_
  refine V_istore d_Ph_change_7 (by decide) rfl ?_
  refine V_aload_n d_Ph_change_9 rfl ?_
  refine V_gf g_Ph_change_10 c_Ph rfl ?_
  refine V_iload d_Ph_change_13 rfl ?_
  refine V_ialdN d_Ph_change_15 a_Ph_values (Ix.of hi hN) ?_
  refine V_istore d_Ph_change_16 (by decide) rfl ?_
  refine V_aload_n d_Ph_change_18 rfl ?_
  refine V_gf g_Ph_change_19 c_Ph rfl ?_
  refine V_iload d_Ph_change_22 rfl ?_
  refine V_iload d_Ph_change_24 rfl ?_
  refine V_iastN d_Ph_change_26 a_Ph_values (Ix.of hi hN) ?_
  refine V_iload d_Ph_change_27 rfl ?_
  exact V_iret d_Ph_change_29 rfl rfl
/-- the square of a difference -/
def sqd (a b : Int32) : Int32 := (a - b) * (a - b)
theorem nI_dn {a d : Nat} (h : 1 ≤ a) : nI a + (nI d - 1) = nI (a - 1 + d) := by
  obtain ⟨b, rfl⟩ : ∃ b, a = b + 1 := ⟨a - 1, by omega⟩
  rw [Nat.add_sub_cancel, ← nI_add b d, ← nI_add b 1, show nI 1 = (1 : Int32) from by decide]
  rw [Int32.add_assoc, Int32.sub_eq_add_neg, ← Int32.add_assoc 1, Int32.add_comm 1 (nI d), Int32.add_assoc (nI d), Int32.add_right_neg, Int32.add_zero]
theorem nI_dn1 (d : Nat) : nI d - 1 + 1 = nI (d + 1) - 1 := by
  rw [← nI_1, Int32.sub_eq_add_neg, Int32.sub_eq_add_neg, Int32.add_assoc, Int32.add_assoc, Int32.add_comm (-1) 1]
/-- the miss of two windows -/
def wmiss (f : Nat → Int32) (w ht a ax ay b bx y : Nat) : Int32 :=
  fori (fun d t => fori (fun e t => t + sqd (f (px w ht a ax (ay - 1 + d) - 1 + e)) (f (px w ht b bx (y - 1 + d) - 1 + e))) 3 0 t) 3 0 0
theorem do_Ph_windowMiss (c_Ph : h[1]? = some (PhO w ht)) (a_Ph_values : h[2]? = some (IA (4 * ht * w) f)) (hw : w ≤ 20) (hht : ht ≤ 20) (a ax ay b bx y : Nat) (ha : a < 4) (hb : b < 4) (hax : 1 ≤ ax ∧ ax + 1 < w) (hay : 1 ≤ ay ∧ ay + 1 < ht) (hbx : 1 ≤ bx ∧ bx + 1 < w) (hy : 1 ≤ y ∧ y + 1 < ht) : Do l G k_Ph_windowMiss [.ref 2, .int (nI a), .int (nI ax), .int (nI ay), .int (nI b), .int (nI bx), .int (nI y)] h (ri (wmiss f w ht a ax ay b bx y)) h := by
  refine Do.of (by decide) (Nat.le_of_ble_eq_true rfl) kw_Ph_windowMiss ?_
  have hN : 4 * ht * w < 2 ^ 31 := by
    have : 4 * ht * w ≤ 4 * 20 * 20 := Nat.mul_le_mul (Nat.mul_le_mul_left _ hht) hw
    omega
  have inner : ∀ (d : Nat), d < 3 → ∀ (n e : Nat) (t : Int32), e + n = 3 → V l G k_Ph_windowMiss h 87 [(0, .ref 2), (1, .int (nI a)), (2, .int (nI ax)), (3, .int (nI ay)), (4, .int (nI b)), (5, .int (nI bx)), (6, .int (nI y)), (7, .int (fori (fun e t => t + sqd (f (px w ht a ax (ay - 1 + d) - 1 + e)) (f (px w ht b bx (y - 1 + d) - 1 + e))) n e t)), (8, .int (nI d - 1))] [] h (ri (wmiss f w ht a ax ay b bx y)) h → V l G k_Ph_windowMiss h 42 [(0, .ref 2), (1, .int (nI a)), (2, .int (nI ax)), (3, .int (nI ay)), (4, .int (nI b)), (5, .int (nI bx)), (6, .int (nI y)), (7, .int t), (8, .int (nI d - 1)), (9, .int (nI (px w ht a ax (ay - 1 + d)))), (10, .int (nI (px w ht b bx (y - 1 + d)))), (11, .int (nI e - 1))] [] h (ri (wmiss f w ht a ax ay b bx y)) h := by
    intro d hd n
    induction n with
    | zero =>
      intro e t he kk
      obtain rfl : e = 3 := by omega
      refine V_iload d_Ph_windowMiss_42 rfl ?_
      refine V_iconst (v := 1) d_Ph_windowMiss_44 (by decide) ?_
      refine V_icmp_gt (tgt := 87) d_Ph_windowMiss_45 (by decide) (fun _ => ?_) (fun c9 => absurd ((by decide : (1 : Int32) < nI 3 - 1)) c9)
      exact V_keep [0, 1, 2, 3, 4, 5, 6, 7, 8] kk
    | succ n ih =>
      intro e t he kk
      have hpa := px_lt (w := w) (ht := ht) (x := ax + 1) (y := ay - 1 + d) ha (by omega) (by omega)
      have hpb := px_lt (w := w) (ht := ht) (x := bx + 1) (y := y - 1 + d) hb (by omega) (by omega)
      have ea : px w ht a (ax + 1) (ay - 1 + d) = px w ht a ax (ay - 1 + d) + 1 := rfl
      have eb : px w ht b (bx + 1) (y - 1 + d) = px w ht b bx (y - 1 + d) + 1 := rfl
      have ga : 1 ≤ px w ht a ax (ay - 1 + d) := by unfold px; omega
      have gb : 1 ≤ px w ht b bx (y - 1 + d) := by unfold px; omega
      refine V_iload d_Ph_windowMiss_42 rfl ?_
      refine V_iconst (v := 1) d_Ph_windowMiss_44 (by decide) ?_
      refine V_icmp_gt (tgt := 87) d_Ph_windowMiss_45 (by decide) (fun c9 => absurd c9 ((by rcases (show e = 0 ∨ e = 1 ∨ e = 2 by omega) with q | q | q <;> subst q <;> decide : ¬ (1 : Int32) < nI e - 1))) (fun _ => ?_)
      refine V_aload_n d_Ph_windowMiss_48 rfl ?_
      refine V_gf g_Ph_windowMiss_49 c_Ph rfl ?_
      refine V_iload d_Ph_windowMiss_52 rfl ?_
      refine V_iload d_Ph_windowMiss_54 rfl ?_
      refine V_iadd d_Ph_windowMiss_56 ?_
      refine V_ialdN d_Ph_windowMiss_57 a_Ph_values (⟨nI_dn ga, by omega, hN⟩) ?_
      refine V_aload_n d_Ph_windowMiss_58 rfl ?_
      refine V_gf g_Ph_windowMiss_59 c_Ph rfl ?_
      refine V_iload d_Ph_windowMiss_62 rfl ?_
      refine V_iload d_Ph_windowMiss_64 rfl ?_
      refine V_iadd d_Ph_windowMiss_66 ?_
      refine V_ialdN d_Ph_windowMiss_67 a_Ph_values (⟨nI_dn gb, by omega, hN⟩) ?_
      refine V_isub d_Ph_windowMiss_68 ?_
      refine V_istore d_Ph_windowMiss_69 (by decide) rfl ?_
      refine V_iload d_Ph_windowMiss_71 rfl ?_
      refine V_iload d_Ph_windowMiss_73 rfl ?_
      refine V_iload d_Ph_windowMiss_75 rfl ?_
      refine V_imul d_Ph_windowMiss_77 ?_
      refine V_iadd d_Ph_windowMiss_78 ?_
      refine V_istore d_Ph_windowMiss_79 (by decide) rfl ?_
      refine V_iinc1 d_Ph_windowMiss_81 rfl (by decide) rfl ?_
      refine V_goto (tgt := 42) d_Ph_windowMiss_84 (by decide) ?_
      refine V_keep [0, 1, 2, 3, 4, 5, 6, 7, 8, 9, 10, 11] ?_
      rw [nI_dn1]
      exact ih (e + 1) _ (by omega) kk
  have outer : ∀ (n d : Nat) (t : Int32), d + n = 3 → wmiss f w ht a ax ay b bx y = fori (fun d t => fori (fun e t => t + sqd (f (px w ht a ax (ay - 1 + d) - 1 + e)) (f (px w ht b bx (y - 1 + d) - 1 + e))) 3 0 t) n d t → V l G k_Ph_windowMiss h 6 [(0, .ref 2), (1, .int (nI a)), (2, .int (nI ax)), (3, .int (nI ay)), (4, .int (nI b)), (5, .int (nI bx)), (6, .int (nI y)), (7, .int t), (8, .int (nI d - 1))] [] h (ri (wmiss f w ht a ax ay b bx y)) h := by
    intro n
    induction n with
    | zero =>
      intro d t hd e
      obtain rfl : d = 3 := by omega
      rw [e]
      refine V_iload d_Ph_windowMiss_6 rfl ?_
      refine V_iconst (v := 1) d_Ph_windowMiss_8 (by decide) ?_
      refine V_icmp_gt (tgt := 93) d_Ph_windowMiss_9 (by decide) (fun _ => ?_) (fun c9 => absurd ((by decide : (1 : Int32) < nI 3 - 1)) c9)
      refine V_iload d_Ph_windowMiss_93 rfl ?_
      exact V_iret d_Ph_windowMiss_95 rfl rfl
    | succ n ih =>
      intro d t hd e
      refine V_iload d_Ph_windowMiss_6 rfl ?_
      refine V_iconst (v := 1) d_Ph_windowMiss_8 (by decide) ?_
      refine V_icmp_gt (tgt := 93) d_Ph_windowMiss_9 (by decide) (fun c9 => absurd c9 ((by rcases (show d = 0 ∨ d = 1 ∨ d = 2 by omega) with q | q | q <;> subst q <;> decide : ¬ (1 : Int32) < nI d - 1))) (fun _ => ?_)
      refine V_aload_n d_Ph_windowMiss_12 rfl ?_
      refine V_iload_n d_Ph_windowMiss_13 rfl ?_
      refine V_iload_n d_Ph_windowMiss_14 rfl ?_
      refine V_iload_n d_Ph_windowMiss_15 rfl ?_
      refine V_iload d_Ph_windowMiss_16 rfl ?_
      refine V_iadd d_Ph_windowMiss_18 ?_
      rw [nI_dn hay.1]
      refine V_cV s_Ph_windowMiss_19 (do_Ph_index c_Ph a ax (ay - 1 + d)) c_Ph rfl rfl (Nat.le_of_ble_eq_true rfl) ?_
      refine V_istore d_Ph_windowMiss_22 (by decide) rfl ?_
      refine V_aload_n d_Ph_windowMiss_24 rfl ?_
      refine V_iload d_Ph_windowMiss_25 rfl ?_
      refine V_iload d_Ph_windowMiss_27 rfl ?_
      refine V_iload d_Ph_windowMiss_29 rfl ?_
      refine V_iload d_Ph_windowMiss_31 rfl ?_
      refine V_iadd d_Ph_windowMiss_33 ?_
      rw [nI_dn hy.1]
      refine V_cV s_Ph_windowMiss_34 (do_Ph_index c_Ph b bx (y - 1 + d)) c_Ph rfl rfl (Nat.le_of_ble_eq_true rfl) ?_
      refine V_istore d_Ph_windowMiss_37 (by decide) rfl ?_
      refine V_iconst (v := (-1)) d_Ph_windowMiss_39 (by decide) ?_
      refine V_istore d_Ph_windowMiss_40 (by decide) rfl ?_
      refine inner d (by omega) 3 0 t (by omega) ?_
      refine V_iinc1 d_Ph_windowMiss_87 rfl (by decide) rfl ?_
      refine V_goto (tgt := 6) d_Ph_windowMiss_90 (by decide) ?_
      rw [nI_dn1]
      exact ih (d + 1) _ (by omega) e
  refine V_iconst (v := 0) d_Ph_windowMiss_0 (by decide) ?_
  refine V_istore d_Ph_windowMiss_1 (by decide) rfl ?_
  refine V_iconst (v := (-1)) d_Ph_windowMiss_3 (by decide) ?_
  refine V_istore d_Ph_windowMiss_4 (by decide) rfl ?_
  exact outer 3 0 0 (by omega) rfl
end P10
