section P48
variable {l : Launch} {G : Gb} {h : List Ce} {w ht sd : Nat}
theorem cl1 {x a b : Int32} (hx : x < a) (hab : a < b) : clI x a b = a := by
  rw [Int32.lt_iff_toInt_lt] at hx hab
  unfold clI
  rw [if_pos (show x < b by rw [Int32.lt_iff_toInt_lt]; omega), if_neg (by rw [Int32.lt_iff_toInt_lt]; omega)]
theorem cl2 {x a b : Int32} (h1 : a ≤ x) (h2 : x ≤ b) : clI x a b = x := by
  rw [Int32.le_iff_toInt_le] at h1 h2
  unfold clI
  by_cases q : x < b
  · rw [if_pos q]
    by_cases z : a < x
    · rw [if_pos z]
    · rw [if_neg z]
      rw [Int32.lt_iff_toInt_lt] at z
      exact Int32.toInt_inj.mp (by omega)
  · rw [if_neg q]
    rw [Int32.lt_iff_toInt_lt] at q
    have e : x = b := Int32.toInt_inj.mp (by omega)
    subst e
    by_cases z : a < x
    · rw [if_pos z]
    · rw [if_neg z]
      rw [Int32.lt_iff_toInt_lt] at z
      exact Int32.toInt_inj.mp (by omega)
theorem cl3 {x a b : Int32} (hx : b < x) (hab : a < b) : clI x a b = b := by
  rw [Int32.lt_iff_toInt_lt] at hx
  unfold clI
  rw [if_neg (show ¬ x < b by rw [Int32.lt_iff_toInt_lt]; omega), if_pos hab]
theorem clN (x : Int32) {a b : Nat} (hab : a < b) (hb : b < 2 ^ 31) : ∃ n, a ≤ n ∧ n ≤ b ∧ clI x (nI a) (nI b) = nI n := by
  by_cases q : x < nI a
  · exact ⟨a, by omega, by omega, cl1 q (nI_lt hab hb)⟩
  · by_cases z : nI b < x
    · exact ⟨b, by omega, by omega, cl3 z (nI_lt hab hb)⟩
    · have h1 := nlt_iff.mp q
      have h2 := nlt_iff.mp z
      rw [Int32.le_iff_toInt_le, nI_toInt (by omega)] at h1
      rw [Int32.le_iff_toInt_le, nI_toInt hb] at h2
      refine ⟨x.toInt.toNat, by omega, by omega, ?_⟩
      rw [cl2 (nlt_iff.mp q) (nlt_iff.mp z)]
      exact Int32.toInt_inj.mp (by rw [nI_toInt (by omega)]; omega)
abbrev nX : Nat → Int32 := fori (fun k f => upd f k (-1)) 48 0 zI
/-- the model's cells, as it is made -/
def m0 (w ht sd : Nat) : List Ce := [MoO 0 w ht sd false 0 false 0 0 0 false, IA 1600 zI, IA 3 zI, IA 48 nX, IA 48 zI, ZA 12 zB, IA 24 zI, IA 8 zI, IA 24 zI, IA 8 zI, IA 10 zI, IA 10 zI, IA 10 zI, IA 400 zI, IA 400 zI, IA 120 zI, ZA 400 zB, ZA 400 zB]
theorem mo_init_l (c0 c1 c2 c3 c4 c5 c6 c7 c8 c9 c10 c11 c12 c13 c14 c15 c16 c17 c18 c19 c20 c21 c22 c23 c24 c25 c26 : Ce) (H0 : List Ce) (w0 h9 s0 : Int32) : ∀ (m k : Nat) (f : Nat → Int32), k + m = 48 → nX = fori (fun k f => upd f k (-1)) m k f → V l G k_Mo_init H0 225 [(0, .ref 28), (1, .int w0), (2, .int h9), (3, .int s0), (4, .int (nI k))] [] [c0, c1, c2, c3, c4, c5, c6, c7, c8, c9, c10, c11, c12, c13, c14, c15, c16, c17, c18, c19, c20, c21, c22, c23, c24, c25, c26, MoO 0 w ht sd false 0 false 0 0 0 false, IA 1600 zI, IA 3 zI, IA 48 f, IA 48 zI, ZA 12 zB, IA 24 zI, IA 8 zI, IA 24 zI, IA 8 zI, IA 10 zI, IA 10 zI, IA 10 zI, IA 400 zI, IA 400 zI, IA 120 zI, ZA 400 zB, ZA 400 zB] rv [c0, c1, c2, c3, c4, c5, c6, c7, c8, c9, c10, c11, c12, c13, c14, c15, c16, c17, c18, c19, c20, c21, c22, c23, c24, c25, c26, MoO 0 w ht sd false 0 false 0 0 0 false, IA 1600 zI, IA 3 zI, IA 48 nX, IA 48 zI, ZA 12 zB, IA 24 zI, IA 8 zI, IA 24 zI, IA 8 zI, IA 10 zI, IA 10 zI, IA 10 zI, IA 400 zI, IA 400 zI, IA 120 zI, ZA 400 zB, ZA 400 zB] := by
  intro m
  induction m with
  | zero =>
    intro k f hk e
    obtain rfl : k = 48 := by omega
    rw [show f = nX from e.symm]
    refine V_iload d_Mo_init_225 rfl ?_
    refine V_bipush (v := 48) d_Mo_init_227 (by decide) ?_
    refine V_icmp_ge (tgt := 246) d_Mo_init_229 (by decide) (fun _ => ?_) (fun c9 => absurd ((by decide : (48 : Int32) ≤ nI 48)) c9)
    exact V_vret d_Mo_init_246 rfl
  | succ m ih =>
    intro k f hk e
    rw [fori_s] at e
    have i2 := ih (k + 1) _ (by omega) e
    refine V_iload d_Mo_init_225 rfl ?_
    refine V_bipush (v := 48) d_Mo_init_227 (by decide) ?_
    refine V_icmp_ge (tgt := 246) d_Mo_init_229 (by decide) (fun c9 => absurd c9 ((nI_ge (b := 48) (by omega) (by decide) : ¬ (48 : Int32) ≤ nI k))) (fun _ => ?_)
    refine V_aload_n d_Mo_init_232 rfl ?_
    refine V_gf g_Mo_init_233 rfl rfl ?_
    refine V_iload d_Mo_init_236 rfl ?_
    refine V_iconst (v := (-1)) d_Mo_init_238 (by decide) ?_
    refine V_iastN d_Mo_init_239 rfl (Ix.of (show k < 48 by omega) (by decide)) ?_
    refine V_iinc1 d_Mo_init_240 rfl (by decide) rfl ?_
    refine V_goto (tgt := 225) d_Mo_init_243 (by decide) ?_
    rw [nI_1]
    exact i2
theorem mo_init_c (c0 c1 c2 c3 c4 c5 c6 c7 c8 c9 c10 c11 c12 c13 c14 c15 c16 c17 c18 c19 c20 c21 c22 c23 c24 c25 c26 : Ce) (H0 : List Ce) (w0 h9 s0 : Int32) (ew : clI w0 6 20 = nI w) (eh : clI h9 6 20 = nI ht) (es : clI s0 0 65536 = nI sd) : V l G k_Mo_init H0 144 [(0, .ref 28), (1, .int w0), (2, .int h9), (3, .int s0)] [] [c0, c1, c2, c3, c4, c5, c6, c7, c8, c9, c10, c11, c12, c13, c14, c15, c16, c17, c18, c19, c20, c21, c22, c23, c24, c25, c26, .inr (8, [.int 0, .int 0, .int 0, .int 0, .ref 29, .int 0, .ref 30, .int 0, .ref 31, .ref 32, .ref 33, .ref 34, .ref 35, .ref 36, .ref 37, .int 0, .int 0, .int 0, .int 0, .ref 38, .ref 39, .ref 40, .int 0, .ref 41, .ref 42, .ref 43, .ref 44, .ref 45]), IA 1600 zI, IA 3 zI, IA 48 zI, IA 48 zI, ZA 12 zB, IA 24 zI, IA 8 zI, IA 24 zI, IA 8 zI, IA 10 zI, IA 10 zI, IA 10 zI, IA 400 zI, IA 400 zI, IA 120 zI, ZA 400 zB, ZA 400 zB] rv [c0, c1, c2, c3, c4, c5, c6, c7, c8, c9, c10, c11, c12, c13, c14, c15, c16, c17, c18, c19, c20, c21, c22, c23, c24, c25, c26, MoO 0 w ht sd false 0 false 0 0 0 false, IA 1600 zI, IA 3 zI, IA 48 nX, IA 48 zI, ZA 12 zB, IA 24 zI, IA 8 zI, IA 24 zI, IA 8 zI, IA 10 zI, IA 10 zI, IA 10 zI, IA 400 zI, IA 400 zI, IA 120 zI, ZA 400 zB, ZA 400 zB] := by
  have p3 : V l G k_Mo_init H0 219 [(0, .ref 28), (1, .int w0), (2, .int h9), (3, .int s0)] [.int (nI sd), .ref 28] [c0, c1, c2, c3, c4, c5, c6, c7, c8, c9, c10, c11, c12, c13, c14, c15, c16, c17, c18, c19, c20, c21, c22, c23, c24, c25, c26, .inr (8, [.int 0, .int (nI w), .int (nI ht), .int 0, .ref 29, .int 0, .ref 30, .int 0, .ref 31, .ref 32, .ref 33, .ref 34, .ref 35, .ref 36, .ref 37, .int 0, .int 0, .int 0, .int 0, .ref 38, .ref 39, .ref 40, .int 0, .ref 41, .ref 42, .ref 43, .ref 44, .ref 45]), IA 1600 zI, IA 3 zI, IA 48 zI, IA 48 zI, ZA 12 zB, IA 24 zI, IA 8 zI, IA 24 zI, IA 8 zI, IA 10 zI, IA 10 zI, IA 10 zI, IA 400 zI, IA 400 zI, IA 120 zI, ZA 400 zB, ZA 400 zB] rv [c0, c1, c2, c3, c4, c5, c6, c7, c8, c9, c10, c11, c12, c13, c14, c15, c16, c17, c18, c19, c20, c21, c22, c23, c24, c25, c26, MoO 0 w ht sd false 0 false 0 0 0 false, IA 1600 zI, IA 3 zI, IA 48 nX, IA 48 zI, ZA 12 zB, IA 24 zI, IA 8 zI, IA 24 zI, IA 8 zI, IA 10 zI, IA 10 zI, IA 10 zI, IA 400 zI, IA 400 zI, IA 120 zI, ZA 400 zB, ZA 400 zB] := by
    refine V_pf p_Mo_init_219 rfl (Nat.le_of_ble_eq_true rfl) rfl rfl ?_
    refine V_iconst (v := 0) d_Mo_init_222 (by decide) ?_
    refine V_istore d_Mo_init_223 (by decide) rfl ?_
    exact mo_init_l c0 c1 c2 c3 c4 c5 c6 c7 c8 c9 c10 c11 c12 c13 c14 c15 c16 c17 c18 c19 c20 c21 c22 c23 c24 c25 c26 H0 w0 h9 s0 48 0 zI (by omega) rfl
  have p2 : V l G k_Mo_init H0 195 [(0, .ref 28), (1, .int w0), (2, .int h9), (3, .int s0)] [.int (nI ht), .ref 28] [c0, c1, c2, c3, c4, c5, c6, c7, c8, c9, c10, c11, c12, c13, c14, c15, c16, c17, c18, c19, c20, c21, c22, c23, c24, c25, c26, .inr (8, [.int 0, .int (nI w), .int 0, .int 0, .ref 29, .int 0, .ref 30, .int 0, .ref 31, .ref 32, .ref 33, .ref 34, .ref 35, .ref 36, .ref 37, .int 0, .int 0, .int 0, .int 0, .ref 38, .ref 39, .ref 40, .int 0, .ref 41, .ref 42, .ref 43, .ref 44, .ref 45]), IA 1600 zI, IA 3 zI, IA 48 zI, IA 48 zI, ZA 12 zB, IA 24 zI, IA 8 zI, IA 24 zI, IA 8 zI, IA 10 zI, IA 10 zI, IA 10 zI, IA 400 zI, IA 400 zI, IA 120 zI, ZA 400 zB, ZA 400 zB] rv [c0, c1, c2, c3, c4, c5, c6, c7, c8, c9, c10, c11, c12, c13, c14, c15, c16, c17, c18, c19, c20, c21, c22, c23, c24, c25, c26, MoO 0 w ht sd false 0 false 0 0 0 false, IA 1600 zI, IA 3 zI, IA 48 nX, IA 48 zI, ZA 12 zB, IA 24 zI, IA 8 zI, IA 24 zI, IA 8 zI, IA 10 zI, IA 10 zI, IA 10 zI, IA 400 zI, IA 400 zI, IA 120 zI, ZA 400 zB, ZA 400 zB] := by
    refine V_pf p_Mo_init_195 rfl (Nat.le_of_ble_eq_true rfl) rfl rfl ?_
    refine V_aload_n d_Mo_init_198 rfl ?_
    refine V_iload_n d_Mo_init_199 rfl ?_
    refine V_if_ge (tgt := 207) d_Mo_init_200 (by decide) (fun c1 => ?_) (fun c1 => ?_)
    · refine V_iload_n d_Mo_init_207 rfl ?_
      refine V_ldc d_Mo_init_208 c_Mo_init_208 ?_
      refine V_icmp_le (tgt := 218) d_Mo_init_210 (by decide) (fun c2 => ?_) (fun c2 => ?_)
      · rw [← es, cl2 c1 c2] at p3
        refine V_iload_n d_Mo_init_218 rfl ?_
        exact p3
      · rw [← es, cl3 (nle_iff.mp c2) (by decide)] at p3
        refine V_ldc d_Mo_init_213 c_Mo_init_213 ?_
        refine V_goto (tgt := 219) d_Mo_init_215 (by decide) ?_
        exact p3
    · rw [← es, cl1 (nle_iff.mp c1) (by decide)] at p3
      refine V_iconst (v := 0) d_Mo_init_203 (by decide) ?_
      refine V_goto (tgt := 219) d_Mo_init_204 (by decide) ?_
      exact p3
  have p1 : V l G k_Mo_init H0 168 [(0, .ref 28), (1, .int w0), (2, .int h9), (3, .int s0)] [.int (nI w), .ref 28] [c0, c1, c2, c3, c4, c5, c6, c7, c8, c9, c10, c11, c12, c13, c14, c15, c16, c17, c18, c19, c20, c21, c22, c23, c24, c25, c26, .inr (8, [.int 0, .int 0, .int 0, .int 0, .ref 29, .int 0, .ref 30, .int 0, .ref 31, .ref 32, .ref 33, .ref 34, .ref 35, .ref 36, .ref 37, .int 0, .int 0, .int 0, .int 0, .ref 38, .ref 39, .ref 40, .int 0, .ref 41, .ref 42, .ref 43, .ref 44, .ref 45]), IA 1600 zI, IA 3 zI, IA 48 zI, IA 48 zI, ZA 12 zB, IA 24 zI, IA 8 zI, IA 24 zI, IA 8 zI, IA 10 zI, IA 10 zI, IA 10 zI, IA 400 zI, IA 400 zI, IA 120 zI, ZA 400 zB, ZA 400 zB] rv [c0, c1, c2, c3, c4, c5, c6, c7, c8, c9, c10, c11, c12, c13, c14, c15, c16, c17, c18, c19, c20, c21, c22, c23, c24, c25, c26, MoO 0 w ht sd false 0 false 0 0 0 false, IA 1600 zI, IA 3 zI, IA 48 nX, IA 48 zI, ZA 12 zB, IA 24 zI, IA 8 zI, IA 24 zI, IA 8 zI, IA 10 zI, IA 10 zI, IA 10 zI, IA 400 zI, IA 400 zI, IA 120 zI, ZA 400 zB, ZA 400 zB] := by
    refine V_pf p_Mo_init_168 rfl (Nat.le_of_ble_eq_true rfl) rfl rfl ?_
    refine V_aload_n d_Mo_init_171 rfl ?_
    refine V_iload_n d_Mo_init_172 rfl ?_
    refine V_bipush (v := 6) d_Mo_init_173 (by decide) ?_
    refine V_icmp_ge (tgt := 183) d_Mo_init_175 (by decide) (fun c1 => ?_) (fun c1 => ?_)
    · refine V_iload_n d_Mo_init_183 rfl ?_
      refine V_bipush (v := 20) d_Mo_init_184 (by decide) ?_
      refine V_icmp_le (tgt := 194) d_Mo_init_186 (by decide) (fun c2 => ?_) (fun c2 => ?_)
      · rw [← eh, cl2 c1 c2] at p2
        refine V_iload_n d_Mo_init_194 rfl ?_
        exact p2
      · rw [← eh, cl3 (nle_iff.mp c2) (by decide)] at p2
        refine V_bipush (v := 20) d_Mo_init_189 (by decide) ?_
        refine V_goto (tgt := 195) d_Mo_init_191 (by decide) ?_
        exact p2
    · rw [← eh, cl1 (nle_iff.mp c1) (by decide)] at p2
      refine V_bipush (v := 6) d_Mo_init_178 (by decide) ?_
      refine V_goto (tgt := 195) d_Mo_init_180 (by decide) ?_
      exact p2
  refine V_aload_n d_Mo_init_144 rfl ?_
  refine V_iload_n d_Mo_init_145 rfl ?_
  refine V_bipush (v := 6) d_Mo_init_146 (by decide) ?_
  refine V_icmp_ge (tgt := 156) d_Mo_init_148 (by decide) (fun c1 => ?_) (fun c1 => ?_)
  · refine V_iload_n d_Mo_init_156 rfl ?_
    refine V_bipush (v := 20) d_Mo_init_157 (by decide) ?_
    refine V_icmp_le (tgt := 167) d_Mo_init_159 (by decide) (fun c2 => ?_) (fun c2 => ?_)
    · rw [← ew, cl2 c1 c2] at p1
      refine V_iload_n d_Mo_init_167 rfl ?_
      exact p1
    · rw [← ew, cl3 (nle_iff.mp c2) (by decide)] at p1
      refine V_bipush (v := 20) d_Mo_init_162 (by decide) ?_
      refine V_goto (tgt := 168) d_Mo_init_164 (by decide) ?_
      exact p1
  · rw [← ew, cl1 (nle_iff.mp c1) (by decide)] at p1
    refine V_bipush (v := 6) d_Mo_init_151 (by decide) ?_
    refine V_goto (tgt := 168) d_Mo_init_153 (by decide) ?_
    exact p1
theorem mo_init_12 (c0 c1 c2 c3 c4 c5 c6 c7 c8 c9 c10 c11 c12 c13 c14 c15 c16 c17 c18 c19 c20 c21 c22 c23 c24 c25 c26 : Ce) (H0 : List Ce) (w0 h9 s0 : Int32) (ew : clI w0 6 20 = nI w) (eh : clI h9 6 20 = nI ht) (es : clI s0 0 65536 = nI sd) : V l G k_Mo_init H0 100 [(0, .ref 28), (1, .int w0), (2, .int h9), (3, .int s0)] [] [c0, c1, c2, c3, c4, c5, c6, c7, c8, c9, c10, c11, c12, c13, c14, c15, c16, c17, c18, c19, c20, c21, c22, c23, c24, c25, c26, .inr (8, [.int 0, .int 0, .int 0, .int 0, .ref 29, .int 0, .ref 30, .int 0, .ref 31, .ref 32, .ref 33, .ref 34, .ref 35, .ref 36, .ref 37, .int 0, .int 0, .int 0, .int 0, .ref 38, .ref 39, .ref 40, .int 0, .null, .null, .null, .null, .null]), IA 1600 zI, IA 3 zI, IA 48 zI, IA 48 zI, ZA 12 zB, IA 24 zI, IA 8 zI, IA 24 zI, IA 8 zI, IA 10 zI, IA 10 zI, IA 10 zI] rv [c0, c1, c2, c3, c4, c5, c6, c7, c8, c9, c10, c11, c12, c13, c14, c15, c16, c17, c18, c19, c20, c21, c22, c23, c24, c25, c26, MoO 0 w ht sd false 0 false 0 0 0 false, IA 1600 zI, IA 3 zI, IA 48 nX, IA 48 zI, ZA 12 zB, IA 24 zI, IA 8 zI, IA 24 zI, IA 8 zI, IA 10 zI, IA 10 zI, IA 10 zI, IA 400 zI, IA 400 zI, IA 120 zI, ZA 400 zB, ZA 400 zB] := by
  refine V_aload_n d_Mo_init_100 rfl ?_
  refine V_sipush (v := 400) d_Mo_init_101 (by decide) ?_
  refine V_newiN d_Mo_init_104 tw_ai ((⟨rfl, by decide⟩ : (400 : Int32) = nI 400 ∧ _)) ?_
  refine V_pf p_Mo_init_106 rfl (Nat.le_of_ble_eq_true rfl) rfl rfl ?_
  refine V_eqh (h2 := [c0, c1, c2, c3, c4, c5, c6, c7, c8, c9, c10, c11, c12, c13, c14, c15, c16, c17, c18, c19, c20, c21, c22, c23, c24, c25, c26, .inr (8, [.int 0, .int 0, .int 0, .int 0, .ref 29, .int 0, .ref 30, .int 0, .ref 31, .ref 32, .ref 33, .ref 34, .ref 35, .ref 36, .ref 37, .int 0, .int 0, .int 0, .int 0, .ref 38, .ref 39, .ref 40, .int 0, .ref 41, .null, .null, .null, .null]), IA 1600 zI, IA 3 zI, IA 48 zI, IA 48 zI, ZA 12 zB, IA 24 zI, IA 8 zI, IA 24 zI, IA 8 zI, IA 10 zI, IA 10 zI, IA 10 zI, IA 400 zI]) rfl ?_
  refine V_aload_n d_Mo_init_109 rfl ?_
  refine V_sipush (v := 400) d_Mo_init_110 (by decide) ?_
  refine V_newiN d_Mo_init_113 tw_ai ((⟨rfl, by decide⟩ : (400 : Int32) = nI 400 ∧ _)) ?_
  refine V_pf p_Mo_init_115 rfl (Nat.le_of_ble_eq_true rfl) rfl rfl ?_
  refine V_eqh (h2 := [c0, c1, c2, c3, c4, c5, c6, c7, c8, c9, c10, c11, c12, c13, c14, c15, c16, c17, c18, c19, c20, c21, c22, c23, c24, c25, c26, .inr (8, [.int 0, .int 0, .int 0, .int 0, .ref 29, .int 0, .ref 30, .int 0, .ref 31, .ref 32, .ref 33, .ref 34, .ref 35, .ref 36, .ref 37, .int 0, .int 0, .int 0, .int 0, .ref 38, .ref 39, .ref 40, .int 0, .ref 41, .ref 42, .null, .null, .null]), IA 1600 zI, IA 3 zI, IA 48 zI, IA 48 zI, ZA 12 zB, IA 24 zI, IA 8 zI, IA 24 zI, IA 8 zI, IA 10 zI, IA 10 zI, IA 10 zI, IA 400 zI, IA 400 zI]) rfl ?_
  refine V_aload_n d_Mo_init_118 rfl ?_
  refine V_bipush (v := 120) d_Mo_init_119 (by decide) ?_
  refine V_newiN d_Mo_init_121 tw_ai ((⟨rfl, by decide⟩ : (120 : Int32) = nI 120 ∧ _)) ?_
  refine V_pf p_Mo_init_123 rfl (Nat.le_of_ble_eq_true rfl) rfl rfl ?_
  refine V_eqh (h2 := [c0, c1, c2, c3, c4, c5, c6, c7, c8, c9, c10, c11, c12, c13, c14, c15, c16, c17, c18, c19, c20, c21, c22, c23, c24, c25, c26, .inr (8, [.int 0, .int 0, .int 0, .int 0, .ref 29, .int 0, .ref 30, .int 0, .ref 31, .ref 32, .ref 33, .ref 34, .ref 35, .ref 36, .ref 37, .int 0, .int 0, .int 0, .int 0, .ref 38, .ref 39, .ref 40, .int 0, .ref 41, .ref 42, .ref 43, .null, .null]), IA 1600 zI, IA 3 zI, IA 48 zI, IA 48 zI, ZA 12 zB, IA 24 zI, IA 8 zI, IA 24 zI, IA 8 zI, IA 10 zI, IA 10 zI, IA 10 zI, IA 400 zI, IA 400 zI, IA 120 zI]) rfl ?_
  refine V_aload_n d_Mo_init_126 rfl ?_
  refine V_sipush (v := 400) d_Mo_init_127 (by decide) ?_
  refine V_newzN d_Mo_init_130 tw_az ((⟨rfl, by decide⟩ : (400 : Int32) = nI 400 ∧ _)) ?_
  refine V_pf p_Mo_init_132 rfl (Nat.le_of_ble_eq_true rfl) rfl rfl ?_
  refine V_eqh (h2 := [c0, c1, c2, c3, c4, c5, c6, c7, c8, c9, c10, c11, c12, c13, c14, c15, c16, c17, c18, c19, c20, c21, c22, c23, c24, c25, c26, .inr (8, [.int 0, .int 0, .int 0, .int 0, .ref 29, .int 0, .ref 30, .int 0, .ref 31, .ref 32, .ref 33, .ref 34, .ref 35, .ref 36, .ref 37, .int 0, .int 0, .int 0, .int 0, .ref 38, .ref 39, .ref 40, .int 0, .ref 41, .ref 42, .ref 43, .ref 44, .null]), IA 1600 zI, IA 3 zI, IA 48 zI, IA 48 zI, ZA 12 zB, IA 24 zI, IA 8 zI, IA 24 zI, IA 8 zI, IA 10 zI, IA 10 zI, IA 10 zI, IA 400 zI, IA 400 zI, IA 120 zI, ZA 400 zB]) rfl ?_
  refine V_aload_n d_Mo_init_135 rfl ?_
  refine V_sipush (v := 400) d_Mo_init_136 (by decide) ?_
  refine V_newzN d_Mo_init_139 tw_az ((⟨rfl, by decide⟩ : (400 : Int32) = nI 400 ∧ _)) ?_
  refine V_pf p_Mo_init_141 rfl (Nat.le_of_ble_eq_true rfl) rfl rfl ?_
  exact mo_init_c c0 c1 c2 c3 c4 c5 c6 c7 c8 c9 c10 c11 c12 c13 c14 c15 c16 c17 c18 c19 c20 c21 c22 c23 c24 c25 c26 H0 w0 h9 s0 ew eh es
theorem mo_init_8 (c0 c1 c2 c3 c4 c5 c6 c7 c8 c9 c10 c11 c12 c13 c14 c15 c16 c17 c18 c19 c20 c21 c22 c23 c24 c25 c26 : Ce) (H0 : List Ce) (w0 h9 s0 : Int32) (ew : clI w0 6 20 = nI w) (eh : clI h9 6 20 = nI ht) (es : clI s0 0 65536 = nI sd) : V l G k_Mo_init H0 68 [(0, .ref 28), (1, .int w0), (2, .int h9), (3, .int s0)] [] [c0, c1, c2, c3, c4, c5, c6, c7, c8, c9, c10, c11, c12, c13, c14, c15, c16, c17, c18, c19, c20, c21, c22, c23, c24, c25, c26, .inr (8, [.int 0, .int 0, .int 0, .int 0, .ref 29, .int 0, .ref 30, .int 0, .ref 31, .ref 32, .ref 33, .ref 34, .ref 35, .ref 36, .null, .int 0, .int 0, .int 0, .int 0, .null, .null, .null, .int 0, .null, .null, .null, .null, .null]), IA 1600 zI, IA 3 zI, IA 48 zI, IA 48 zI, ZA 12 zB, IA 24 zI, IA 8 zI, IA 24 zI] rv [c0, c1, c2, c3, c4, c5, c6, c7, c8, c9, c10, c11, c12, c13, c14, c15, c16, c17, c18, c19, c20, c21, c22, c23, c24, c25, c26, MoO 0 w ht sd false 0 false 0 0 0 false, IA 1600 zI, IA 3 zI, IA 48 nX, IA 48 zI, ZA 12 zB, IA 24 zI, IA 8 zI, IA 24 zI, IA 8 zI, IA 10 zI, IA 10 zI, IA 10 zI, IA 400 zI, IA 400 zI, IA 120 zI, ZA 400 zB, ZA 400 zB] := by
  refine V_aload_n d_Mo_init_68 rfl ?_
  refine V_bipush (v := 8) d_Mo_init_69 (by decide) ?_
  refine V_newiN d_Mo_init_71 tw_ai ((⟨rfl, by decide⟩ : (8 : Int32) = nI 8 ∧ _)) ?_
  refine V_pf p_Mo_init_73 rfl (Nat.le_of_ble_eq_true rfl) rfl rfl ?_
  refine V_eqh (h2 := [c0, c1, c2, c3, c4, c5, c6, c7, c8, c9, c10, c11, c12, c13, c14, c15, c16, c17, c18, c19, c20, c21, c22, c23, c24, c25, c26, .inr (8, [.int 0, .int 0, .int 0, .int 0, .ref 29, .int 0, .ref 30, .int 0, .ref 31, .ref 32, .ref 33, .ref 34, .ref 35, .ref 36, .ref 37, .int 0, .int 0, .int 0, .int 0, .null, .null, .null, .int 0, .null, .null, .null, .null, .null]), IA 1600 zI, IA 3 zI, IA 48 zI, IA 48 zI, ZA 12 zB, IA 24 zI, IA 8 zI, IA 24 zI, IA 8 zI]) rfl ?_
  refine V_aload_n d_Mo_init_76 rfl ?_
  refine V_bipush (v := 10) d_Mo_init_77 (by decide) ?_
  refine V_newiN d_Mo_init_79 tw_ai ((⟨rfl, by decide⟩ : (10 : Int32) = nI 10 ∧ _)) ?_
  refine V_pf p_Mo_init_81 rfl (Nat.le_of_ble_eq_true rfl) rfl rfl ?_
  refine V_eqh (h2 := [c0, c1, c2, c3, c4, c5, c6, c7, c8, c9, c10, c11, c12, c13, c14, c15, c16, c17, c18, c19, c20, c21, c22, c23, c24, c25, c26, .inr (8, [.int 0, .int 0, .int 0, .int 0, .ref 29, .int 0, .ref 30, .int 0, .ref 31, .ref 32, .ref 33, .ref 34, .ref 35, .ref 36, .ref 37, .int 0, .int 0, .int 0, .int 0, .ref 38, .null, .null, .int 0, .null, .null, .null, .null, .null]), IA 1600 zI, IA 3 zI, IA 48 zI, IA 48 zI, ZA 12 zB, IA 24 zI, IA 8 zI, IA 24 zI, IA 8 zI, IA 10 zI]) rfl ?_
  refine V_aload_n d_Mo_init_84 rfl ?_
  refine V_bipush (v := 10) d_Mo_init_85 (by decide) ?_
  refine V_newiN d_Mo_init_87 tw_ai ((⟨rfl, by decide⟩ : (10 : Int32) = nI 10 ∧ _)) ?_
  refine V_pf p_Mo_init_89 rfl (Nat.le_of_ble_eq_true rfl) rfl rfl ?_
  refine V_eqh (h2 := [c0, c1, c2, c3, c4, c5, c6, c7, c8, c9, c10, c11, c12, c13, c14, c15, c16, c17, c18, c19, c20, c21, c22, c23, c24, c25, c26, .inr (8, [.int 0, .int 0, .int 0, .int 0, .ref 29, .int 0, .ref 30, .int 0, .ref 31, .ref 32, .ref 33, .ref 34, .ref 35, .ref 36, .ref 37, .int 0, .int 0, .int 0, .int 0, .ref 38, .ref 39, .null, .int 0, .null, .null, .null, .null, .null]), IA 1600 zI, IA 3 zI, IA 48 zI, IA 48 zI, ZA 12 zB, IA 24 zI, IA 8 zI, IA 24 zI, IA 8 zI, IA 10 zI, IA 10 zI]) rfl ?_
  refine V_aload_n d_Mo_init_92 rfl ?_
  refine V_bipush (v := 10) d_Mo_init_93 (by decide) ?_
  refine V_newiN d_Mo_init_95 tw_ai ((⟨rfl, by decide⟩ : (10 : Int32) = nI 10 ∧ _)) ?_
  refine V_pf p_Mo_init_97 rfl (Nat.le_of_ble_eq_true rfl) rfl rfl ?_
  exact mo_init_12 c0 c1 c2 c3 c4 c5 c6 c7 c8 c9 c10 c11 c12 c13 c14 c15 c16 c17 c18 c19 c20 c21 c22 c23 c24 c25 c26 H0 w0 h9 s0 ew eh es
theorem mo_init_4 (c0 c1 c2 c3 c4 c5 c6 c7 c8 c9 c10 c11 c12 c13 c14 c15 c16 c17 c18 c19 c20 c21 c22 c23 c24 c25 c26 : Ce) (H0 : List Ce) (w0 h9 s0 : Int32) (ew : clI w0 6 20 = nI w) (eh : clI h9 6 20 = nI ht) (es : clI s0 0 65536 = nI sd) : V l G k_Mo_init H0 36 [(0, .ref 28), (1, .int w0), (2, .int h9), (3, .int s0)] [] [c0, c1, c2, c3, c4, c5, c6, c7, c8, c9, c10, c11, c12, c13, c14, c15, c16, c17, c18, c19, c20, c21, c22, c23, c24, c25, c26, .inr (8, [.int 0, .int 0, .int 0, .int 0, .ref 29, .int 0, .ref 30, .int 0, .ref 31, .ref 32, .null, .null, .null, .null, .null, .int 0, .int 0, .int 0, .int 0, .null, .null, .null, .int 0, .null, .null, .null, .null, .null]), IA 1600 zI, IA 3 zI, IA 48 zI, IA 48 zI] rv [c0, c1, c2, c3, c4, c5, c6, c7, c8, c9, c10, c11, c12, c13, c14, c15, c16, c17, c18, c19, c20, c21, c22, c23, c24, c25, c26, MoO 0 w ht sd false 0 false 0 0 0 false, IA 1600 zI, IA 3 zI, IA 48 nX, IA 48 zI, ZA 12 zB, IA 24 zI, IA 8 zI, IA 24 zI, IA 8 zI, IA 10 zI, IA 10 zI, IA 10 zI, IA 400 zI, IA 400 zI, IA 120 zI, ZA 400 zB, ZA 400 zB] := by
  refine V_aload_n d_Mo_init_36 rfl ?_
  refine V_bipush (v := 12) d_Mo_init_37 (by decide) ?_
  refine V_newzN d_Mo_init_39 tw_az ((⟨rfl, by decide⟩ : (12 : Int32) = nI 12 ∧ _)) ?_
  refine V_pf p_Mo_init_41 rfl (Nat.le_of_ble_eq_true rfl) rfl rfl ?_
  refine V_eqh (h2 := [c0, c1, c2, c3, c4, c5, c6, c7, c8, c9, c10, c11, c12, c13, c14, c15, c16, c17, c18, c19, c20, c21, c22, c23, c24, c25, c26, .inr (8, [.int 0, .int 0, .int 0, .int 0, .ref 29, .int 0, .ref 30, .int 0, .ref 31, .ref 32, .ref 33, .null, .null, .null, .null, .int 0, .int 0, .int 0, .int 0, .null, .null, .null, .int 0, .null, .null, .null, .null, .null]), IA 1600 zI, IA 3 zI, IA 48 zI, IA 48 zI, ZA 12 zB]) rfl ?_
  refine V_aload_n d_Mo_init_44 rfl ?_
  refine V_bipush (v := 24) d_Mo_init_45 (by decide) ?_
  refine V_newiN d_Mo_init_47 tw_ai ((⟨rfl, by decide⟩ : (24 : Int32) = nI 24 ∧ _)) ?_
  refine V_pf p_Mo_init_49 rfl (Nat.le_of_ble_eq_true rfl) rfl rfl ?_
  refine V_eqh (h2 := [c0, c1, c2, c3, c4, c5, c6, c7, c8, c9, c10, c11, c12, c13, c14, c15, c16, c17, c18, c19, c20, c21, c22, c23, c24, c25, c26, .inr (8, [.int 0, .int 0, .int 0, .int 0, .ref 29, .int 0, .ref 30, .int 0, .ref 31, .ref 32, .ref 33, .ref 34, .null, .null, .null, .int 0, .int 0, .int 0, .int 0, .null, .null, .null, .int 0, .null, .null, .null, .null, .null]), IA 1600 zI, IA 3 zI, IA 48 zI, IA 48 zI, ZA 12 zB, IA 24 zI]) rfl ?_
  refine V_aload_n d_Mo_init_52 rfl ?_
  refine V_bipush (v := 8) d_Mo_init_53 (by decide) ?_
  refine V_newiN d_Mo_init_55 tw_ai ((⟨rfl, by decide⟩ : (8 : Int32) = nI 8 ∧ _)) ?_
  refine V_pf p_Mo_init_57 rfl (Nat.le_of_ble_eq_true rfl) rfl rfl ?_
  refine V_eqh (h2 := [c0, c1, c2, c3, c4, c5, c6, c7, c8, c9, c10, c11, c12, c13, c14, c15, c16, c17, c18, c19, c20, c21, c22, c23, c24, c25, c26, .inr (8, [.int 0, .int 0, .int 0, .int 0, .ref 29, .int 0, .ref 30, .int 0, .ref 31, .ref 32, .ref 33, .ref 34, .ref 35, .null, .null, .int 0, .int 0, .int 0, .int 0, .null, .null, .null, .int 0, .null, .null, .null, .null, .null]), IA 1600 zI, IA 3 zI, IA 48 zI, IA 48 zI, ZA 12 zB, IA 24 zI, IA 8 zI]) rfl ?_
  refine V_aload_n d_Mo_init_60 rfl ?_
  refine V_bipush (v := 24) d_Mo_init_61 (by decide) ?_
  refine V_newiN d_Mo_init_63 tw_ai ((⟨rfl, by decide⟩ : (24 : Int32) = nI 24 ∧ _)) ?_
  refine V_pf p_Mo_init_65 rfl (Nat.le_of_ble_eq_true rfl) rfl rfl ?_
  exact mo_init_8 c0 c1 c2 c3 c4 c5 c6 c7 c8 c9 c10 c11 c12 c13 c14 c15 c16 c17 c18 c19 c20 c21 c22 c23 c24 c25 c26 H0 w0 h9 s0 ew eh es
theorem mo_init_0 (c0 c1 c2 c3 c4 c5 c6 c7 c8 c9 c10 c11 c12 c13 c14 c15 c16 c17 c18 c19 c20 c21 c22 c23 c24 c25 c26 : Ce) (H0 : List Ce) (w0 h9 s0 : Int32) (ew : clI w0 6 20 = nI w) (eh : clI h9 6 20 = nI ht) (es : clI s0 0 65536 = nI sd) : V l G k_Mo_init H0 4 [(0, .ref 28), (1, .int w0), (2, .int h9), (3, .int s0)] [] [c0, c1, c2, c3, c4, c5, c6, c7, c8, c9, c10, c11, c12, c13, c14, c15, c16, c17, c18, c19, c20, c21, c22, c23, c24, c25, c26, .inr (8, [.int 0, .int 0, .int 0, .int 0, .null, .int 0, .null, .int 0, .null, .null, .null, .null, .null, .null, .null, .int 0, .int 0, .int 0, .int 0, .null, .null, .null, .int 0, .null, .null, .null, .null, .null])] rv [c0, c1, c2, c3, c4, c5, c6, c7, c8, c9, c10, c11, c12, c13, c14, c15, c16, c17, c18, c19, c20, c21, c22, c23, c24, c25, c26, MoO 0 w ht sd false 0 false 0 0 0 false, IA 1600 zI, IA 3 zI, IA 48 nX, IA 48 zI, ZA 12 zB, IA 24 zI, IA 8 zI, IA 24 zI, IA 8 zI, IA 10 zI, IA 10 zI, IA 10 zI, IA 400 zI, IA 400 zI, IA 120 zI, ZA 400 zB, ZA 400 zB] := by
  refine V_aload_n d_Mo_init_4 rfl ?_
  refine V_sipush (v := 1600) d_Mo_init_5 (by decide) ?_
  refine V_newiN d_Mo_init_8 tw_ai ((⟨rfl, by decide⟩ : (1600 : Int32) = nI 1600 ∧ _)) ?_
  refine V_pf p_Mo_init_10 rfl (Nat.le_of_ble_eq_true rfl) rfl rfl ?_
  refine V_eqh (h2 := [c0, c1, c2, c3, c4, c5, c6, c7, c8, c9, c10, c11, c12, c13, c14, c15, c16, c17, c18, c19, c20, c21, c22, c23, c24, c25, c26, .inr (8, [.int 0, .int 0, .int 0, .int 0, .ref 29, .int 0, .null, .int 0, .null, .null, .null, .null, .null, .null, .null, .int 0, .int 0, .int 0, .int 0, .null, .null, .null, .int 0, .null, .null, .null, .null, .null]), IA 1600 zI]) rfl ?_
  refine V_aload_n d_Mo_init_13 rfl ?_
  refine V_iconst (v := 3) d_Mo_init_14 (by decide) ?_
  refine V_newiN d_Mo_init_15 tw_ai ((⟨rfl, by decide⟩ : (3 : Int32) = nI 3 ∧ _)) ?_
  refine V_pf p_Mo_init_17 rfl (Nat.le_of_ble_eq_true rfl) rfl rfl ?_
  refine V_eqh (h2 := [c0, c1, c2, c3, c4, c5, c6, c7, c8, c9, c10, c11, c12, c13, c14, c15, c16, c17, c18, c19, c20, c21, c22, c23, c24, c25, c26, .inr (8, [.int 0, .int 0, .int 0, .int 0, .ref 29, .int 0, .ref 30, .int 0, .null, .null, .null, .null, .null, .null, .null, .int 0, .int 0, .int 0, .int 0, .null, .null, .null, .int 0, .null, .null, .null, .null, .null]), IA 1600 zI, IA 3 zI]) rfl ?_
  refine V_aload_n d_Mo_init_20 rfl ?_
  refine V_bipush (v := 48) d_Mo_init_21 (by decide) ?_
  refine V_newiN d_Mo_init_23 tw_ai ((⟨rfl, by decide⟩ : (48 : Int32) = nI 48 ∧ _)) ?_
  refine V_pf p_Mo_init_25 rfl (Nat.le_of_ble_eq_true rfl) rfl rfl ?_
  refine V_eqh (h2 := [c0, c1, c2, c3, c4, c5, c6, c7, c8, c9, c10, c11, c12, c13, c14, c15, c16, c17, c18, c19, c20, c21, c22, c23, c24, c25, c26, .inr (8, [.int 0, .int 0, .int 0, .int 0, .ref 29, .int 0, .ref 30, .int 0, .ref 31, .null, .null, .null, .null, .null, .null, .int 0, .int 0, .int 0, .int 0, .null, .null, .null, .int 0, .null, .null, .null, .null, .null]), IA 1600 zI, IA 3 zI, IA 48 zI]) rfl ?_
  refine V_aload_n d_Mo_init_28 rfl ?_
  refine V_bipush (v := 48) d_Mo_init_29 (by decide) ?_
  refine V_newiN d_Mo_init_31 tw_ai ((⟨rfl, by decide⟩ : (48 : Int32) = nI 48 ∧ _)) ?_
  refine V_pf p_Mo_init_33 rfl (Nat.le_of_ble_eq_true rfl) rfl rfl ?_
  exact mo_init_4 c0 c1 c2 c3 c4 c5 c6 c7 c8 c9 c10 c11 c12 c13 c14 c15 c16 c17 c18 c19 c20 c21 c22 c23 c24 c25 c26 H0 w0 h9 s0 ew eh es
theorem mo_init (c0 c1 c2 c3 c4 c5 c6 c7 c8 c9 c10 c11 c12 c13 c14 c15 c16 c17 c18 c19 c20 c21 c22 c23 c24 c25 c26 : Ce) (w0 h9 s0 : Int32) (ew : clI w0 6 20 = nI w) (eh : clI h9 6 20 = nI ht) (es : clI s0 0 65536 = nI sd) : Do l G k_Mo_init [.ref 28, .int w0, .int h9, .int s0] [c0, c1, c2, c3, c4, c5, c6, c7, c8, c9, c10, c11, c12, c13, c14, c15, c16, c17, c18, c19, c20, c21, c22, c23, c24, c25, c26, .inr (8, [.int 0, .int 0, .int 0, .int 0, .null, .int 0, .null, .int 0, .null, .null, .null, .null, .null, .null, .null, .int 0, .int 0, .int 0, .int 0, .null, .null, .null, .int 0, .null, .null, .null, .null, .null])] rv [c0, c1, c2, c3, c4, c5, c6, c7, c8, c9, c10, c11, c12, c13, c14, c15, c16, c17, c18, c19, c20, c21, c22, c23, c24, c25, c26, MoO 0 w ht sd false 0 false 0 0 0 false, IA 1600 zI, IA 3 zI, IA 48 nX, IA 48 zI, ZA 12 zB, IA 24 zI, IA 8 zI, IA 24 zI, IA 8 zI, IA 10 zI, IA 10 zI, IA 10 zI, IA 400 zI, IA 400 zI, IA 120 zI, ZA 400 zB, ZA 400 zB] := by
  refine Do.of (by decide) (Nat.le_of_ble_eq_true rfl) kw_Mo_init ?_
  refine V_aload_n d_Mo_init_0 rfl ?_
  refine V_ob s_Mo_init_1 (Nat.le_of_ble_eq_true rfl) ?_
  exact mo_init_0 c0 c1 c2 c3 c4 c5 c6 c7 c8 c9 c10 c11 c12 c13 c14 c15 c16 c17 c18 c19 c20 c21 c22 c23 c24 c25 c26 _ w0 h9 s0 ew eh es
end P48
