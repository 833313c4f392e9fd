section P47
theorem cpB_pt (g : Nat → Bool) (f : Nat → Bool) (j : Nat) : ∀ m, fori (fun k f => updB f k (g k)) m 0 f j = if j < m then g j else f j
  | 0 => rfl
  | m + 1 => by
    rw [fori_snoc, Nat.zero_add]
    show (if j = m then g m else fori (fun k f => updB f k (g k)) m 0 f j) = _
    rw [cpB_pt g f j m]
    by_cases e : j = m
    · subst e
      rw [if_pos rfl, if_pos (by omega)]
    · rw [if_neg e]
      by_cases q : j < m
      · rw [if_pos q, if_pos (by omega)]
      · rw [if_neg q, if_neg (by omega)]
theorem fori_add {σ : Type} (f : Nat → σ → σ) : ∀ (a b i : Nat) (s : σ), fori f (a + b) i s = fori f b (i + a) (fori f a i s)
  | 0, b, i, s => by rw [Nat.zero_add]; rfl
  | a + 1, b, i, s => by
    rw [show a + 1 + b = a + b + 1 by omega, fori_s, fori_s, fori_add f a b, show i + 1 + a = i + (a + 1) by omega]
theorem fori_id {σ : Type} {f : Nat → σ → σ} : ∀ (n i : Nat) (s : σ), (∀ j s, i ≤ j → j < i + n → f j s = s) → fori f n i s = s
  | 0, _, _, _ => rfl
  | n + 1, i, s, h => by
    rw [fori_s, h i s (Nat.le_refl _) (by omega)]
    exact fori_id n (i + 1) s (fun j s h1 h2 => h j s (by omega) (by omega))
theorem flat20 {σ : Type} (f : Nat → Nat → σ → σ) : ∀ (n i : Nat) (s : σ), fori (fun k s => f (k / 20) (k % 20) s) (20 * n) (20 * i) s = fori (fun y s => fori (fun x s => f y x s) 20 0 s) n i s
  | 0, i, s => rfl
  | n + 1, i, s => by
    rw [fori_s (fun y s => fori (fun x s => f y x s) 20 0 s), show 20 * (n + 1) = 20 + 20 * n by omega, fori_add, show 20 * i + 20 = 20 * (i + 1) by omega, flat20 f n (i + 1)]
    congr 1
    have key : ∀ (m j : Nat) (s : σ), j + m ≤ 20 → fori (fun k s => f (k / 20) (k % 20) s) m (20 * i + j) s = fori (fun x s => f i x s) m j s := by
      intro m
      induction m with
      | zero => intro j s _; rfl
      | succ m ih =>
        intro j s hj
        rw [fori_s, fori_s, show (20 * i + j) / 20 = i by omega, show (20 * i + j) % 20 = j by omega, show 20 * i + j + 1 = 20 * i + (j + 1) by omega]
        exact ih (j + 1) _ (by omega)
    exact key 20 0 s (by omega)
def hoF (w ht k : Nat) (s : Ho) : Ho := if k % 20 < w ∧ k / 20 < ht then hoS w ht (k / 20) (k % 20) s else s
theorem ho_flat {w ht : Nat} (hw : w ≤ 20) (hht : ht ≤ 20) (s : Ho) : fori (hoF w ht) 400 0 s = hoR w ht s := by
  have e := flat20 (fun y x s => if x < w ∧ y < ht then hoS w ht y x s else s) 20 0 s
  have e0 : fori (hoF w ht) 400 0 s = fori (fun k s => (fun y x s => if x < w ∧ y < ht then hoS w ht y x s else s) (k / 20) (k % 20) s) (20 * 20) (20 * 0) s := rfl
  rw [e0, e]
  have row : ∀ y, y < ht → ∀ s : Ho, fori (fun x s => if x < w ∧ y < ht then hoS w ht y x s else s) 20 0 s = fori (fun x s => hoS w ht y x s) w 0 s := by
    intro y hy s
    rw [show 20 = w + (20 - w) by omega, fori_add, fori_id (20 - w)]
    · exact fori_congr w 0 s (fun x s _ hx => by rw [if_pos ⟨by omega, hy⟩])
    · intro x s h1 h2
      rw [if_neg (by omega)]
  rw [show 20 = ht + (20 - ht) by omega, fori_add, fori_id (20 - ht)]
  · unfold hoR
    refine fori_congr ht 0 s (fun y s _ hy => ?_)
    have := row y (by omega) s
    rw [show ht + (20 - ht) = 20 by omega]
    exact this
  · intro y s h1 h2
    refine fori_id _ _ s (fun x s _ _ => ?_)
    rw [if_neg (by omega)]
theorem oa_pt {Df : Nat → Int32} {w ht : Nat} {lv : Int32} (op : Nat → Bool) : ∀ x y, x < w → y < ht → oaR Df w ht lv op (mi w x y) = decide (lv < Df (y * w + x)) := by
  have inv := fori_inv (f := fun y op => fori (fun x op => oaS Df w lv y x op) w 0 op) (fun y op => ∀ x y', x < w → y' < y → op (mi w x y') = decide (lv < Df (y' * w + x))) ht 0 op (fun y op _ hy hC => by
    have in2 := fori_inv (f := fun x op => oaS Df w lv y x op) (fun x op => (∀ x' y', x' < w → y' < y → op (mi w x' y') = decide (lv < Df (y' * w + x'))) ∧ ∀ x', x' < x → op (mi w x' y) = decide (lv < Df (y * w + x'))) w 0 op (fun x op _ hx hC => by
      obtain ⟨h1, h2⟩ := hC
      show (∀ x' y', x' < w → y' < y → oaS Df w lv y x op (mi w x' y') = _) ∧ ∀ x', x' < x + 1 → oaS Df w lv y x op (mi w x' y) = _
      unfold oaS updB
      refine ⟨fun x' y' hx' hy' => ?_, fun x' hx' => ?_⟩
      · rw [if_neg (fun q => by have := mi_inj (show x < w by omega) hx' q; omega)]
        exact h1 x' y' hx' hy'
      · by_cases z : x' = x
        · subst z
          rw [if_pos rfl]
        · rw [if_neg (fun q => by have := mi_inj (show x < w by omega) (show x' < w by omega) q; omega)]
          exact h2 x' (by omega)) ⟨hC, fun x' hx' => by omega⟩
    rw [Nat.zero_add] at in2
    intro x y' hx hy'
    rcases Nat.lt_or_ge y' y with z | z
    · exact in2.1 x y' hx z
    · obtain rfl : y' = y := by omega
      exact in2.2 x hx) (fun x y' _ h => by omega)
  rw [Nat.zero_add] at inv
  exact inv
/-- both sides, between two holes -/
def HR (w ht : Nat) (s : Ho) (p : Pr) : Prop := (∀ k, s.2.2.2 k = true → inn w ht k) ∧ (∀ x y, x < w → y < ht → p.1 (20 * y + x) = s.2.2.2 (mi w x y)) ∧ (∀ k, k < 400 → p.1 k = true → k % 20 < w ∧ k / 20 < ht) ∧ GM w ht p
theorem gO_eq {w ht : Nat} {A B : Nat → Nat → Bool} (h : ∀ x y, x < w → y < ht → A x y = B x y) : gO w ht A = gO w ht B := by
  funext x y
  unfold gO
  by_cases q : x < w
  · by_cases z : y < ht
    · rw [h x y q z]
    · rw [decide_eq_false z, Bool.false_and, Bool.false_and]
  · rw [decide_eq_false q, Bool.false_and, Bool.false_and]
theorem HR_step {w ht : Nat} (hw : w ≤ 20) (hht : ht ≤ 20) {s : Ho} {p p' : Pr} (h : HR w ht s p) {x0 y0 : Nat} (hx0 : x0 < w) (hy0 : y0 < ht) (ho : p.1 (20 * y0 + x0) = true) (hG : GM w ht p') (hs : ∀ c, p'.1 c = true → p.1 c = true) (hi : ∀ x y, x < w → y < ht → (p'.1 (20 * y + x) = true ↔ p.1 (20 * y + x) = true ∧ ¬ Rc (gO w ht (fun x y => p.1 (20 * y + x))) x0 y0 x y)) : HR w ht (hoS w ht y0 x0 s) p' ∧ (hoS w ht y0 x0 s).1 = s.1 + 1 := by
  obtain ⟨h1, h2, h3, h4⟩ := h
  have o0 : s.2.2.2 (mi w x0 y0) = true := by rw [← h2 x0 y0 hx0 hy0]; exact ho
  have e : hoS w ht y0 x0 s = (s.1 + 1, bfR w (w * ht) 0 (ciS (mi w x0 y0) (0, s.2.2.1, s.2.2.2))) := by unfold hoS; rw [if_pos o0]
  have hinn := hoS_inn h1 y0 x0
  have sp := bf_spec h1 hx0 hy0 o0 s.2.2.1
  have eg : gO w ht (fun x y => p.1 (20 * y + x)) = gO w ht (fun x y => s.2.2.2 (mi w x y)) := gO_eq h2
  rw [e] at hinn
  rw [e]
  refine ⟨⟨hinn, fun x y hx hy => ?_, fun k hk hp => h3 k hk (hs k hp), hG⟩, rfl⟩
  show p'.1 (20 * y + x) = (bfR w (w * ht) 0 (ciS (mi w x0 y0) (0, s.2.2.1, s.2.2.2))).2.2 (mi w x y)
  have a := hi x y hx hy
  rw [eg, h2 x y hx hy, ← sp x y hx hy] at a
  exact Bool.eq_iff_iff.mpr a
theorem hasD {x n : Nat} (hx : x < 1000) (hn : n < 1000) : hasB (nI x) n = decide (x < n) := by
  by_cases q : x < n
  · rw [has_n q (by omega), decide_eq_true q]
  · rw [decide_eq_false q]
    unfold hasB
    rw [Bool.and_eq_false_iff]
    right
    exact decide_eq_false (nI_nlt (by omega) (by omega))
variable {l : Launch} {G : Gb} {h h0 h' : List Ce} {r : Rs} {th sx sy : Int32} {w ht sd pl ln : Nat} {md sh hi : Bool} {dF Df : Nat → Int32}
theorem mo_holes_e (hL : 45 ≤ h.length) (lv : Int32) : Do l G k_Mo_holes [.ref 28, .int lv] (moH h th w ht sd md pl sh sx sy ln false) (ri 0) (moH h 1 w ht sd md pl sh sx sy ln false) := by
  refine Do.of (by decide) (Nat.le_of_ble_eq_true rfl) kw_Mo_holes ?_
  refine V_aload_n d_Mo_holes_0 rfl ?_
  refine V_aload_n d_Mo_holes_1 rfl ?_
  refine V_gf g_Mo_holes_2 (rd hL rfl rfl) rfl ?_
  refine V_iconst (v := 1) d_Mo_holes_5 (by decide) ?_
  refine V_iconst (v := 1) d_Mo_holes_6 (by decide) ?_
  refine V_cV s_Mo_holes_7 (mo_goes (rd hL rfl rfl) false true true) (rd hL rfl rfl) rfl rfl (Nat.le_of_ble_eq_true rfl) ?_
  refine V_hS rfl ?_
  refine V_if_ne (tgt := 15) d_Mo_holes_10 (by decide) (fun c9 => absurd ((rfl : bI (false && true && true) = 0)) c9) (fun _ => ?_)
  refine V_iconst (v := 0) d_Mo_holes_13 (by decide) ?_
  exact V_iret d_Mo_holes_14 rfl rfl
theorem mo_holes_o (hL : 45 ≤ h.length) (hw : w ≤ 20) (hht : ht ≤ 20) (h41 : h[41]? = some (IA 400 dF)) (lv : Int32) (p : Pr) (H0 : List Ce) (kk : V l G k_Mo_holes H0 73 [(0, .ref 28), (1, .int lv), (2, .int (nI 400))] [] (moP h th w ht sd md pl sh sx sy ln hi (fori (fun k f => updB f k ((decide (k % 20 < w) && decide (k / 20 < ht)) && decide (lv < dF k))) 400 0 p.1, fori (fun k f => updB f k false) 400 0 p.2)) r h') : ∀ (m k : Nat), k + m = 400 → V l G k_Mo_holes H0 17 [(0, .ref 28), (1, .int lv), (2, .int (nI k))] [] (moP h th w ht sd md pl sh sx sy ln hi (fori (fun k f => updB f k ((decide (k % 20 < w) && decide (k / 20 < ht)) && decide (lv < dF k))) k 0 p.1, fori (fun k f => updB f k false) k 0 p.2)) r h' := by
  intro m
  induction m with
  | zero =>
    intro k hk
    obtain rfl : k = 400 := by omega
    refine V_iload_n d_Mo_holes_17 rfl ?_
    refine V_sipush (v := 400) d_Mo_holes_18 (by decide) ?_
    refine V_icmp_ge (tgt := 73) d_Mo_holes_21 (by decide) (fun _ => ?_) (fun c9 => absurd ((by decide : (400 : Int32) ≤ nI 400)) c9)
    exact kk
  | succ m ih =>
    intro k hk
    have i2 := ih (k + 1) (by omega)
    rw [fori_snoc _ k, fori_snoc _ k, Nat.zero_add] at i2
    generalize fori (fun k f => updB f k ((decide (k % 20 < w) && decide (k / 20 < ht)) && decide (lv < dF k))) k 0 p.1 = o9 at i2 ⊢
    generalize fori (fun k f => updB f k false) k 0 p.2 = m9 at i2 ⊢
    have tail : ∀ b : Bool, b = ((decide (k % 20 < w) && decide (k / 20 < ht)) && decide (lv < dF k)) → V l G k_Mo_holes H0 59 [(0, .ref 28), (1, .int lv), (2, .int (nI k))] [.int (bI b), .int (nI k), .ref 44] (moP h th w ht sd md pl sh sx sy ln hi (o9, m9)) r h' := by
      intro b hb
      rw [← hb] at i2
      refine V_zastN d_Mo_holes_59 (rd hL rfl rfl) (Ix.of (show k < 400 by omega) (by decide)) ?_
      refine V_hS rfl ?_
      refine V_aload_n d_Mo_holes_60 rfl ?_
      refine V_gf g_Mo_holes_61 (rd hL rfl rfl) rfl ?_
      refine V_iload_n d_Mo_holes_64 rfl ?_
      refine V_iconst (v := 0) d_Mo_holes_65 (by decide) ?_
      refine V_zast0 d_Mo_holes_66 (rd hL rfl rfl) (Ix.of (show k < 400 by omega) (by decide)) ?_
      refine V_hS rfl ?_
      refine V_iinc1 d_Mo_holes_67 rfl (by decide) rfl ?_
      refine V_goto (tgt := 17) d_Mo_holes_70 (by decide) ?_
      rw [nI_1]
      exact i2
    refine V_iload_n d_Mo_holes_17 rfl ?_
    refine V_sipush (v := 400) d_Mo_holes_18 (by decide) ?_
    refine V_icmp_ge (tgt := 73) d_Mo_holes_21 (by decide) (fun c9 => absurd c9 ((nI_ge (b := 400) (by omega) (by decide) : ¬ (400 : Int32) ≤ nI k))) (fun _ => ?_)
    refine V_aload_n d_Mo_holes_24 rfl ?_
    refine V_gf g_Mo_holes_25 (rd hL rfl rfl) rfl ?_
    refine V_iload_n d_Mo_holes_28 rfl ?_
    refine V_aload_n d_Mo_holes_29 rfl ?_
    refine V_iload_n d_Mo_holes_30 rfl ?_
    refine V_bipush (v := 20) d_Mo_holes_31 (by decide) ?_
    refine V_irem d_Mo_holes_33 (by decide) ?_
    rw [show (20 : Int32) = nI 20 from rfl, pk_rem (by omega) (by decide) (by decide)]
    refine V_iload_n d_Mo_holes_34 rfl ?_
    refine V_bipush (v := 20) d_Mo_holes_35 (by decide) ?_
    refine V_idiv d_Mo_holes_37 (by decide) ?_
    rw [show (20 : Int32) = nI 20 from rfl, pk_div (by omega) (by decide) (by decide)]
    refine V_cV s_Mo_holes_38 (mo_isCell (rd hL rfl rfl) (nI (k % 20)) (nI (k / 20))) (rd hL rfl rfl) rfl rfl (Nat.le_of_ble_eq_true rfl) ?_
    rw [wi_has _ (by omega), wi_has _ (by omega), hasD (by omega) (by omega), hasD (by omega) (by omega)]
    refine V_if_eq (tgt := 58) d_Mo_holes_41 (by decide) (fun c1 => ?_) (fun c1 => ?_)
    · have t := tail false (by rw [(bI_0 _).mp c1]; rfl)
      refine V_iconst (v := 0) d_Mo_holes_58 (by decide) ?_
      exact t
    · have c1' : (decide (k % 20 < w) && decide (k / 20 < ht)) = true := by simpa only [bI_0, Bool.not_eq_false] using c1
      refine V_aload_n d_Mo_holes_44 rfl ?_
      refine V_gf g_Mo_holes_45 (rd hL rfl rfl) rfl ?_
      refine V_iload_n d_Mo_holes_48 rfl ?_
      refine V_ialdN d_Mo_holes_49 (ro h41 rfl) (Ix.of (show k < 400 by omega) (by decide)) ?_
      refine V_iload_n d_Mo_holes_50 rfl ?_
      refine V_icmp_le (tgt := 58) d_Mo_holes_51 (by decide) (fun c2 => ?_) (fun c2 => ?_)
      · have t := tail false (by rw [c1', decide_eq_false (nlt_iff.mpr c2)]; rfl)
        refine V_iconst (v := 0) d_Mo_holes_58 (by decide) ?_
        exact t
      · have t := tail true (by rw [c1', decide_eq_true (nle_iff.mp c2)]; rfl)
        refine V_iconst (v := 1) d_Mo_holes_54 (by decide) ?_
        refine V_goto (tgt := 59) d_Mo_holes_55 (by decide) ?_
        exact t
theorem mo_holes_c (hL : 45 ≤ h.length) (hw : w ≤ 20) (hht : ht ≤ 20) (lv : Int32) (S : Ho) : ∀ (m k : Nat) (s : Ho) (p : Pr), k + m = 400 → HR w ht s p → S = fori (hoF w ht) m k s → ∃ p' : Pr, ∀ H0 : List Ce, V l G k_Mo_holes H0 77 [(0, .ref 28), (1, .int lv), (2, .int (nI s.1)), (3, .int (nI k))] [] (moP h th w ht sd md pl sh sx sy ln hi p) (ri (nI S.1)) (moP h th w ht sd md pl sh sx sy ln hi p') := by
  intro m
  induction m with
  | zero =>
    intro k s p hk hH e
    have e' : S = s := e
    rw [e']
    refine ⟨p, fun H0 => ?_⟩
    obtain rfl : k = 400 := by omega
    refine V_iload_n d_Mo_holes_77 rfl ?_
    refine V_sipush (v := 400) d_Mo_holes_78 (by decide) ?_
    refine V_icmp_ge (tgt := 107) d_Mo_holes_81 (by decide) (fun _ => ?_) (fun c9 => absurd ((by decide : (400 : Int32) ≤ nI 400)) c9)
    refine V_iload_n d_Mo_holes_107 rfl ?_
    exact V_iret d_Mo_holes_108 rfl rfl
  | succ m ih =>
    intro k s p hk hH e
    rw [fori_s] at e
    cases hp : p.1 k with
    | false =>
      have ef : hoF w ht k s = s := by
        unfold hoF
        by_cases q : k % 20 < w ∧ k / 20 < ht
        · rw [if_pos q]
          have := hH.2.1 (k % 20) (k / 20) q.1 q.2
          rw [show 20 * (k / 20) + k % 20 = k by omega, hp] at this
          unfold hoS
          rw [← this]
          rfl
        · rw [if_neg q]
      rw [ef] at e
      obtain ⟨p', i1⟩ := ih (k + 1) s p (by omega) hH e
      refine ⟨p', fun H0 => ?_⟩
      have i2 := i1 H0
      refine V_iload_n d_Mo_holes_77 rfl ?_
      refine V_sipush (v := 400) d_Mo_holes_78 (by decide) ?_
      refine V_icmp_ge (tgt := 107) d_Mo_holes_81 (by decide) (fun c9 => absurd c9 ((nI_ge (b := 400) (by omega) (by decide) : ¬ (400 : Int32) ≤ nI k))) (fun _ => ?_)
      refine V_aload_n d_Mo_holes_84 rfl ?_
      refine V_gf g_Mo_holes_85 (rd hL rfl rfl) rfl ?_
      refine V_iload_n d_Mo_holes_88 rfl ?_
      refine V_zaldN d_Mo_holes_89 (rd hL rfl rfl) (Ix.of (show k < 400 by omega) (by decide)) ?_
      refine V_if_eq (tgt := 101) d_Mo_holes_90 (by decide) (fun _ => ?_) (fun c9 => absurd (((bI_0 _).mpr hp)) c9)
      refine V_iinc1 d_Mo_holes_101 rfl (by decide) rfl ?_
      refine V_goto (tgt := 77) d_Mo_holes_104 (by decide) ?_
      rw [nI_1]
      exact i2
    | true =>
      obtain ⟨q1, q2⟩ := hH.2.2.1 k (by omega) hp
      have ek : 20 * (k / 20) + k % 20 = k := by omega
      obtain ⟨p1, ⟨j1, j2, j3⟩, j4⟩ := mo_close (l := l) (G := G) (h := h) (th := th) (sd := sd) (md := md) (pl := pl) (sh := sh) (sx := sx) (sy := sy) (ln := ln) (hi := hi) (O0 := p.1) (M0 := p.2) hL hw hht hH.2.2.2 q1 q2
      rw [ek] at j4
      obtain ⟨k1, k2⟩ := HR_step hw hht hH q1 q2 (by rw [ek]; exact hp) j1 j2 j3
      have ef : hoF w ht k s = hoS w ht (k / 20) (k % 20) s := by unfold hoF; rw [if_pos ⟨q1, q2⟩]
      rw [ef] at e
      obtain ⟨p', i1⟩ := ih (k + 1) _ p1 (by omega) k1 e
      refine ⟨p', fun H0 => ?_⟩
      have i2 := i1 H0
      rw [k2] at i2
      refine V_iload_n d_Mo_holes_77 rfl ?_
      refine V_sipush (v := 400) d_Mo_holes_78 (by decide) ?_
      refine V_icmp_ge (tgt := 107) d_Mo_holes_81 (by decide) (fun c9 => absurd c9 ((nI_ge (b := 400) (by omega) (by decide) : ¬ (400 : Int32) ≤ nI k))) (fun _ => ?_)
      refine V_aload_n d_Mo_holes_84 rfl ?_
      refine V_gf g_Mo_holes_85 (rd hL rfl rfl) rfl ?_
      refine V_iload_n d_Mo_holes_88 rfl ?_
      refine V_zaldN d_Mo_holes_89 (rd hL rfl rfl) (Ix.of (show k < 400 by omega) (by decide)) ?_
      refine V_if_eq (tgt := 101) d_Mo_holes_90 (by decide) (fun c9 => absurd c9 ((by rw [hp]; decide : ¬ bI (p.1 k) = 0))) (fun _ => ?_)
      refine V_iinc1 d_Mo_holes_93 rfl (by decide) rfl ?_
      refine V_aload_n d_Mo_holes_96 rfl ?_
      refine V_iload_n d_Mo_holes_97 rfl ?_
      rw [nI_1]
      refine V_cV s_Mo_holes_98 j4 (rd hL rfl rfl) rfl rfl (Nat.le_of_ble_eq_true rfl) ?_
      refine V_iinc1 d_Mo_holes_101 rfl (by decide) rfl ?_
      refine V_goto (tgt := 77) d_Mo_holes_104 (by decide) ?_
      rw [nI_1]
      exact i2
theorem mo_holes (hL : 45 ≤ h.length) (hw : w ≤ 20) (hht : ht ≤ 20) (h41 : h[41]? = some (IA 400 dF)) (hF : ∀ x y, x < w → y < ht → dF (20 * y + x) = Df (y * w + x)) (lv : Int32) (p : Pr) (op : Nat → Bool) (hop : ∀ k, oaR Df w ht lv op k = true → inn w ht k) (q0 : Nat) (Q : Nat → Nat) (S : Ho) (hS9 : S = hoR w ht (0, q0, Q, oaR Df w ht lv op)) : ∃ p' : Pr, Do l G k_Mo_holes [.ref 28, .int lv] (moP h th w ht sd md pl sh sx sy ln true p) (ri (nI S.1)) (moP h 0 w ht sd md pl sh sx sy ln true p') := by
  rw [← ho_flat hw hht] at hS9
  have e1 : ∀ k, k < 400 → fori (fun k f => updB f k ((decide (k % 20 < w) && decide (k / 20 < ht)) && decide (lv < dF k))) 400 0 p.1 k = ((decide (k % 20 < w) && decide (k / 20 < ht)) && decide (lv < dF k)) := fun k hk => by rw [cpB_pt, if_pos hk]
  have e2 : ∀ k, k < 400 → fori (fun k f => updB f k false) 400 0 p.2 k = false := fun k hk => by rw [cpB_pt (fun _ => false), if_pos hk]
  have op9 := fun r h' H0 => mo_holes_o (l := l) (G := G) (r := r) (h' := h') (th := 0) (sd := sd) (md := md) (pl := pl) (sh := sh) (sx := sx) (sy := sy) (ln := ln) (hi := true) hL hw hht h41 lv p H0
  generalize fori (fun k f => updB f k ((decide (k % 20 < w) && decide (k / 20 < ht)) && decide (lv < dF k))) 400 0 p.1 = o1 at e1 op9
  generalize fori (fun k f => updB f k false) 400 0 p.2 = m1 at e2 op9
  have hH : HR w ht (0, q0, Q, oaR Df w ht lv op) (o1, m1) := by
    refine ⟨hop, fun x y hx hy => ?_, fun k hk hp => ?_, fun c hc hm => ?_, fun c hc hm => ?_⟩
    · show o1 (20 * y + x) = oaR Df w ht lv op (mi w x y)
      rw [oa_pt op x y hx hy, e1 _ (by omega), hF x y hx hy, decide_eq_true (show (20 * y + x) % 20 < w by omega), decide_eq_true (show (20 * y + x) / 20 < ht by omega)]
      rfl
    · have hp' : o1 k = true := hp
      rw [e1 k hk] at hp'
      simp only [Bool.and_eq_true, decide_eq_true_iff] at hp'
      exact hp'.1
    · have := e2 c hc
      rw [show (o1, m1).2 c = m1 c from rfl, this] at hm
      cases hm
    · have := e2 c hc
      rw [show (o1, m1).2 c = m1 c from rfl, this] at hm
      cases hm
  obtain ⟨p', i1⟩ := mo_holes_c (l := l) (G := G) (h := h) (th := 0) (sd := sd) (md := md) (pl := pl) (sh := sh) (sx := sx) (sy := sy) (ln := ln) (hi := true) hL hw hht lv S 400 0 (0, q0, Q, oaR Df w ht lv op) (o1, m1) (by omega) hH hS9
  refine ⟨p', ?_⟩
  refine Do.of (by decide) (Nat.le_of_ble_eq_true rfl) kw_Mo_holes ?_
  have i2 := i1 (moP h th w ht sd md pl sh sx sy ln true p)
  refine V_aload_n d_Mo_holes_0 rfl ?_
  refine V_aload_n d_Mo_holes_1 rfl ?_
  refine V_gf g_Mo_holes_2 (rd hL rfl rfl) rfl ?_
  refine V_iconst (v := 1) d_Mo_holes_5 (by decide) ?_
  refine V_iconst (v := 1) d_Mo_holes_6 (by decide) ?_
  refine V_cV s_Mo_holes_7 (mo_goes (rd hL rfl rfl) true true true) (rd hL rfl rfl) rfl rfl (Nat.le_of_ble_eq_true rfl) ?_
  refine V_hS rfl ?_
  refine V_if_ne (tgt := 15) d_Mo_holes_10 (by decide) (fun _ => ?_) (fun c9 => absurd (c9 : _) ((by decide : ¬ bI (true && true && true) = 0)))
  refine V_iconst (v := 0) d_Mo_holes_15 (by decide) ?_
  refine V_istore_n d_Mo_holes_16 (by decide) rfl ?_
  refine op9 _ _ _ ?_ 400 0 (by omega)
  refine V_iconst (v := 0) d_Mo_holes_73 (by decide) ?_
  refine V_istore_n d_Mo_holes_74 (by decide) rfl ?_
  refine V_iconst (v := 0) d_Mo_holes_75 (by decide) ?_
  refine V_istore_n d_Mo_holes_76 (by decide) rfl ?_
  exact i2
end P47
