section P46
theorem has_ex {x : Int32} {n : Nat} (hn : n < 2 ^ 31) (h : hasB x n = true) : ∃ j : Nat, j < n ∧ x = nI j := by
  unfold hasB at h
  rw [Bool.and_eq_true, decide_eq_true_iff, decide_eq_true_iff] at h
  rcases pk_ix x hn with q | q | q
  · exact absurd q (nlt_iff.mpr h.1)
  · exact absurd q (nle_iff.mpr h.2)
  · exact q
def cI (X Y : Int32) : Nat := 20 * Y.toNatClampNeg + X.toNatClampNeg
def oAt (w ht : Nat) (o : Nat → Bool) (X Y : Int32) : Bool := (wiB X 0 (nI w - 1) && wiB Y 0 (nI ht - 1)) && o (cI X Y)
theorem cI_n {x y : Nat} (hx : x < 20) (hy : y < 20) : cI (nI x) (nI y) = 20 * y + x := by unfold cI; rw [nI_clamp (by omega), nI_clamp (by omega)]
theorem cell_ex {w ht : Nat} (hw : w ≤ 20) (hht : ht ≤ 20) {X Y : Int32} (h : (wiB X 0 (nI w - 1) && wiB Y 0 (nI ht - 1)) = true) : ∃ x y : Nat, x < w ∧ y < ht ∧ X = nI x ∧ Y = nI y := by
  rw [Bool.and_eq_true, wi_has _ (by omega), wi_has _ (by omega)] at h
  obtain ⟨x, hx, ex⟩ := has_ex (by omega) h.1
  obtain ⟨y, hy, ey⟩ := has_ex (by omega) h.2
  exact ⟨x, y, hx, hy, ex, ey⟩
theorem oAt_true {w ht : Nat} (hw : w ≤ 20) (hht : ht ≤ 20) {o : Nat → Bool} {X Y : Int32} (h : oAt w ht o X Y = true) : ∃ x y : Nat, x < w ∧ y < ht ∧ X = nI x ∧ Y = nI y ∧ cI X Y = 20 * y + x ∧ o (20 * y + x) = true := by
  unfold oAt at h
  rw [Bool.and_eq_true] at h
  obtain ⟨x, y, hx, hy, ex, ey⟩ := cell_ex hw hht h.1
  have e : cI X Y = 20 * y + x := by rw [ex, ey]; exact cI_n (by omega) (by omega)
  exact ⟨x, y, hx, hy, ex, ey, e, by rw [← e]; exact h.2⟩
theorem oAt_n {w ht : Nat} (hw : w ≤ 20) (hht : ht ≤ 20) {o : Nat → Bool} {x y : Nat} (hx : x < w) (hy : y < ht) : oAt w ht o (nI x) (nI y) = o (20 * y + x) := by
  unfold oAt
  rw [wi_has _ (by omega), wi_has _ (by omega), has_n hx (by omega), has_n hy (by omega), cI_n (by omega) (by omega)]
  rfl
abbrev Pr : Type := (Nat → Bool) × (Nat → Bool)
def mkR (w ht : Nat) (X Y : Int32) (s : Pr) : Pr := if oAt w ht s.1 X Y then (updB s.1 (cI X Y) false, updB s.2 (cI X Y) true) else s
def mk4 (w ht x y : Nat) (s : Pr) : Pr := mkR w ht (nI x) (nI y + 1) (mkR w ht (nI x) (nI y - 1) (mkR w ht (nI x + 1) (nI y) (mkR w ht (nI x - 1) (nI y) s)))
def any4 (w ht x y : Nat) (o : Nat → Bool) : Bool := oAt w ht o (nI x - 1) (nI y) || (oAt w ht o (nI x + 1) (nI y) || (oAt w ht o (nI x) (nI y - 1) || oAt w ht o (nI x) (nI y + 1)))
abbrev Cs : Type := Bool × Pr
def clS (w ht k : Nat) (s : Cs) : Cs := if s.2.2 k then (s.1 || any4 w ht (k % 20) (k / 20) s.2.1, mk4 w ht (k % 20) (k / 20) s.2) else s
theorem mk_or {w ht : Nat} (hw : w ≤ 20) (hht : ht ≤ 20) (X Y : Int32) (s : Pr) : (oAt w ht s.1 X Y = false ∧ mkR w ht X Y s = s) ∨ (oAt w ht s.1 X Y = true ∧ cnt (mkR w ht X Y s).1 400 + 1 = cnt s.1 400) := by
  cases h : oAt w ht s.1 X Y with
  | false =>
    left
    unfold mkR
    rw [h]
    exact ⟨rfl, rfl⟩
  | true =>
    right
    obtain ⟨x, y, hx, hy, -, -, e, ho⟩ := oAt_true hw hht h
    refine ⟨rfl, ?_⟩
    unfold mkR
    rw [h, if_pos rfl]
    show cnt (updB s.1 (cI X Y) false) 400 + 1 = _
    exact cnt_on (by rw [e]; exact ho) (by omega)
theorem mk4_or {w ht : Nat} (hw : w ≤ 20) (hht : ht ≤ 20) (x y : Nat) (s : Pr) : (any4 w ht x y s.1 = false ∧ mk4 w ht x y s = s) ∨ cnt (mk4 w ht x y s).1 400 < cnt s.1 400 := by
  unfold mk4 any4
  have le : ∀ X Y (s : Pr), cnt (mkR w ht X Y s).1 400 ≤ cnt s.1 400 := fun X Y s => by
    rcases mk_or hw hht X Y s with ⟨_, e⟩ | ⟨_, e⟩
    · rw [e]; exact Nat.le_refl _
    · omega
  rcases mk_or hw hht (nI x - 1) (nI y) s with ⟨a1, e1⟩ | ⟨a1, e1⟩
  · rw [e1, a1]
    rcases mk_or hw hht (nI x + 1) (nI y) s with ⟨a2, e2⟩ | ⟨a2, e2⟩
    · rw [e2, a2]
      rcases mk_or hw hht (nI x) (nI y - 1) s with ⟨a3, e3⟩ | ⟨a3, e3⟩
      · rw [e3, a3]
        rcases mk_or hw hht (nI x) (nI y + 1) s with ⟨a4, e4⟩ | ⟨a4, e4⟩
        · rw [e4, a4]
          exact Or.inl ⟨rfl, rfl⟩
        · right; omega
      · right
        have := le (nI x) (nI y + 1) (mkR w ht (nI x) (nI y - 1) s)
        omega
    · right
      have h1 := le (nI x) (nI y + 1) (mkR w ht (nI x) (nI y - 1) (mkR w ht (nI x + 1) (nI y) s))
      have h2 := le (nI x) (nI y - 1) (mkR w ht (nI x + 1) (nI y) s)
      omega
  · right
    have h1 := le (nI x) (nI y + 1) (mkR w ht (nI x) (nI y - 1) (mkR w ht (nI x + 1) (nI y) (mkR w ht (nI x - 1) (nI y) s)))
    have h2 := le (nI x) (nI y - 1) (mkR w ht (nI x + 1) (nI y) (mkR w ht (nI x - 1) (nI y) s))
    have h3 := le (nI x + 1) (nI y) (mkR w ht (nI x - 1) (nI y) s)
    omega
/-- a pass over all cells that found nothing -/
theorem pass_f {w ht : Nat} (hw : w ≤ 20) (hht : ht ≤ 20) : ∀ (n i : Nat) (s : Cs), (fori (clS w ht) n i s).1 = false → s.1 = false ∧ fori (clS w ht) n i s = s ∧ ∀ k, i ≤ k → k < i + n → s.2.2 k = true → any4 w ht (k % 20) (k / 20) s.2.1 = false
  | 0, i, s, h => ⟨h, rfl, fun k h1 h2 => by omega⟩
  | n + 1, i, s, h => by
    rw [fori_s] at h
    obtain ⟨a1, a2, a3⟩ := pass_f hw hht n (i + 1) (clS w ht i s) h
    have key : s.1 = false ∧ clS w ht i s = s ∧ (s.2.2 i = true → any4 w ht (i % 20) (i / 20) s.2.1 = false) := by
      by_cases q : s.2.2 i = true
      · have e : clS w ht i s = (s.1 || any4 w ht (i % 20) (i / 20) s.2.1, mk4 w ht (i % 20) (i / 20) s.2) := by unfold clS; rw [if_pos q]
        rw [e] at a1
        have b := Bool.or_eq_false_iff.mp a1
        rcases mk4_or hw hht (i % 20) (i / 20) s.2 with ⟨_, e2⟩ | e2
        · refine ⟨b.1, ?_, fun _ => b.2⟩
          rw [e, e2, b.1, b.2]
          show (false, s.2) = s
          rw [← b.1]
        · exfalso
          unfold mk4 at e2
          unfold any4 at b
          obtain ⟨_, b⟩ := b
          rw [Bool.or_eq_false_iff, Bool.or_eq_false_iff, Bool.or_eq_false_iff] at b
          have z1 : mkR w ht (nI (i % 20) - 1) (nI (i / 20)) s.2 = s.2 := by unfold mkR; rw [b.1]; rfl
          have z2 : mkR w ht (nI (i % 20) + 1) (nI (i / 20)) s.2 = s.2 := by unfold mkR; rw [b.2.1]; rfl
          have z3 : mkR w ht (nI (i % 20)) (nI (i / 20) - 1) s.2 = s.2 := by unfold mkR; rw [b.2.2.1]; rfl
          have z4 : mkR w ht (nI (i % 20)) (nI (i / 20) + 1) s.2 = s.2 := by unfold mkR; rw [b.2.2.2]; rfl
          rw [z1, z2, z3, z4] at e2
          omega
      · have e : clS w ht i s = s := by unfold clS; rw [if_neg q]
        rw [e] at a1
        exact ⟨a1, e, fun h => absurd h q⟩
    obtain ⟨k1, k2, k3⟩ := key
    rw [k2] at a2 a3
    refine ⟨k1, by rw [fori_s, k2]; exact a2, fun k h1 h2 h3 => ?_⟩
    rcases Nat.lt_or_ge i k with z | z
    · exact a3 k (by omega) (by omega) h3
    · obtain rfl : k = i := by omega
      exact k3 h3
/-- a pass that found something leaves fewer open -/
theorem pass_t {w ht : Nat} (hw : w ≤ 20) (hht : ht ≤ 20) : ∀ (n i : Nat) (s : Cs), cnt (fori (clS w ht) n i s).2.1 400 ≤ cnt s.2.1 400 ∧ (s.1 = false → (fori (clS w ht) n i s).1 = true → cnt (fori (clS w ht) n i s).2.1 400 < cnt s.2.1 400)
  | 0, i, s => ⟨Nat.le_refl _, fun h1 h2 => by rw [show (fori (clS w ht) 0 i s).1 = s.1 from rfl, h1] at h2; cases h2⟩
  | n + 1, i, s => by
    obtain ⟨a1, a2⟩ := pass_t hw hht n (i + 1) (clS w ht i s)
    rw [fori_s]
    by_cases q : s.2.2 i = true
    · have e : clS w ht i s = (s.1 || any4 w ht (i % 20) (i / 20) s.2.1, mk4 w ht (i % 20) (i / 20) s.2) := by unfold clS; rw [if_pos q]
      rcases mk4_or hw hht (i % 20) (i / 20) s.2 with ⟨e1, e2⟩ | e2
      · have e3 : clS w ht i s = s := by rw [e, e1, e2, Bool.or_false]
        rw [e3] at a1 a2 ⊢
        exact ⟨a1, a2⟩
      · have e3 : (clS w ht i s).2.1 = (mk4 w ht (i % 20) (i / 20) s.2).1 := by rw [e]
        rw [e3] at a1
        exact ⟨by omega, fun _ _ => by omega⟩
    · have e : clS w ht i s = s := by unfold clS; rw [if_neg q]
      rw [e] at a1 a2 ⊢
      exact ⟨a1, a2⟩
theorem nIe {a b : Nat} (ha : a < 1000) (hb : b < 1000) (h : nI a = nI b) : a = b := by
  have := congrArg Int32.toInt h
  rw [nI_toInt (by omega), nI_toInt (by omega)] at this
  omega
theorem nIe1 {a b : Nat} (ha : a < 1000) (hb : b < 1000) (h : nI a - 1 = nI b) : a = b + 1 := by
  have := congrArg Int32.toInt h
  rw [show (1 : Int32) = nI 1 from rfl, pk_sub_toInt (by omega) (by decide), nI_toInt (by omega)] at this
  omega
/-- open cells and marks of the model, while it closes around x0, y0 -/
def IM (w ht : Nat) (O0 M0 : Nat → Bool) (x0 y0 : Nat) (s : Pr) : Prop := (∀ c, s.1 c = true → O0 c = true) ∧ (∀ c, c < 400 → s.2 c = true → M0 c = true ∨ Rc (gO w ht (fun x y => O0 (20 * y + x))) x0 y0 (c % 20) (c / 20)) ∧ (∀ c, O0 c = true → s.1 c = true ∨ s.2 c = true) ∧ s.2 (20 * y0 + x0) = true ∧ s.1 (20 * y0 + x0) = false
theorem IM_mk {w ht : Nat} (hw : w ≤ 20) (hht : ht ≤ 20) {O0 M0 : Nat → Bool} {x0 y0 x y : Nat} (hg : ∀ c, c < 400 → M0 c = true → ∀ x' y', nb (c % 20) (c / 20) x' y' → gO w ht (fun x y => O0 (20 * y + x)) x' y' = false) (hx : x < 20) (hy : y < 20) {s : Pr} (hs : IM w ht O0 M0 x0 y0 s) (hm : s.2 (20 * y + x) = true) (X Y : Int32) (hXY : ∀ x' y', x' < w → y' < ht → X = nI x' → Y = nI y' → nb x y x' y') : IM w ht O0 M0 x0 y0 (mkR w ht X Y s) ∧ (mkR w ht X Y s).2 (20 * y + x) = true := by
  cases h : oAt w ht s.1 X Y with
  | false =>
    have e : mkR w ht X Y s = s := by unfold mkR; rw [h]; rfl
    rw [e]
    exact ⟨hs, hm⟩
  | true =>
    obtain ⟨x', y', hx', hy', ex, ey, ec, ho⟩ := oAt_true hw hht h
    have e : mkR w ht X Y s = (updB s.1 (20 * y' + x') false, updB s.2 (20 * y' + x') true) := by unfold mkR; rw [h, if_pos rfl, ec]
    rw [e]
    obtain ⟨h1, h2, h3, h4, h5⟩ := hs
    have hn := hXY x' y' hx' hy' ex ey
    have hG : gO w ht (fun x y => O0 (20 * y + x)) x' y' = true := gO_t.mpr ⟨hx', hy', h1 _ ho⟩
    have hr : Rc (gO w ht (fun x y => O0 (20 * y + x))) x0 y0 x' y' := by
      have e1 : (20 * y + x) % 20 = x := by omega
      have e2 : (20 * y + x) / 20 = y := by omega
      rcases h2 _ (by omega) hm with z | z
      · have := hg _ (by omega) z x' y' (by rw [e1, e2]; exact hn)
        rw [hG] at this
        cases this
      · rw [e1, e2] at z
        exact Rc.step z hn hG
    refine ⟨⟨fun c hc => ?_, fun c hc hc2 => ?_, fun c hc => ?_, ?_, ?_⟩, ?_⟩
    · have hc' : updB s.1 (20 * y' + x') false c = true := hc
      unfold updB at hc'
      by_cases z : c = 20 * y' + x'
      · rw [if_pos z] at hc'; cases hc'
      · rw [if_neg z] at hc'; exact h1 c hc'
    · have hc' : updB s.2 (20 * y' + x') true c = true := hc2
      unfold updB at hc'
      by_cases z : c = 20 * y' + x'
      · right
        subst z
        rw [show (20 * y' + x') % 20 = x' by omega, show (20 * y' + x') / 20 = y' by omega]
        exact hr
      · rw [if_neg z] at hc'
        exact h2 c hc hc'
    · show updB s.1 (20 * y' + x') false c = true ∨ updB s.2 (20 * y' + x') true c = true
      unfold updB
      by_cases z : c = 20 * y' + x'
      · rw [if_pos z, if_pos z]; exact Or.inr rfl
      · rw [if_neg z, if_neg z]; exact h3 c hc
    · show updB s.2 (20 * y' + x') true (20 * y0 + x0) = true
      unfold updB
      split
      · rfl
      · exact h4
    · show updB s.1 (20 * y' + x') false (20 * y0 + x0) = false
      unfold updB
      split
      · rfl
      · exact h5
    · show updB s.2 (20 * y' + x') true (20 * y + x) = true
      unfold updB
      split
      · rfl
      · exact hm
theorem IM_cl {w ht : Nat} (hw : w ≤ 20) (hht : ht ≤ 20) {O0 M0 : Nat → Bool} {x0 y0 : Nat} (hg : ∀ c, c < 400 → M0 c = true → ∀ x' y', nb (c % 20) (c / 20) x' y' → gO w ht (fun x y => O0 (20 * y + x)) x' y' = false) {k : Nat} (hk : k < 400) {s : Cs} (hs : IM w ht O0 M0 x0 y0 s.2) : IM w ht O0 M0 x0 y0 (clS w ht k s).2 := by
  unfold clS
  by_cases q : s.2.2 k = true
  · rw [if_pos q]
    show IM w ht O0 M0 x0 y0 (mk4 w ht (k % 20) (k / 20) s.2)
    have hx : k % 20 < 20 := by omega
    have hy : k / 20 < 20 := by omega
    have ek : 20 * (k / 20) + k % 20 = k := by omega
    generalize k % 20 = x at *
    generalize k / 20 = y at *
    unfold mk4
    obtain ⟨a1, a2⟩ := IM_mk hw hht hg hx hy hs (by rw [ek]; exact q) (nI x - 1) (nI y) (fun x' y' h1 h2 e1 e2 => Or.inl ⟨(nIe (by omega) (by omega) e2).symm, Or.inl (nIe1 (by omega) (by omega) e1).symm⟩)
    obtain ⟨b1, b2⟩ := IM_mk hw hht hg hx hy a1 a2 (nI x + 1) (nI y) (fun x' y' h1 h2 e1 e2 => Or.inl ⟨(nIe (by omega) (by omega) e2).symm, Or.inr (nIe (a := x + 1) (by omega) (by omega) ((nI_add x 1).symm.trans e1)).symm⟩)
    obtain ⟨c1, c2⟩ := IM_mk hw hht hg hx hy b1 b2 (nI x) (nI y - 1) (fun x' y' h1 h2 e1 e2 => Or.inr ⟨(nIe (by omega) (by omega) e1).symm, Or.inl (nIe1 (by omega) (by omega) e2).symm⟩)
    exact (IM_mk hw hht hg hx hy c1 c2 (nI x) (nI y + 1) (fun x' y' h1 h2 e1 e2 => Or.inr ⟨(nIe (by omega) (by omega) e1).symm, Or.inr (nIe (a := y + 1) (by omega) (by omega) ((nI_add y 1).symm.trans e2)).symm⟩)).1
  · rw [if_neg q]
    exact hs
theorem IM_pass {w ht : Nat} (hw : w ≤ 20) (hht : ht ≤ 20) {O0 M0 : Nat → Bool} {x0 y0 : Nat} (hg : ∀ c, c < 400 → M0 c = true → ∀ x' y', nb (c % 20) (c / 20) x' y' → gO w ht (fun x y => O0 (20 * y + x)) x' y' = false) : ∀ (n i : Nat) (s : Cs), i + n ≤ 400 → IM w ht O0 M0 x0 y0 s.2 → IM w ht O0 M0 x0 y0 (fori (clS w ht) n i s).2
  | 0, _, _, _, hs => hs
  | n + 1, i, s, hi, hs => by
    rw [fori_s]
    exact IM_pass hw hht hg n (i + 1) _ (by omega) (IM_cl hw hht hg (by omega) hs)
theorem any_f {w ht : Nat} (hw : w ≤ 20) (hht : ht ≤ 20) {o : Nat → Bool} {x y x' y' : Nat} (hx : x < 20) (hy : y < 20) (ha : any4 w ht x y o = false) (hn : nb x y x' y') : gO w ht (fun x y => o (20 * y + x)) x' y' = false := by
  unfold any4 at ha
  rw [Bool.or_eq_false_iff, Bool.or_eq_false_iff, Bool.or_eq_false_iff] at ha
  obtain ⟨a1, a2, a3, a4⟩ := ha
  cases hz : gO w ht (fun x y => o (20 * y + x)) x' y' with
  | false => rfl
  | true =>
    obtain ⟨z1, z2, z3⟩ := gO_t.mp hz
    have z3' : o (20 * y' + x') = true := z3
    rcases hn with ⟨rfl, h | h⟩ | ⟨rfl, h | h⟩
    · rw [nIm1 (by omega), show x - 1 = x' by omega, oAt_n hw hht z1 z2, z3'] at a1
      cases a1
    · subst h
      rw [show nI x + 1 = nI (x + 1) from nI_add x 1, oAt_n hw hht z1 z2, z3'] at a2
      cases a2
    · rw [nIm1 (by omega), show y - 1 = y' by omega, oAt_n hw hht z1 z2, z3'] at a3
      cases a3
    · subst h
      rw [show nI y + 1 = nI (y + 1) from nI_add y 1, oAt_n hw hht z1 z2, z3'] at a4
      cases a4
/-- marks and open cells, when nothing is being closed -/
def GM (w ht : Nat) (s : Pr) : Prop := (∀ c, c < 400 → s.2 c = true → s.1 c = false) ∧ (∀ c, c < 400 → s.2 c = true → ∀ x' y', nb (c % 20) (c / 20) x' y' → gO w ht (fun x y => s.1 (20 * y + x)) x' y' = false)
theorem cl_end {w ht : Nat} (hw : w ≤ 20) (hht : ht ≤ 20) {O0 M0 : Nat → Bool} {x0 y0 : Nat} (hG : GM w ht (O0, M0)) (hx0 : x0 < w) (hy0 : y0 < ht) {s : Pr} (hs : IM w ht O0 M0 x0 y0 s) (hE : ∀ k, k < 400 → s.2 k = true → any4 w ht (k % 20) (k / 20) s.1 = false) : GM w ht s ∧ (∀ c, s.1 c = true → O0 c = true) ∧ ∀ x y, x < w → y < ht → (s.1 (20 * y + x) = true ↔ O0 (20 * y + x) = true ∧ ¬ Rc (gO w ht (fun x y => O0 (20 * y + x))) x0 y0 x y) := by
  obtain ⟨h1, h2, h3, h4, h5⟩ := hs
  have nbs : ∀ c, c < 400 → s.2 c = true → ∀ x' y', nb (c % 20) (c / 20) x' y' → gO w ht (fun x y => s.1 (20 * y + x)) x' y' = false := fun c hc hm x' y' hn => any_f hw hht (by omega) (by omega) (hE c hc hm) hn
  have reach : ∀ x y, Rc (gO w ht (fun x y => O0 (20 * y + x))) x0 y0 x y → s.2 (20 * y + x) = true ∧ s.1 (20 * y + x) = false := by
    intro x y hr
    refine (hr (fun x y => (x < w ∧ y < ht) ∧ s.2 (20 * y + x) = true ∧ s.1 (20 * y + x) = false) ⟨⟨hx0, hy0⟩, h4, h5⟩ ?_).2
    rintro x y x' y' ⟨⟨u1, u2⟩, ih1, ih2⟩ hn ho
    obtain ⟨o1, o2, o3⟩ := gO_t.mp ho
    have nf := nbs (20 * y + x) (by omega) ih1 x' y' (by rw [show (20 * y + x) % 20 = x by omega, show (20 * y + x) / 20 = y by omega]; exact hn)
    have of : s.1 (20 * y' + x') = false := by
      cases hz : s.1 (20 * y' + x') with
      | false => rfl
      | true =>
        rw [gO_t.mpr ⟨o1, o2, hz⟩] at nf
        cases nf
    refine ⟨⟨o1, o2⟩, ?_⟩
    rcases h3 _ o3 with z | z
    · rw [of] at z; cases z
    · exact ⟨z, of⟩
  refine ⟨⟨fun c hc hm => ?_, nbs⟩, h1, fun x y hx hy => ⟨fun h => ⟨h1 _ h, fun hr => ?_⟩, fun ⟨h, hr⟩ => ?_⟩⟩
  · rcases h2 c hc hm with z | z
    · cases hz : s.1 c with
      | false => rfl
      | true =>
        have e1 := hG.1 c hc z
        rw [show (O0, M0).1 c = O0 c from rfl, h1 c hz] at e1
        cases e1
    · have := (reach _ _ z).2
      rw [show 20 * (c / 20) + c % 20 = c by omega] at this
      exact this
  · rw [(reach x y hr).2] at h
    cases h
  · rcases h3 _ h with z | z
    · exact z
    · exfalso
      rcases h2 _ (by omega) z with z2 | z2
      · have e1 := hG.1 _ (by omega) z2
        rw [show (O0, M0).1 (20 * y + x) = O0 (20 * y + x) from rfl, h] at e1
        cases e1
      · rw [show (20 * y + x) % 20 = x by omega, show (20 * y + x) / 20 = y by omega] at z2
        exact hr z2
variable {l : Launch} {G : Gb} {h h0 h' : List Ce} {r : Rs} {th sx sy : Int32} {w ht sd pl ln : Nat} {md sh hi : Bool} {o : Nat → Bool}
theorem mo_isOpen (c_Mo : h[27]? = some (MoO th w ht sd md pl sh sx sy ln hi)) (a_Mo_open : h[43]? = some (ZA 400 o)) (hw : w ≤ 20) (hht : ht ≤ 20) (X Y : Int32) : Do l G k_Mo_isOpen [.ref 28, .int X, .int Y] h (rz (oAt w ht o X Y)) h := by
  refine Do.of (by decide) (Nat.le_of_ble_eq_true rfl) kw_Mo_isOpen ?_
  refine V_aload_n d_Mo_isOpen_0 rfl ?_
  refine V_iload_n d_Mo_isOpen_1 rfl ?_
  refine V_iload_n d_Mo_isOpen_2 rfl ?_
  refine V_cV s_Mo_isOpen_3 (mo_isCell c_Mo X Y) c_Mo rfl rfl (Nat.le_of_ble_eq_true rfl) ?_
  refine V_if_eq (tgt := 27) d_Mo_isOpen_6 (by decide) (fun c1 => ?_) (fun c1 => ?_)
  · rw [rz, show oAt w ht o X Y = false by unfold oAt; rw [(bI_0 _).mp c1]; rfl]
    refine V_iconst (v := 0) d_Mo_isOpen_27 (by decide) ?_
    exact V_iret d_Mo_isOpen_28 rfl (by first | rfl | exact bI_n _)
  · have c1' : (wiB X 0 (nI w - 1) && wiB Y 0 (nI ht - 1)) = true := by simpa [bI_0] using c1
    obtain ⟨x, y, hx, hy, rfl, rfl⟩ := cell_ex hw hht c1'
    refine V_aload_n d_Mo_isOpen_9 rfl ?_
    refine V_gf g_Mo_isOpen_10 c_Mo rfl ?_
    refine V_bipush (v := 20) d_Mo_isOpen_13 (by decide) ?_
    refine V_iload_n d_Mo_isOpen_15 rfl ?_
    refine V_imul d_Mo_isOpen_16 ?_
    refine V_iload_n d_Mo_isOpen_17 rfl ?_
    refine V_iadd d_Mo_isOpen_18 ?_
    refine V_zaldN d_Mo_isOpen_19 a_Mo_open (ix400b (show x < 20 by omega) (show y < 20 by omega)) ?_
    rw [oAt_n hw hht hx hy]
    refine V_if_eq (tgt := 27) d_Mo_isOpen_20 (by decide) (fun c2 => ?_) (fun c2 => ?_)
    · rw [rz, (bI_0 _).mp c2]
      refine V_iconst (v := 0) d_Mo_isOpen_27 (by decide) ?_
      exact V_iret d_Mo_isOpen_28 rfl (by first | rfl | exact bI_n _)
    · rw [rz, show o (20 * y + x) = true by simpa [bI_0] using c2]
      refine V_iconst (v := 1) d_Mo_isOpen_23 (by decide) ?_
      refine V_goto (tgt := 28) d_Mo_isOpen_24 (by decide) ?_
      exact V_iret d_Mo_isOpen_28 rfl (by first | rfl | exact bI_n _)
abbrev moP (h : List Ce) (th : Int32) (w ht sd : Nat) (md : Bool) (pl : Nat) (sh : Bool) (sx sy : Int32) (ln : Nat) (hi : Bool) (s : Pr) : List Ce := hS h [(27, MoO th w ht sd md pl sh sx sy ln hi), (43, ZA 400 s.1), (44, ZA 400 s.2)]
theorem mo_mark (hL : 45 ≤ h.length) (hw : w ≤ 20) (hht : ht ≤ 20) (X Y : Int32) (s : Pr) : Do l G k_Mo_mark [.ref 28, .int X, .int Y] (moP h th w ht sd md pl sh sx sy ln hi s) rv (moP h th w ht sd md pl sh sx sy ln hi (mkR w ht X Y s)) := by
  refine Do.of (by decide) (Nat.le_of_ble_eq_true rfl) kw_Mo_mark ?_
  refine V_aload_n d_Mo_mark_0 rfl ?_
  refine V_iload_n d_Mo_mark_1 rfl ?_
  refine V_iload_n d_Mo_mark_2 rfl ?_
  refine V_cV s_Mo_mark_3 (mo_isOpen (rd hL rfl rfl) (rd hL rfl rfl) hw hht X Y) (rd hL rfl rfl) rfl rfl (Nat.le_of_ble_eq_true rfl) ?_
  refine V_if_eq (tgt := 33) d_Mo_mark_6 (by decide) (fun c1 => ?_) (fun c1 => ?_)
  · rw [show mkR w ht X Y s = s by unfold mkR; rw [(bI_0 _).mp c1]; rfl]
    exact V_vret d_Mo_mark_33 rfl
  · have c1' : oAt w ht s.1 X Y = true := by simpa [bI_0] using c1
    obtain ⟨x, y, hx, hy, ex, ey, ec, -⟩ := oAt_true hw hht c1'
    rw [show mkR w ht X Y s = (updB s.1 (20 * y + x) false, updB s.2 (20 * y + x) true) by unfold mkR; rw [c1', if_pos rfl, ec]]
    subst ex
    subst ey
    refine V_aload_n d_Mo_mark_9 rfl ?_
    refine V_gf g_Mo_mark_10 (rd hL rfl rfl) rfl ?_
    refine V_bipush (v := 20) d_Mo_mark_13 (by decide) ?_
    refine V_iload_n d_Mo_mark_15 rfl ?_
    refine V_imul d_Mo_mark_16 ?_
    refine V_iload_n d_Mo_mark_17 rfl ?_
    refine V_iadd d_Mo_mark_18 ?_
    refine V_iconst (v := 0) d_Mo_mark_19 (by decide) ?_
    refine V_zast0 d_Mo_mark_20 (rd hL rfl rfl) (ix400b (show x < 20 by omega) (show y < 20 by omega)) ?_
    refine V_hS rfl ?_
    refine V_aload_n d_Mo_mark_21 rfl ?_
    refine V_gf g_Mo_mark_22 (rd hL rfl rfl) rfl ?_
    refine V_bipush (v := 20) d_Mo_mark_25 (by decide) ?_
    refine V_iload_n d_Mo_mark_27 rfl ?_
    refine V_imul d_Mo_mark_28 ?_
    refine V_iload_n d_Mo_mark_29 rfl ?_
    refine V_iadd d_Mo_mark_30 ?_
    refine V_iconst (v := 1) d_Mo_mark_31 (by decide) ?_
    refine V_zast1 d_Mo_mark_32 (rd hL rfl rfl) (ix400b (show x < 20 by omega) (show y < 20 by omega)) ?_
    refine V_hS rfl ?_
    exact V_vret d_Mo_mark_33 rfl
theorem mo_close_p (hL : 45 ≤ h.length) (hw : w ≤ 20) (hht : ht ≤ 20) {k0 : Nat} (H0 : List Ce) (S : Cs) (kk : V l G k_Mo_close H0 160 [(0, .ref 28), (1, .int (nI k0)), (2, .int (bI S.1)), (3, .int (nI 400))] [] (moP h th w ht sd md pl sh sx sy ln hi S.2) r h') : ∀ (m k : Nat) (s : Cs), k + m = 400 → S = fori (clS w ht) m k s → V l G k_Mo_close H0 24 [(0, .ref 28), (1, .int (nI k0)), (2, .int (bI s.1)), (3, .int (nI k))] [] (moP h th w ht sd md pl sh sx sy ln hi s.2) r h' := by
  intro m
  induction m with
  | zero =>
    intro k s hk e
    obtain rfl : k = 400 := by omega
    have e' : S = s := e
    rw [e'] at kk
    refine V_iload_n d_Mo_close_24 rfl ?_
    refine V_sipush (v := 400) d_Mo_close_25 (by decide) ?_
    refine V_icmp_ge (tgt := 160) d_Mo_close_28 (by decide) (fun _ => ?_) (fun c9 => absurd ((by decide : (400 : Int32) ≤ nI 400)) c9)
    exact kk
  | succ m ih =>
    intro k s hk e
    rw [fori_s] at e
    refine V_iload_n d_Mo_close_24 rfl ?_
    refine V_sipush (v := 400) d_Mo_close_25 (by decide) ?_
    refine V_icmp_ge (tgt := 160) d_Mo_close_28 (by decide) (fun c9 => absurd c9 ((nI_ge (b := 400) (by omega) (by decide) : ¬ (400 : Int32) ≤ nI k))) (fun _ => ?_)
    refine V_iload_n d_Mo_close_31 rfl ?_
    refine V_bipush (v := 20) d_Mo_close_32 (by decide) ?_
    refine V_irem d_Mo_close_34 (by decide) ?_
    rw [show (20 : Int32) = nI 20 from rfl, pk_rem (by omega) (by decide) (by decide)]
    refine V_istore d_Mo_close_35 (by decide) rfl ?_
    refine V_iload_n d_Mo_close_37 rfl ?_
    refine V_bipush (v := 20) d_Mo_close_38 (by decide) ?_
    refine V_idiv d_Mo_close_40 (by decide) ?_
    rw [show (20 : Int32) = nI 20 from rfl, pk_div (by omega) (by decide) (by decide)]
    refine V_istore d_Mo_close_41 (by decide) rfl ?_
    refine V_aload_n d_Mo_close_43 rfl ?_
    refine V_gf g_Mo_close_44 (rd hL rfl rfl) rfl ?_
    refine V_iload_n d_Mo_close_47 rfl ?_
    refine V_zaldN d_Mo_close_48 (rd hL rfl rfl) (Ix.of (show k < 400 by omega) (by decide)) ?_
    refine V_if_eq (tgt := 154) d_Mo_close_49 (by decide) (fun c1 => ?_) (fun c1 => ?_)
    · have ec : clS w ht k s = s := by unfold clS; rw [(bI_0 _).mp c1]; rfl
      rw [ec] at e
      refine V_iinc1 d_Mo_close_154 rfl (by decide) rfl ?_
      refine V_goto (tgt := 24) d_Mo_close_157 (by decide) ?_
      rw [nI_1]
      refine V_keep [0, 1, 2, 3] ?_
      exact ih (k + 1) s (by omega) e
    · have ec : clS w ht k s = (s.1 || any4 w ht (k % 20) (k / 20) s.2.1, mk4 w ht (k % 20) (k / 20) s.2) := by unfold clS; rw [if_pos (by simpa [bI_0] using c1)]
      rw [ec] at e
      have i9 := ih (k + 1) _ (by omega) e
      clear ih e ec c1
      generalize k % 20 = x at *
      generalize k / 20 = y at *
      have tail : ∀ z : Bool, z = (s.1 || any4 w ht x y s.2.1) → V l G k_Mo_close H0 113 [(0, .ref 28), (1, .int (nI k0)), (2, .int (bI s.1)), (3, .int (nI k)), (4, .int (nI x)), (5, .int (nI y))] [.int (bI z)] (moP h th w ht sd md pl sh sx sy ln hi s.2) r h' := by
        intro z hz
        rw [← hz] at i9
        refine V_istore_n d_Mo_close_113 (by decide) rfl ?_
        refine V_aload_n d_Mo_close_114 rfl ?_
        refine V_iload d_Mo_close_115 rfl ?_
        refine V_iconst (v := 1) d_Mo_close_117 (by decide) ?_
        refine V_isub d_Mo_close_118 ?_
        refine V_iload d_Mo_close_119 rfl ?_
        refine V_cV s_Mo_close_121 (mo_mark hL hw hht (nI x - 1) (nI y) s.2) (rd hL rfl rfl) rfl rfl (Nat.le_of_ble_eq_true rfl) ?_
        refine V_aload_n d_Mo_close_124 rfl ?_
        refine V_iload d_Mo_close_125 rfl ?_
        refine V_iconst (v := 1) d_Mo_close_127 (by decide) ?_
        refine V_iadd d_Mo_close_128 ?_
        refine V_iload d_Mo_close_129 rfl ?_
        refine V_cV s_Mo_close_131 (mo_mark hL hw hht (nI x + 1) (nI y) _) (rd hL rfl rfl) rfl rfl (Nat.le_of_ble_eq_true rfl) ?_
        refine V_aload_n d_Mo_close_134 rfl ?_
        refine V_iload d_Mo_close_135 rfl ?_
        refine V_iload d_Mo_close_137 rfl ?_
        refine V_iconst (v := 1) d_Mo_close_139 (by decide) ?_
        refine V_isub d_Mo_close_140 ?_
        refine V_cV s_Mo_close_141 (mo_mark hL hw hht (nI x) (nI y - 1) _) (rd hL rfl rfl) rfl rfl (Nat.le_of_ble_eq_true rfl) ?_
        refine V_aload_n d_Mo_close_144 rfl ?_
        refine V_iload d_Mo_close_145 rfl ?_
        refine V_iload d_Mo_close_147 rfl ?_
        refine V_iconst (v := 1) d_Mo_close_149 (by decide) ?_
        refine V_iadd d_Mo_close_150 ?_
        refine V_cV s_Mo_close_151 (mo_mark hL hw hht (nI x) (nI y + 1) _) (rd hL rfl rfl) rfl rfl (Nat.le_of_ble_eq_true rfl) ?_
        refine V_iinc1 d_Mo_close_154 rfl (by decide) rfl ?_
        refine V_goto (tgt := 24) d_Mo_close_157 (by decide) ?_
        rw [nI_1]
        refine V_keep [0, 1, 2, 3] ?_
        exact i9
      have yes : (s.1 || any4 w ht x y s.2.1) = true → V l G k_Mo_close H0 108 [(0, .ref 28), (1, .int (nI k0)), (2, .int (bI s.1)), (3, .int (nI k)), (4, .int (nI x)), (5, .int (nI y))] [] (moP h th w ht sd md pl sh sx sy ln hi s.2) r h' := by
        intro hz
        have t := tail true hz.symm
        refine V_iconst (v := 1) d_Mo_close_108 (by decide) ?_
        refine V_goto (tgt := 113) d_Mo_close_109 (by decide) ?_
        exact t
      refine V_iload_n d_Mo_close_52 rfl ?_
      refine V_if_ne (tgt := 108) d_Mo_close_53 (by decide) (fun d1 => ?_) (fun d1 => ?_)
      · exact yes (by rw [show s.1 = true by simpa [bI_0] using d1]; rfl)
      · have d1' : s.1 = false := by simpa [bI_0] using d1
        refine V_aload_n d_Mo_close_56 rfl ?_
        refine V_iload d_Mo_close_57 rfl ?_
        refine V_iconst (v := 1) d_Mo_close_59 (by decide) ?_
        refine V_isub d_Mo_close_60 ?_
        refine V_iload d_Mo_close_61 rfl ?_
        refine V_cV s_Mo_close_63 (mo_isOpen (rd hL rfl rfl) (rd hL rfl rfl) hw hht (nI x - 1) (nI y)) (rd hL rfl rfl) rfl rfl (Nat.le_of_ble_eq_true rfl) ?_
        refine V_if_ne (tgt := 108) d_Mo_close_66 (by decide) (fun d2 => ?_) (fun d2 => ?_)
        · exact yes (by unfold any4; rw [show oAt w ht s.2.1 (nI x - 1) (nI y) = true by simpa [bI_0] using d2]; simp)
        · have d2' : oAt w ht s.2.1 (nI x - 1) (nI y) = false := by simpa [bI_0] using d2
          refine V_aload_n d_Mo_close_69 rfl ?_
          refine V_iload d_Mo_close_70 rfl ?_
          refine V_iconst (v := 1) d_Mo_close_72 (by decide) ?_
          refine V_iadd d_Mo_close_73 ?_
          refine V_iload d_Mo_close_74 rfl ?_
          refine V_cV s_Mo_close_76 (mo_isOpen (rd hL rfl rfl) (rd hL rfl rfl) hw hht (nI x + 1) (nI y)) (rd hL rfl rfl) rfl rfl (Nat.le_of_ble_eq_true rfl) ?_
          refine V_if_ne (tgt := 108) d_Mo_close_79 (by decide) (fun d3 => ?_) (fun d3 => ?_)
          · exact yes (by unfold any4; rw [show oAt w ht s.2.1 (nI x + 1) (nI y) = true by simpa [bI_0] using d3]; simp)
          · have d3' : oAt w ht s.2.1 (nI x + 1) (nI y) = false := by simpa [bI_0] using d3
            refine V_aload_n d_Mo_close_82 rfl ?_
            refine V_iload d_Mo_close_83 rfl ?_
            refine V_iload d_Mo_close_85 rfl ?_
            refine V_iconst (v := 1) d_Mo_close_87 (by decide) ?_
            refine V_isub d_Mo_close_88 ?_
            refine V_cV s_Mo_close_89 (mo_isOpen (rd hL rfl rfl) (rd hL rfl rfl) hw hht (nI x) (nI y - 1)) (rd hL rfl rfl) rfl rfl (Nat.le_of_ble_eq_true rfl) ?_
            refine V_if_ne (tgt := 108) d_Mo_close_92 (by decide) (fun d4 => ?_) (fun d4 => ?_)
            · exact yes (by unfold any4; rw [show oAt w ht s.2.1 (nI x) (nI y - 1) = true by simpa [bI_0] using d4]; simp)
            · have d4' : oAt w ht s.2.1 (nI x) (nI y - 1) = false := by simpa [bI_0] using d4
              refine V_aload_n d_Mo_close_95 rfl ?_
              refine V_iload d_Mo_close_96 rfl ?_
              refine V_iload d_Mo_close_98 rfl ?_
              refine V_iconst (v := 1) d_Mo_close_100 (by decide) ?_
              refine V_iadd d_Mo_close_101 ?_
              refine V_cV s_Mo_close_102 (mo_isOpen (rd hL rfl rfl) (rd hL rfl rfl) hw hht (nI x) (nI y + 1)) (rd hL rfl rfl) rfl rfl (Nat.le_of_ble_eq_true rfl) ?_
              refine V_if_eq (tgt := 112) d_Mo_close_105 (by decide) (fun d5 => ?_) (fun d5 => ?_)
              · have t := tail false (by unfold any4; rw [d1', d2', d3', d4', (bI_0 _).mp d5]; rfl)
                refine V_iconst (v := 0) d_Mo_close_112 (by decide) ?_
                exact t
              · exact yes (by unfold any4; rw [show oAt w ht s.2.1 (nI x) (nI y + 1) = true by simpa [bI_0] using d5]; simp)
theorem mo_close_l (hL : 45 ≤ h.length) (hw : w ≤ 20) (hht : ht ≤ 20) {k0 : Nat} {O0 M0 : Nat → Bool} {x0 y0 : Nat} (hG : GM w ht (O0, M0)) (hx0 : x0 < w) (hy0 : y0 < ht) : ∀ (n : Nat) (s : Pr), cnt s.1 400 ≤ n → IM w ht O0 M0 x0 y0 s → ∃ s' : Pr, (GM w ht s' ∧ (∀ c, s'.1 c = true → O0 c = true) ∧ ∀ x y, x < w → y < ht → (s'.1 (20 * y + x) = true ↔ O0 (20 * y + x) = true ∧ ¬ Rc (gO w ht (fun x y => O0 (20 * y + x))) x0 y0 x y)) ∧ ∀ H0 : List Ce, V l G k_Mo_close H0 16 [(0, .ref 28), (1, .int (nI k0)), (2, .int 1)] [] (moP h th w ht sd md pl sh sx sy ln hi s) rv (moP h th w ht sd md pl sh sx sy ln hi s') := by
  intro n
  induction n with
  | zero =>
    intro s hn hI
    have pt := pass_t hw hht 400 0 (false, s)
    have pf := pass_f hw hht 400 0 (false, s)
    have cp := fun H0 r h' => mo_close_p (l := l) (G := G) (r := r) (h' := h') (th := th) (sd := sd) (md := md) (pl := pl) (sh := sh) (sx := sx) (sy := sy) (ln := ln) (hi := hi) (k0 := k0) hL hw hht H0 (fori (clS w ht) 400 0 (false, s))
    generalize hS9 : fori (clS w ht) 400 0 (false, s) = S at pt pf cp
    cases hS : S.1 with
    | true =>
      have := pt.2 rfl hS
      have e : cnt (false, s).2.1 400 = cnt s.1 400 := rfl
      omega
    | false =>
      obtain ⟨-, e2, e3⟩ := pf hS
      refine ⟨s, cl_end hw hht hG hx0 hy0 hI (fun k hk hm => e3 k (by omega) (by omega) hm), fun H0 => ?_⟩
      refine V_iload_n d_Mo_close_16 rfl ?_
      refine V_if_eq (tgt := 163) d_Mo_close_17 (by decide) (fun c9 => absurd c9 ((by decide : ¬ (1 : Int32) = 0))) (fun _ => ?_)
      refine V_iconst (v := 0) d_Mo_close_20 (by decide) ?_
      refine V_istore_n d_Mo_close_21 (by decide) rfl ?_
      refine V_iconst (v := 0) d_Mo_close_22 (by decide) ?_
      refine V_istore_n d_Mo_close_23 (by decide) rfl ?_
      refine cp H0 _ _ ?_ 400 0 (false, s) (by omega) hS9.symm
      rw [e2]
      refine V_goto (tgt := 16) d_Mo_close_160 (by decide) ?_
      refine V_iload_n d_Mo_close_16 rfl ?_
      refine V_if_eq (tgt := 163) d_Mo_close_17 (by decide) (fun _ => ?_) (fun c9 => absurd ((rfl : bI false = 0)) c9)
      exact V_vret d_Mo_close_163 rfl
  | succ n ih =>
    intro s hn hI
    have pt := pass_t hw hht 400 0 (false, s)
    have pf := pass_f hw hht 400 0 (false, s)
    have pI := IM_pass hw hht (M0 := M0) (x0 := x0) (y0 := y0) hG.2 400 0 (false, s) (by omega) hI
    have cp := fun H0 r h' => mo_close_p (l := l) (G := G) (r := r) (h' := h') (th := th) (sd := sd) (md := md) (pl := pl) (sh := sh) (sx := sx) (sy := sy) (ln := ln) (hi := hi) (k0 := k0) hL hw hht H0 (fori (clS w ht) 400 0 (false, s))
    generalize hS9 : fori (clS w ht) 400 0 (false, s) = S at pt pf cp pI
    cases hS : S.1 with
    | true =>
      have h1 := pt.2 rfl hS
      have e : cnt (false, s).2.1 400 = cnt s.1 400 := rfl
      obtain ⟨s', j1, j2⟩ := ih S.2 (by omega) pI
      refine ⟨s', j1, fun H0 => ?_⟩
      have j3 := j2 H0
      refine V_iload_n d_Mo_close_16 rfl ?_
      refine V_if_eq (tgt := 163) d_Mo_close_17 (by decide) (fun c9 => absurd c9 ((by decide : ¬ (1 : Int32) = 0))) (fun _ => ?_)
      refine V_iconst (v := 0) d_Mo_close_20 (by decide) ?_
      refine V_istore_n d_Mo_close_21 (by decide) rfl ?_
      refine V_iconst (v := 0) d_Mo_close_22 (by decide) ?_
      refine V_istore_n d_Mo_close_23 (by decide) rfl ?_
      refine cp H0 _ _ ?_ 400 0 (false, s) (by omega) hS9.symm
      rw [hS]
      refine V_goto (tgt := 16) d_Mo_close_160 (by decide) ?_
      refine V_keep [0, 1, 2] ?_
      exact j3
    | false =>
      obtain ⟨-, e2, e3⟩ := pf hS
      refine ⟨s, cl_end hw hht hG hx0 hy0 hI (fun k hk hm => e3 k (by omega) (by omega) hm), fun H0 => ?_⟩
      refine V_iload_n d_Mo_close_16 rfl ?_
      refine V_if_eq (tgt := 163) d_Mo_close_17 (by decide) (fun c9 => absurd c9 ((by decide : ¬ (1 : Int32) = 0))) (fun _ => ?_)
      refine V_iconst (v := 0) d_Mo_close_20 (by decide) ?_
      refine V_istore_n d_Mo_close_21 (by decide) rfl ?_
      refine V_iconst (v := 0) d_Mo_close_22 (by decide) ?_
      refine V_istore_n d_Mo_close_23 (by decide) rfl ?_
      refine cp H0 _ _ ?_ 400 0 (false, s) (by omega) hS9.symm
      rw [e2]
      refine V_goto (tgt := 16) d_Mo_close_160 (by decide) ?_
      refine V_iload_n d_Mo_close_16 rfl ?_
      refine V_if_eq (tgt := 163) d_Mo_close_17 (by decide) (fun _ => ?_) (fun c9 => absurd ((rfl : bI false = 0)) c9)
      exact V_vret d_Mo_close_163 rfl
theorem mo_close (hL : 45 ≤ h.length) (hw : w ≤ 20) (hht : ht ≤ 20) {O0 M0 : Nat → Bool} {x0 y0 : Nat} (hG : GM w ht (O0, M0)) (hx0 : x0 < w) (hy0 : y0 < ht) : ∃ s' : Pr, (GM w ht s' ∧ (∀ c, s'.1 c = true → O0 c = true) ∧ ∀ x y, x < w → y < ht → (s'.1 (20 * y + x) = true ↔ O0 (20 * y + x) = true ∧ ¬ Rc (gO w ht (fun x y => O0 (20 * y + x))) x0 y0 x y)) ∧ Do l G k_Mo_close [.ref 28, .int (nI (20 * y0 + x0))] (moP h th w ht sd md pl sh sx sy ln hi (O0, M0)) rv (moP h th w ht sd md pl sh sx sy ln hi s') := by
  have hI : IM w ht O0 M0 x0 y0 (updB O0 (20 * y0 + x0) false, updB M0 (20 * y0 + x0) true) := by
    refine ⟨fun c hc => ?_, fun c hc hm => ?_, fun c hc => ?_, ?_, ?_⟩
    · have hc' : updB O0 (20 * y0 + x0) false c = true := hc
      unfold updB at hc'
      by_cases z : c = 20 * y0 + x0
      · rw [if_pos z] at hc'; cases hc'
      · rw [if_neg z] at hc'; exact hc'
    · have hc' : updB M0 (20 * y0 + x0) true c = true := hm
      unfold updB at hc'
      by_cases z : c = 20 * y0 + x0
      · right
        subst z
        rw [show (20 * y0 + x0) % 20 = x0 by omega, show (20 * y0 + x0) / 20 = y0 by omega]
        exact Rc.base
      · rw [if_neg z] at hc'; exact Or.inl hc'
    · show updB O0 (20 * y0 + x0) false c = true ∨ updB M0 (20 * y0 + x0) true c = true
      unfold updB
      by_cases z : c = 20 * y0 + x0
      · rw [if_pos z, if_pos z]; exact Or.inr rfl
      · rw [if_neg z, if_neg z]; exact Or.inl hc
    · exact if_pos rfl
    · exact if_pos rfl
  obtain ⟨s', j1, j2⟩ := mo_close_l (l := l) (G := G) (h := h) (th := th) (sd := sd) (md := md) (pl := pl) (sh := sh) (sx := sx) (sy := sy) (ln := ln) (hi := hi) (k0 := 20 * y0 + x0) hL hw hht hG hx0 hy0 _ _ (Nat.le_refl _) hI
  refine ⟨s', j1, ?_⟩
  refine Do.of (by decide) (Nat.le_of_ble_eq_true rfl) kw_Mo_close ?_
  have ix : Ix (nI (20 * y0 + x0)) (20 * y0 + x0) 400 := Ix.of (by omega) (by decide)
  refine V_aload_n d_Mo_close_0 rfl ?_
  refine V_gf g_Mo_close_1 (rd hL rfl rfl) rfl ?_
  refine V_iload_n d_Mo_close_4 rfl ?_
  refine V_iconst (v := 0) d_Mo_close_5 (by decide) ?_
  refine V_zast0 d_Mo_close_6 (rd hL rfl rfl) ix ?_
  refine V_hS rfl ?_
  refine V_aload_n d_Mo_close_7 rfl ?_
  refine V_gf g_Mo_close_8 (rd hL rfl rfl) rfl ?_
  refine V_iload_n d_Mo_close_11 rfl ?_
  refine V_iconst (v := 1) d_Mo_close_12 (by decide) ?_
  refine V_zast1 d_Mo_close_13 (rd hL rfl rfl) ix ?_
  refine V_hS rfl ?_
  refine V_iconst (v := 1) d_Mo_close_14 (by decide) ?_
  refine V_istore_n d_Mo_close_15 (by decide) rfl ?_
  exact j2 _
end P46
