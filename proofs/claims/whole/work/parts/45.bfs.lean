section P45
/-- neighbours -/
def nb (x y x' y' : Nat) : Prop := (y' = y ∧ (x' + 1 = x ∨ x' = x + 1)) ∨ (x' = x ∧ (y' + 1 = y ∨ y' = y + 1))
/-- what is reached from a cell over open ones: it lies in all that holds the cell and all open neighbours -/
def Rc (O : Nat → Nat → Bool) (x0 y0 x y : Nat) : Prop := ∀ P : Nat → Nat → Prop, P x0 y0 → (∀ a b c d, P a b → nb a b c d → O c d = true → P c d) → P x y
theorem Rc.base {O : Nat → Nat → Bool} {x0 y0 : Nat} : Rc O x0 y0 x0 y0 := fun _ h _ => h
theorem Rc.step {O : Nat → Nat → Bool} {x0 y0 x y x' y' : Nat} (h : Rc O x0 y0 x y) (hn : nb x y x' y') (ho : O x' y' = true) : Rc O x0 y0 x' y' := fun P h1 h2 => h2 x y x' y' (h P h1 h2) hn ho
def gO (w ht : Nat) (F : Nat → Nat → Bool) : Nat → Nat → Bool := fun x y => decide (x < w) && (decide (y < ht) && F x y)
theorem gO_t {w ht : Nat} {F : Nat → Nat → Bool} {x y : Nat} : gO w ht F x y = true ↔ x < w ∧ y < ht ∧ F x y = true := by
  unfold gO
  simp only [Bool.and_eq_true, decide_eq_true_iff]
theorem Rc_in {w ht : Nat} {F : Nat → Nat → Bool} {x0 y0 x y : Nat} (hx : x0 < w) (hy : y0 < ht) (h : Rc (gO w ht F) x0 y0 x y) : x < w ∧ y < ht :=
  h (fun x y => x < w ∧ y < ht) ⟨hx, hy⟩ (fun _ _ _ _ _ _ ho => ⟨(gO_t.mp ho).1, (gO_t.mp ho).2.1⟩)
theorem mi_inj {w x y x' y' : Nat} (hx : x < w) (hx' : x' < w) (e : mi w x' y' = mi w x y) : y' = y ∧ x' = x := by
  unfold mi at e
  have := rc_inj (w := w + 2) (x := x + 1) (x' := x' + 1) (y := y + 1) (y' := y' + 1) (by omega) (by omega) (by omega)
  omega
theorem mi_r {w x y : Nat} : mi w x y + 1 = (y + 1) * (w + 2) + (x + 2) := by unfold mi; omega
theorem mi_nb {w x y x' y' : Nat} (hx : x < w) (hx' : x' < w) : (mi w x' y' = mi w x y - 1 ∨ mi w x' y' = mi w x y + 1 ∨ mi w x' y' = mi w x y - (w + 2) ∨ mi w x' y' = mi w x y + (w + 2)) ↔ nb x y x' y' := by
  have e1 : mi w x y = (y + 1) * (w + 2) + (x + 1) := by unfold mi; omega
  have e2 : mi w x' y' = (y' + 1) * (w + 2) + (x' + 1) := by unfold mi; omega
  have e3 : (y + 1) * (w + 2) = y * (w + 2) + (w + 2) := by rw [Nat.add_mul, Nat.one_mul]
  have e4 : (y + 2) * (w + 2) = (y + 1) * (w + 2) + (w + 2) := by rw [Nat.add_mul (y + 1) 1, Nat.one_mul]
  have e5 : (y' + 1) * (w + 2) = y' * (w + 2) + (w + 2) := by rw [Nat.add_mul, Nat.one_mul]
  constructor
  · intro h
    unfold nb
    rcases h with h | h | h | h
    · have := rc_inj (w := w + 2) (x := x) (x' := x' + 1) (y := y + 1) (y' := y' + 1) (by omega) (by omega) (by omega)
      omega
    · have := rc_inj (w := w + 2) (x := x + 2) (x' := x' + 1) (y := y + 1) (y' := y' + 1) (by omega) (by omega) (by omega)
      omega
    · have := rc_inj (w := w + 2) (x := x + 1) (x' := x' + 1) (y := y) (y' := y' + 1) (by omega) (by omega) (by omega)
      omega
    · have := rc_inj (w := w + 2) (x := x + 1) (x' := x' + 1) (y := y + 2) (y' := y' + 1) (by omega) (by omega) (by omega)
      omega
  · intro h
    unfold nb at h
    rcases h with ⟨rfl, h | h⟩ | ⟨rfl, h | h⟩
    · left; omega
    · right; left; omega
    · right; right; left
      subst h
      rw [e1, e2, e3]
      omega
    · right; right; right
      subst h
      rw [e1, e2, e5]
      omega
/-- the queue and the open cells of the class, while it closes around x0, y0 -/
def IB (w ht : Nat) (op : Nat → Bool) (x0 y0 : Nat) (s : Cl) : Prop := (∀ j, j < s.1 → ∃ x y, x < w ∧ y < ht ∧ s.2.1 j = mi w x y ∧ Rc (gO w ht (fun x y => op (mi w x y))) x0 y0 x y) ∧ (∀ k, s.2.2 k = true → op k = true) ∧ (∀ k, op k = true → s.2.2 k = false → ∃ j, j < s.1 ∧ s.2.1 j = k) ∧ (∀ j, j < s.1 → s.2.2 (s.2.1 j) = false)
theorem IB_ci {w ht : Nat} {op : Nat → Bool} {x0 y0 : Nat} (hop : ∀ k, op k = true → inn w ht k) {s : Cl} (hs : IB w ht op x0 y0 s) {k : Nat} (hk : ∀ x y, x < w → y < ht → k = mi w x y → op k = true → Rc (gO w ht (fun x y => op (mi w x y))) x0 y0 x y) : IB w ht op x0 y0 (ciS k s) ∧ (ciS k s).2.2 k = false ∧ (∀ j, s.2.2 j = false → (ciS k s).2.2 j = false) ∧ s.1 ≤ (ciS k s).1 ∧ (∀ j, j < s.1 → (ciS k s).2.1 j = s.2.1 j) := by
  obtain ⟨h1, h2, h3, h4⟩ := hs
  unfold ciS
  by_cases q : s.2.2 k = true
  · rw [if_pos q]
    obtain ⟨x, y, hx, hy, e⟩ := hop k (h2 k q)
    have ne : ∀ j, j < s.1 → ¬ s.2.1 j = k := fun j hj e2 => by
      have := h4 j hj
      rw [e2, q] at this
      cases this
    refine ⟨⟨fun j hj => ?_, fun j hj => ?_, fun j h5 h6 => ?_, fun j hj => ?_⟩, ?_, fun j hj => ?_, Nat.le_succ _, fun j hj => ?_⟩
    · show ∃ x y, x < w ∧ y < ht ∧ updN s.2.1 s.1 k j = mi w x y ∧ _
      unfold updN
      by_cases z : j = s.1
      · rw [if_pos z]
        exact ⟨x, y, hx, hy, e, hk x y hx hy e (h2 k q)⟩
      · rw [if_neg z]
        exact h1 j (by have : j < s.1 + 1 := hj; omega)
    · have hj' : updB s.2.2 k false j = true := hj
      unfold updB at hj'
      by_cases z : j = k
      · rw [if_pos z] at hj'; cases hj'
      · rw [if_neg z] at hj'; exact h2 j hj'
    · have h6' : updB s.2.2 k false j = false := h6
      show ∃ j', j' < s.1 + 1 ∧ updN s.2.1 s.1 k j' = j
      unfold updN
      by_cases z : j = k
      · exact ⟨s.1, by omega, by rw [if_pos rfl, z]⟩
      · unfold updB at h6'
        rw [if_neg z] at h6'
        obtain ⟨j', a1, a2⟩ := h3 j h5 h6'
        exact ⟨j', by omega, by rw [if_neg (by omega)]; exact a2⟩
    · show updB s.2.2 k false (updN s.2.1 s.1 k j) = false
      unfold updN updB
      by_cases z : j = s.1
      · rw [if_pos z, if_pos rfl]
      · have hj' : j < s.1 := by have : j < s.1 + 1 := hj; omega
        rw [if_neg z, if_neg (ne j hj')]
        exact h4 j hj'
    · show updB s.2.2 k false k = false
      unfold updB
      rw [if_pos rfl]
    · show updB s.2.2 k false j = false
      unfold updB
      split
      · rfl
      · exact hj
    · show updN s.2.1 s.1 k j = s.2.1 j
      unfold updN
      rw [if_neg (by omega)]
  · rw [if_neg q]
    exact ⟨⟨h1, h2, h3, h4⟩, by simpa using q, fun j hj => hj, Nat.le_refl _, fun j _ => rfl⟩
/-- the cells around those that are done are closed -/
def DN (w : Nat) (i : Nat) (s : Cl) : Prop := ∀ j, j < i → s.2.2 (s.2.1 j - 1) = false ∧ s.2.2 (s.2.1 j + 1) = false ∧ s.2.2 (s.2.1 j - (w + 2)) = false ∧ s.2.2 (s.2.1 j + (w + 2)) = false
theorem IB_4 {w ht : Nat} {op : Nat → Bool} {x0 y0 : Nat} (hop : ∀ k, op k = true → inn w ht k) {s : Cl} (hs : IB w ht op x0 y0 s) {i : Nat} (hi : i < s.1) (hD : DN w i s) : IB w ht op x0 y0 (ci4 w (s.2.1 i) s) ∧ DN w (i + 1) (ci4 w (s.2.1 i) s) ∧ s.1 ≤ (ci4 w (s.2.1 i) s).1 := by
  obtain ⟨x, y, hx, hy, e, hr⟩ := hs.1 i hi
  have rk : ∀ k, (k = mi w x y - 1 ∨ k = mi w x y + 1 ∨ k = mi w x y - (w + 2) ∨ k = mi w x y + (w + 2)) → ∀ x' y', x' < w → y' < ht → k = mi w x' y' → op k = true → Rc (gO w ht (fun x y => op (mi w x y))) x0 y0 x' y' := by
    intro k hk x' y' hx' hy' e2 ho
    subst e2
    exact Rc.step hr ((mi_nb hx hx').mp hk) (gO_t.mpr ⟨hx', hy', ho⟩)
  unfold ci4
  rw [e]
  obtain ⟨a1, a2, a3, a4, a5⟩ := IB_ci hop hs (rk (mi w x y - 1) (Or.inl rfl))
  generalize ciS (mi w x y - 1) s = s1 at *
  obtain ⟨b1, b2, b3, b4, b5⟩ := IB_ci hop a1 (rk (mi w x y + 1) (Or.inr (Or.inl rfl)))
  generalize ciS (mi w x y + 1) s1 = s2 at *
  obtain ⟨c1, c2, c3, c4, c5⟩ := IB_ci hop b1 (rk (mi w x y - (w + 2)) (Or.inr (Or.inr (Or.inl rfl))))
  generalize ciS (mi w x y - (w + 2)) s2 = s3 at *
  obtain ⟨d1, d2, d3, d4, d5⟩ := IB_ci hop c1 (rk (mi w x y + (w + 2)) (Or.inr (Or.inr (Or.inr rfl))))
  generalize ciS (mi w x y + (w + 2)) s3 = s4 at *
  refine ⟨d1, fun j hj => ?_, by omega⟩
  have ej : s4.2.1 j = s.2.1 j := by rw [d5 j (by omega), c5 j (by omega), b5 j (by omega), a5 j (by omega)]
  have up : ∀ k, s.2.2 k = false → s4.2.2 k = false := fun k hk => d3 k (c3 k (b3 k (a3 k hk)))
  rw [ej]
  rcases Nat.lt_or_ge j i with z | z
  · obtain ⟨u1, u2, u3, u4⟩ := hD j z
    exact ⟨up _ u1, up _ u2, up _ u3, up _ u4⟩
  · obtain rfl : j = i := by omega
    rw [e]
    exact ⟨d3 _ (c3 _ (b3 _ a2)), d3 _ (c3 _ b2), d3 _ c2, d2⟩
theorem bf_loop {w ht : Nat} {op : Nat → Bool} {x0 y0 : Nat} (hop : ∀ k, op k = true → inn w ht k) : ∀ (m i : Nat) (s : Cl), i + m = w * ht → IB w ht op x0 y0 s → DN w i s → i ≤ s.1 → InvC w ht s → IB w ht op x0 y0 (bfR w m i s) ∧ DN w (bfR w m i s).1 (bfR w m i s)
  | 0, i, s, hm, hs, hD, hi, hI => by
    have h1 : s.1 ≤ w * ht := by have := hI.2.2; omega
    exact ⟨hs, fun j hj => hD j (by have : j < s.1 := hj; omega)⟩
  | m + 1, i, s, hm, hs, hD, hi, hI => by
    rw [show bfR w (m + 1) i s = (if i < s.1 then bfR w m (i + 1) (ci4 w (s.2.1 i) s) else s) from rfl]
    by_cases q : i < s.1
    · rw [if_pos q]
      obtain ⟨a1, a2, a3⟩ := IB_4 hop hs q hD
      refine bf_loop hop m (i + 1) _ (by omega) a1 a2 (by omega) ?_
      unfold ci4
      exact (((hI.ci _).ci _).ci _).ci _
    · rw [if_neg q]
      exact ⟨hs, fun j hj => hD j (by omega)⟩
/-- what is open when the class has closed around x0, y0 -/
theorem bf_spec {w ht : Nat} {op : Nat → Bool} {x0 y0 : Nat} (hop : ∀ k, op k = true → inn w ht k) (hx0 : x0 < w) (hy0 : y0 < ht) (h0 : op (mi w x0 y0) = true) (Q : Nat → Nat) : ∀ x y, x < w → y < ht → ((bfR w (w * ht) 0 (ciS (mi w x0 y0) (0, Q, op))).2.2 (mi w x y) = true ↔ op (mi w x y) = true ∧ ¬ Rc (gO w ht (fun x y => op (mi w x y))) x0 y0 x y) := by
  have st : IB w ht op x0 y0 (0, Q, op) := ⟨fun j hj => absurd hj (Nat.not_lt_zero j), fun k hk => hk, fun k h1 h2 => absurd (h1.symm.trans h2) (by decide), fun j hj => absurd hj (Nat.not_lt_zero j)⟩
  obtain ⟨a1, a2, -, -, -⟩ := IB_ci hop st (k := mi w x0 y0) (fun x y hx hy e _ => by
    obtain ⟨r1, r2⟩ := mi_inj hx hx0 e
    subst r1; subst r2
    exact Rc.base)
  obtain ⟨⟨b1, b2, b3, b4⟩, b5⟩ := bf_loop hop (w * ht) 0 _ (by omega) a1 (fun j hj => absurd hj (Nat.not_lt_zero j)) (Nat.zero_le _) ((InvC.of hop).ci _)
  have a2' : ∃ j, j < (ciS (mi w x0 y0) (0, Q, op)).1 ∧ (ciS (mi w x0 y0) (0, Q, op)).2.1 j = mi w x0 y0 := a1.2.2.1 _ h0 a2
  have keep : ∀ (m i : Nat) (s : Cl), (∀ k, s.2.2 k = false → (bfR w m i s).2.2 k = false) := by
    intro m
    induction m with
    | zero => intro i s k hk; exact hk
    | succ m ih =>
      intro i s k hk
      rw [show bfR w (m + 1) i s = (if i < s.1 then bfR w m (i + 1) (ci4 w (s.2.1 i) s) else s) from rfl]
      have cf : ∀ (k9 : Nat) (s : Cl), s.2.2 k = false → (ciS k9 s).2.2 k = false := fun k9 s h9 => by
        unfold ciS
        split
        · show updB s.2.2 k9 false k = false
          unfold updB
          split
          · rfl
          · exact h9
        · exact h9
      split
      · exact ih _ _ k (by unfold ci4; exact cf _ _ (cf _ _ (cf _ _ (cf _ _ hk))))
      · exact hk
  have first : (bfR w (w * ht) 0 (ciS (mi w x0 y0) (0, Q, op))).2.2 (mi w x0 y0) = false := keep _ _ _ _ a2
  generalize bfR w (w * ht) 0 (ciS (mi w x0 y0) (0, Q, op)) = s at *
  have reach : ∀ x y, Rc (gO w ht (fun x y => op (mi w x y))) x0 y0 x y → ∃ j, j < s.1 ∧ s.2.1 j = mi w x y := by
    intro x y hr
    refine (hr (fun x y => (x < w ∧ y < ht) ∧ ∃ j, j < s.1 ∧ s.2.1 j = mi w x y) ⟨⟨hx0, hy0⟩, b3 _ h0 first⟩ ?_).2
    rintro x y x' y' ⟨⟨u1, u2⟩, j, j1, j2⟩ hn ho
    obtain ⟨o1, o2, o3⟩ := gO_t.mp ho
    obtain ⟨d1, d2, d3, d4⟩ := b5 j j1
    rw [j2] at d1 d2 d3 d4
    refine ⟨⟨o1, o2⟩, b3 _ o3 ?_⟩
    rcases (mi_nb u1 o1).mpr hn with e | e | e | e <;> rw [e] <;> assumption
  intro x y hx hy
  constructor
  · intro h
    refine ⟨b2 _ h, fun hr => ?_⟩
    obtain ⟨j, j1, j2⟩ := reach x y hr
    have := b4 j j1
    rw [j2, h] at this
    cases this
  · rintro ⟨h1, h2⟩
    cases hz : s.2.2 (mi w x y) with
    | true => rfl
    | false =>
      obtain ⟨j, j1, j2⟩ := b3 _ h1 hz
      obtain ⟨x', y', c1, c2, c3, c4⟩ := b1 j j1
      rw [j2] at c3
      obtain ⟨r1, r2⟩ := mi_inj c1 hx c3
      subst r1; subst r2
      exact absurd c4 h2
end P45
