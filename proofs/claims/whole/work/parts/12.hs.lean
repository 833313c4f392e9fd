/-! heaps by the cells that one looks at: hS h l is h with the cells of l -/
def lk (l : List (Nat × Ce)) (k : Nat) : Option Ce := match l with
  | [] => none
  | (j, c) :: t => if j = k then some c else lk t k
def put (l : List (Nat × Ce)) (k : Nat) (c : Ce) : List (Nat × Ce) := match l with
  | [] => [(k, c)]
  | (j, d) :: t => if j = k then (j, c) :: t else (j, d) :: put t k c
theorem lk_put (l : List (Nat × Ce)) (k j : Nat) (c : Ce) : lk (put l k c) j = if k = j then some c else lk l j := by
  induction l with
  | nil => simp [lk, put]
  | cons q t ih =>
    obtain ⟨i, d⟩ := q
    simp only [put]
    by_cases e : i = k
    · subst e
      simp only [if_true, lk]
      by_cases e2 : i = j <;> simp [e2]
    · simp only [e, if_false, lk, ih]
      by_cases e2 : i = j
      · subst e2
        simp [Ne.symm e]
      · simp [e2]
def hS (h : List Ce) (l : List (Nat × Ce)) : List Ce := h.mapIdx (fun k c => (lk l k).getD c)
theorem hS_len (h : List Ce) (l : List (Nat × Ce)) : (hS h l).length = h.length := by simp [hS]
theorem hS_at (h : List Ce) (l : List (Nat × Ce)) (k : Nat) : (hS h l)[k]? = h[k]?.map (fun c => (lk l k).getD c) := by simp [hS]
theorem rd {h : List Ce} {l : List (Nat × Ce)} {n k : Nat} {c : Ce} (hL : n ≤ h.length) (hk : Nat.blt k n = true) (e : lk l k = some c) : (hS h l)[k]? = some c := by
  have hk : k < n := by simpa [Nat.blt_eq] using hk
  rw [hS_at, e, List.getElem?_eq_getElem (by omega)]
  rfl
theorem ro {h : List Ce} {l : List (Nat × Ce)} {k : Nat} {c : Ce} (hk : h[k]? = some c) (e : lk l k = none) : (hS h l)[k]? = some c := by
  rw [hS_at, e, hk]
  rfl
theorem hS_set (h : List Ce) (l : List (Nat × Ce)) (k : Nat) (c : Ce) : (hS h l).set k c = hS h (put l k c) := by
  apply List.ext_getElem?
  intro i
  rw [List.getElem?_set, hS_at, hS_at, hS_len, lk_put]
  by_cases e : k = i
  · subst e
    by_cases hl : k < h.length
    · simp [hl]
    · simp [hl]
  · simp [e]
theorem hS_nil (h : List Ce) : hS h [] = h := by
  apply List.ext_getElem?
  intro i
  rw [hS_at]
  cases h[i]? <;> rfl
theorem hS_id {h : List Ce} {l : List (Nat × Ce)} (e : ∀ k c, lk l k = some c → h[k]? = some c) : hS h l = h := by
  apply List.ext_getElem?
  intro i
  rw [hS_at]
  cases q : lk l i with
  | none => cases h[i]? <;> rfl
  | some c => rw [e i c q]; rfl
theorem hS_push {h : List Ce} {l : List (Nat × Ce)} (c : Ce) (e : lk l h.length = none) : hS h l ++ [c] = hS (h ++ [c]) l := by
  apply List.ext_getElem?
  intro i
  rw [hS_at, List.getElem?_append, List.getElem?_append, hS_len, hS_at]
  by_cases hl : i < h.length
  · simp [hl]
  · simp only [hl, if_false]
    by_cases h2 : i - h.length = 0
    · have : i = h.length := by omega
      subst this
      simp [e]
    · rw [List.getElem?_eq_none (by simp; omega)]
      rfl
section R12
variable {l : Launch} {G : Gb} {K : Kt} {h0 : List Ce} {pc : Nat} {ls : List (Nat × Value)} {st : List Value} {h : List Ce} {r : Rs} {h' : List Ce}
/-- behind a write -/
theorem V_hS {l9 l8 : List (Nat × Ce)} {k : Nat} {c : Ce} (e : put l9 k c = l8) (kk : V l G K h0 pc ls st (hS h l8) r h') : V l G K h0 pc ls st ((hS h l9).set k c) r h' := by
  rw [hS_set, e]
  exact kk
theorem V_eqh {h1 h2 : List Ce} (e : h1 = h2) (kk : V l G K h0 pc ls st h2 r h') : V l G K h0 pc ls st h1 r h' := e ▸ kk
theorem V_eqr {r1 : Rs} {h1 : List Ce} (e : r1 = r) (e2 : h1 = h') (kk : V l G K h0 pc ls st h r1 h1) : V l G K h0 pc ls st h r h' := e2 ▸ e ▸ kk
theorem V_eqs {st1 : List Value} (e : st1 = st) (kk : V l G K h0 pc ls st1 h r h') : V l G K h0 pc ls st h r h' := e ▸ kk
theorem Do.eqh {vs : List Value} {h1 h2 : List Ce} (e1 : h1 = h) (e2 : h2 = h') (d : Do l G K vs h1 r h2) : Do l G K vs h r h' := e1 ▸ e2 ▸ d
end R12
