section P51
theorem set_hS (h : List Ce) (k : Nat) (c : Ce) : h.set k c = hS h [(k, c)] := by
  have := hS_set h [] k c
  rw [hS_nil] at this
  exact this
theorem lk_app (a b : List (Nat × Ce)) (k : Nat) : lk (a ++ b) k = (match lk a k with | some c => some c | none => lk b k) := by
  induction a with
  | nil => rfl
  | cons q t ih =>
    obtain ⟨j, c⟩ := q
    show (if j = k then some c else lk (t ++ b) k) = match (if j = k then some c else lk t k) with | some c => some c | none => lk b k
    by_cases e : j = k
    · rw [if_pos e, if_pos e]
    · rw [if_neg e, if_neg e]
      exact ih
theorem hS_hS (h : List Ce) (a b : List (Nat × Ce)) : hS (hS h a) b = hS h (b ++ a) := by
  apply List.ext_getElem?
  intro i
  rw [hS_at, hS_at, hS_at, lk_app]
  cases h[i]? with
  | none => rfl
  | some c => cases lk b i <;> rfl
/-- two heaps are the same at these cells -/
def Sm (ks : List Nat) (h h2 : List Ce) : Prop := ∀ k ∈ ks, h2[k]? = h[k]?
theorem Sm_hS {ks : List Nat} {h : List Ce} {L : List (Nat × Ce)} (hf : ks.all (fun k => (lk L k).isNone) = true) : Sm ks h (hS h L) := by
  intro k hk
  have := List.all_eq_true.mp hf k hk
  rw [hS_at, Option.isNone_iff_eq_none.mp this]
  cases h[k]? <;> rfl
theorem Sm_push {ks : List Nat} {h : List Ce} (c : Ce) (hf : ks.all (fun k => decide (k < 46)) = true) (hn : 46 ≤ h.length) : Sm ks h (h ++ [c]) := by
  intro k hk
  have := List.all_eq_true.mp hf k hk
  rw [decide_eq_true_iff] at this
  exact List.getElem?_append_left (by omega)
theorem Sm.trans {ks : List Nat} {h h2 h3 : List Ce} (a : Sm ks h h2) (b : Sm ks h2 h3) : Sm ks h h3 := fun k hk => (b k hk).trans (a k hk)
theorem Sm.get {ks : List Nat} {h h2 : List Ce} (a : Sm ks h h2) (k : Nat) (hk : ks.contains k = true) {c : Ce} (e : h[k]? = some c) : h2[k]? = some c := (a k (List.contains_iff_mem.mp hk)).trans e
def GA (w ht : Nat) (md : Bool) (h : List Ce) : Prop := ∃ (f mf ms mt : Nat → Int32) (fx fy le : Int32), h[1]? = some (PhO w ht) ∧ h[2]? = some (IA (4 * ht * w) f) ∧ h[3]? = some (SeO w ht md fx fy le) ∧ h[4]? = some (IA (w * ht) ms) ∧ h[28]? = some (IA 1600 mf) ∧ h[29]? = some (IA 3 mt) ∧ Rv w ht f mf ∧ (md = true → mt 0 = fx ∧ mt 1 = fy ∧ mt 2 = le)
def GB (pl : Nat) (h : List Ce) : Prop := ∃ (As Bn : Nat → Bool) (wh sX sY : Nat → Int32), h[5]? = some (PlO pl (nI (cnA As pl))) ∧ h[6]? = some (ZA 12 As) ∧ h[7]? = some (ZA 48 Bn) ∧ h[8]? = some (IA 96 wh) ∧ h[30]? = some (IA 48 sX) ∧ h[31]? = some (IA 48 sY) ∧ h[32]? = some (ZA 12 As) ∧ RS Bn wh sX sY ∧ (∀ p, pl ≤ p → As p = false) ∧ pl ≤ 12
def GC (sd : Nat) (sh : Bool) (sx sy : Int32) (h : List Ce) : Prop := ∃ (nm : Nat) (fx fy : Nat → Int32), h[9]? = some (AgO sd nm sh sx sy) ∧ h[10]? = some (IA 12 fx) ∧ h[11]? = some (IA 12 fy)
def GD (pl : Nat) (h : List Ce) : Prop := ∃ (P O PB OB KP KO : Nat → Int32), h[12]? = some AdO ∧ h[13]? = some (IA 24 P) ∧ h[14]? = some (IA 8 O) ∧ h[15]? = some (IA 24 PB) ∧ h[16]? = some (IA 8 OB) ∧ h[33]? = some (IA 24 P) ∧ h[34]? = some (IA 8 O) ∧ h[35]? = some (IA 24 KP) ∧ h[36]? = some (IA 8 KO) ∧ bd P 24 50000000 ∧ bd O 8 50000000 ∧ (∀ k, 2 * pl ≤ k → P k = 0)
def GE (pl ln : Nat) (h : List Ce) : Prop := ∃ (F T : Nat → Nat) (Ln : Nat → Int32), h[17]? = some (LeO ln) ∧ h[18]? = some (NA 10 F) ∧ h[19]? = some (NA 10 T) ∧ h[20]? = some (IA 10 Ln) ∧ h[37]? = some (NA 10 F) ∧ h[38]? = some (NA 10 T) ∧ h[39]? = some (IA 10 Ln) ∧ ln ≤ 10 ∧ (∀ i, i < ln → F i < pl ∧ T i < pl) ∧ (∀ i, i < ln → ∃ k : Nat, k ≤ 10000 ∧ Ln i = nI k)
def GF (w ht : Nat) (hi : Bool) (h : List Ce) : Prop := ∃ (q0 : Nat) (Dp Q : Nat → Nat) (Df C dD dF mC : Nat → Int32) (op o M : Nat → Bool), h[21]? = some (ReO w ht (nI q0) hi) ∧ h[22]? = some (NA (w * ht) Dp) ∧ h[23]? = some (IA (w * ht) Df) ∧ h[24]? = some (IA (w * 6) C) ∧ h[25]? = some (ZA ((w + 2) * (ht + 2)) op) ∧ h[26]? = some (NA (w * ht) Q) ∧ h[40]? = some (IA 400 dD) ∧ h[41]? = some (IA 400 dF) ∧ h[42]? = some (IA 120 mC) ∧ h[43]? = some (ZA 400 o) ∧ h[44]? = some (ZA 400 M) ∧ (∀ k, op k = true → inn w ht k) ∧ (hi = true → RD w ht ht w dD dF Dp Df)
theorem GA_sm {w ht : Nat} {md : Bool} {h h2 : List Ce} (s : Sm [1, 2, 3, 4, 28, 29] h h2) (g : GA w ht md h) : GA w ht md h2 := by
  obtain ⟨f, mf, ms, mt, fx, fy, le, a1, a2, a3, a4, a5, a6, a7⟩ := g
  exact ⟨f, mf, ms, mt, fx, fy, le, s.get 1 rfl a1, s.get 2 rfl a2, s.get 3 rfl a3, s.get 4 rfl a4, s.get 28 rfl a5, s.get 29 rfl a6, a7⟩
theorem GB_sm {pl : Nat} {h h2 : List Ce} (s : Sm [5, 6, 7, 8, 30, 31, 32] h h2) (g : GB pl h) : GB pl h2 := by
  obtain ⟨As, Bn, wh, sX, sY, a1, a2, a3, a4, a5, a6, a7, a8⟩ := g
  exact ⟨As, Bn, wh, sX, sY, s.get 5 rfl a1, s.get 6 rfl a2, s.get 7 rfl a3, s.get 8 rfl a4, s.get 30 rfl a5, s.get 31 rfl a6, s.get 32 rfl a7, a8⟩
theorem GC_sm {sd : Nat} {sh : Bool} {sx sy : Int32} {h h2 : List Ce} (s : Sm [9, 10, 11] h h2) (g : GC sd sh sx sy h) : GC sd sh sx sy h2 := by
  obtain ⟨nm, fx, fy, a1, a2, a3⟩ := g
  exact ⟨nm, fx, fy, s.get 9 rfl a1, s.get 10 rfl a2, s.get 11 rfl a3⟩
theorem GD_sm {pl : Nat} {h h2 : List Ce} (s : Sm [12, 13, 14, 15, 16, 33, 34, 35, 36] h h2) (g : GD pl h) : GD pl h2 := by
  obtain ⟨P, O, PB, OB, KP, KO, a1, a2, a3, a4, a5, a6, a7, a8, a9, b⟩ := g
  exact ⟨P, O, PB, OB, KP, KO, s.get 12 rfl a1, s.get 13 rfl a2, s.get 14 rfl a3, s.get 15 rfl a4, s.get 16 rfl a5, s.get 33 rfl a6, s.get 34 rfl a7, s.get 35 rfl a8, s.get 36 rfl a9, b⟩
theorem GE_sm {pl ln : Nat} {h h2 : List Ce} (s : Sm [17, 18, 19, 20, 37, 38, 39] h h2) (g : GE pl ln h) : GE pl ln h2 := by
  obtain ⟨F, T, Ln, a1, a2, a3, a4, a5, a6, a7, b⟩ := g
  exact ⟨F, T, Ln, s.get 17 rfl a1, s.get 18 rfl a2, s.get 19 rfl a3, s.get 20 rfl a4, s.get 37 rfl a5, s.get 38 rfl a6, s.get 39 rfl a7, b⟩
theorem GF_sm {w ht : Nat} {hi : Bool} {h h2 : List Ce} (s : Sm [21, 22, 23, 24, 25, 26, 40, 41, 42, 43, 44] h h2) (g : GF w ht hi h) : GF w ht hi h2 := by
  obtain ⟨q0, Dp, Q, Df, C, dD, dF, mC, op, o, M, a1, a2, a3, a4, a5, a6, a7, a8, a9, a10, a11, b⟩ := g
  exact ⟨q0, Dp, Q, Df, C, dD, dF, mC, op, o, M, s.get 21 rfl a1, s.get 22 rfl a2, s.get 23 rfl a3, s.get 24 rfl a4, s.get 25 rfl a5, s.get 26 rfl a6, s.get 40 rfl a7, s.get 41 rfl a8, s.get 42 rfl a9, s.get 43 rfl a10, s.get 44 rfl a11, b⟩
/-- what holds of both sides between two calls -/
def Inv (w ht sd : Nat) (th : Int32) (md : Bool) (pl : Nat) (sh : Bool) (sx sy : Int32) (ln : Nat) (hi : Bool) (h : List Ce) : Prop := 46 ≤ h.length ∧ h[0]? = some PmO ∧ h[27]? = some (MoO th w ht sd md pl sh sx sy ln hi) ∧ (∃ z, h[45]? = some (LA z)) ∧ GA w ht md h ∧ GB pl h ∧ GC sd sh sx sy h ∧ GD pl h ∧ GE pl ln h ∧ GF w ht hi h ∧ ∀ k c, 46 ≤ k → h[k]? = some c → sl1 c ≤ 2000
/-- one call on both sides -/
def Stq {β : Type} (enc : β → Rs) (va : β → Int64) (l : Launch) (G : Gb) (w ht sd : Nat) (kLa kMo : Kt) (As : List Value) (h : List Ce) : Prop := ∃ (k : Nat) (b : β) (X Y : List Ce) (c1 : List Value) (md : Bool) (pl : Nat) (sh : Bool) (sx sy : Int32) (ln : Nat) (hi : Bool), Do l G kLa (.ref 1 :: (As ++ [.ref 46])) h (ri (nI k)) X ∧ Do l G kMo (.ref 28 :: As) X (enc b) Y ∧ X[27]? = some (.inr (8, c1)) ∧ Inv w ht sd (nI k) md pl sh sx sy ln hi Y ∧ k ≤ 3 ∧ (k = 0 → ∃ z, Y[45]? = some (LA z) ∧ z z0 = va b) ∧ Y.length ≤ h.length + 1
variable {l : Launch} {G : Gb} {h : List Ce} {w ht sd pl ln pl' ln' : Nat} {th th' sx sy sx' sy' : Int32} {md sh hi md' sh' hi' : Bool} {β : Type} {enc : β → Rs} {va : β → Int64} {kLa kMo : Kt} {As : List Value}
theorem Inv_hS {L : List (Nat × Ce)} (hI : Inv w ht sd th md pl sh sx sy ln hi h) (h27 : lk L 27 = some (MoO th' w ht sd md' pl' sh' sx' sy' ln' hi')) (h0 : lk L 0 = none) {z : Nat → Int64} (h45 : lk L 45 = some (LA z)) (hk : L.all (fun q => decide (q.1 < 46)) = true) (a : GA w ht md' (hS h L)) (b : GB pl' (hS h L)) (c : GC sd sh' sx' sy' (hS h L)) (d : GD pl' (hS h L)) (e : GE pl' ln' (hS h L)) (f : GF w ht hi' (hS h L)) : Inv w ht sd th' md' pl' sh' sx' sy' ln' hi' (hS h L) := by
  obtain ⟨hn, c0, -, -, -, -, -, -, -, -, gX⟩ := hI
  refine ⟨by rw [hS_len]; exact hn, ro c0 h0, rd hn rfl h27, ⟨z, rd hn rfl h45⟩, a, b, c, d, e, f, fun k c9 hk9 hc => gX k c9 hk9 ?_⟩
  have key : ∀ L : List (Nat × Ce), L.all (fun q => decide (q.1 < 46)) = true → lk L k = none := by
    intro L
    induction L with
    | nil => intro _; rfl
    | cons q t ih =>
      intro hq
      obtain ⟨j, c⟩ := q
      rw [List.all_cons, Bool.and_eq_true, decide_eq_true_iff] at hq
      show (if j = k then some c else lk t k) = none
      rw [if_neg (by have := hq.1; show ¬ j = k; omega)]
      exact ih hq.2
  rw [hS_at, key L hk] at hc
  cases hh : h[k]? with
  | none => rw [hh] at hc; cases hc
  | some c8 => rw [hh] at hc; exact hc
theorem err_case {ex : Ce} {k : Nat} {b : β} (hI : Inv w ht sd th md pl sh sx sy ln hi h) (he : sl1 ex ≤ 2000) (hk : 0 < k ∧ k ≤ 3) (d1 : Do l G kLa (.ref 1 :: (As ++ [.ref 46])) h (ri (nI k)) (h ++ [ex])) (d2 : ∀ X : List Ce, X[27]? = some (MoO th w ht sd md pl sh sx sy ln hi) → 45 ≤ X.length → Do l G kMo (.ref 28 :: As) X (enc b) (X.set 27 (MoO (nI k) w ht sd md pl sh sx sy ln hi))) : Stq enc va l G w ht sd kLa kMo As h := by
  obtain ⟨hn, c0, c27, ⟨z, c45⟩, gA, gB, gC, gD, gE, gF, gX⟩ := hI
  have hl : (h ++ [ex]).length = h.length + 1 := by simp
  have p : ∀ ks : List Nat, ks.all (fun k => decide (k < 46)) = true → ks.all (fun j => (lk [(27, MoO (nI k) w ht sd md pl sh sx sy ln hi)] j).isNone) = true → Sm ks h (hS (h ++ [ex]) [(27, MoO (nI k) w ht sd md pl sh sx sy ln hi)]) := fun ks h1 h2 => (Sm_push ex h1 hn).trans (Sm_hS h2)
  have x27 : (h ++ [ex])[27]? = some (MoO th w ht sd md pl sh sx sy ln hi) := by rw [List.getElem?_append_left (by omega)]; exact c27
  refine ⟨k, b, h ++ [ex], (h ++ [ex]).set 27 (MoO (nI k) w ht sd md pl sh sx sy ln hi), _, md, pl, sh, sx, sy, ln, hi, d1, d2 _ x27 (by omega), x27, ?_, hk.2, fun q => by omega, by simp⟩
  rw [set_hS]
  refine ⟨by rw [hS_len]; omega, (p [0] rfl rfl).get 0 rfl c0, rd (n := 46) (by omega) rfl rfl, ⟨z, (p [45] rfl rfl).get 45 rfl c45⟩, GA_sm (p _ rfl rfl) gA, GB_sm (p _ rfl rfl) gB, GC_sm (p _ rfl rfl) gC, GD_sm (p _ rfl rfl) gD, GE_sm (p _ rfl rfl) gE, GF_sm (p _ rfl rfl) gF, fun j c hj hc => ?_⟩
  rw [← set_hS, List.getElem?_set_ne (by omega)] at hc
  rcases Nat.lt_or_ge j h.length with q | q
  · rw [List.getElem?_append_left q] at hc
    exact gX j c hj hc
  · rw [List.getElem?_append_right q] at hc
    rcases Nat.eq_zero_or_pos (j - h.length) with q2 | q2
    · rw [q2] at hc
      cases hc
      exact he
    · rw [List.getElem?_eq_none (by simp; omega)] at hc
      cases hc
theorem ok_case {L1 L2 : List (Nat × Ce)} {b : β} {z : Nat → Int64} {v : Int64} (d1 : Do l G kLa (.ref 1 :: (As ++ [.ref 46])) h (ri 0) (hS h (put L1 45 (LA (vp_updL z z0 v))))) (d2 : Do l G kMo (.ref 28 :: As) (hS h (put L1 45 (LA (vp_updL z z0 v)))) (enc b) (hS (hS h (put L1 45 (LA (vp_updL z z0 v)))) L2)) {c1 : List Value} (x27 : (hS h (put L1 45 (LA (vp_updL z z0 v))))[27]? = some (.inr (8, c1))) (e : v = va b) (y45 : lk (L2 ++ put L1 45 (LA (vp_updL z z0 v))) 45 = some (LA (vp_updL z z0 v))) (inv : Inv w ht sd 0 md' pl' sh' sx' sy' ln' hi' (hS h (L2 ++ put L1 45 (LA (vp_updL z z0 v))))) : Stq enc va l G w ht sd kLa kMo As h := by
  refine ⟨0, b, _, _, c1, md', pl', sh', sx', sy', ln', hi', d1, d2, x27, ?_, by omega, fun _ => ⟨vp_updL z z0 v, ?_, ?_⟩, ?_⟩
  · rw [hS_hS]
    exact inv
  · rw [hS_hS]
    exact rd (n := 46) (by have := inv.1; rw [hS_len] at this; exact this) rfl y45
  · rw [← e]
    exact pk_uLs
  · rw [hS_len, hS_len]
    omega
theorem moH_id (c : h[27]? = some (MoO th w ht sd md pl sh sx sy ln hi)) : moH h th w ht sd md pl sh sx sy ln hi = h := hS_id (okS_cons c okS_nil)
theorem wi_ex {x : Int32} {a b : Nat} (hb : b < 2 ^ 31) (hab : a ≤ b) (h : wiB x (nI a) (nI b) = true) : ∃ j : Nat, a ≤ j ∧ j ≤ b ∧ x = nI j := by
  unfold wiB at h
  rw [Bool.and_eq_true, decide_eq_true_iff, decide_eq_true_iff, Int32.le_iff_toInt_le, Int32.le_iff_toInt_le, nI_toInt (by omega), nI_toInt hb] at h
  refine ⟨x.toInt.toNat, by omega, by omega, ?_⟩
  exact Int32.toInt_inj.mp (by rw [nI_toInt (by omega)]; omega)
theorem px_inj {p x y p' x' y' : Nat} (hx : x < w) (hx' : x' < w) (hy : y < ht) (hy' : y' < ht) (e : px w ht p' x' y' = px w ht p x y) : p' = p ∧ x' = x ∧ y' = y := by
  unfold px at e
  obtain ⟨e1, e2⟩ := rc_inj hx hx' e
  obtain ⟨e3, e4⟩ := rc_inj hy hy' e1
  exact ⟨e3, e2, e4⟩
theorem Rv_upd {f mf : Nat → Int32} (hR : Rv w ht f mf) (hw : w ≤ 20) (hht : ht ≤ 20) {p x y i : Nat} (hp : p < 4) (hx : x < w) (hy : y < ht) (hi9 : i ≤ 255) : Rv w ht (upd f (px w ht p x y) (nI i)) (upd mf (400 * p + 20 * y + x) (nI i)) := by
  intro p' x' y' hp' hx' hy'
  unfold upd
  by_cases q : p' = p ∧ x' = x ∧ y' = y
  · obtain ⟨rfl, rfl, rfl⟩ := q
    rw [if_pos rfl, if_pos rfl]
    exact ⟨rfl, i, hi9, rfl⟩
  · rw [if_neg (by omega), if_neg (fun e => q (px_inj hx hx' hy hy' e))]
    exact hR p' x' y' hp' hx' hy'
end P51
