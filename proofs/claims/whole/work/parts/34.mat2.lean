section P34
theorem fori_inv {σ : Type} {f : Nat → σ → σ} (P : Nat → σ → Prop) : ∀ (n i : Nat) (s : σ), (∀ j s, i ≤ j → j < i + n → P j s → P (j + 1) (f j s)) → P i s → P (i + n) (fori f n i s)
  | 0, _, _, _, h => h
  | n + 1, i, s, st, h => by
    rw [fori_s, show i + (n + 1) = i + 1 + n by omega]
    exact fori_inv P n (i + 1) _ (fun j s h1 h2 => st j s (by omega) (by omega)) (st i s (Nat.le_refl _) (by omega) h)
theorem fori_congr {σ : Type} {f g : Nat → σ → σ} : ∀ (n i : Nat) (s : σ), (∀ j s, i ≤ j → j < i + n → f j s = g j s) → fori f n i s = fori g n i s
  | 0, _, _, _ => rfl
  | n + 1, i, s, e => by
    rw [fori_s, fori_s, e i s (Nat.le_refl _) (by omega)]
    exact fori_congr n (i + 1) _ (fun j s h1 h2 => e j s (by omega) (by omega))
theorem fori_snoc {σ : Type} (f : Nat → σ → σ) : ∀ (n i : Nat) (s : σ), fori f (n + 1) i s = f (i + n) (fori f n i s)
  | 0, _, _ => rfl
  | n + 1, i, s => by
    rw [fori_s, fori_snoc f n (i + 1), fori_s, show i + (n + 1) = i + 1 + n by omega]
theorem sqd_n {i j : Nat} (hi : i ≤ 255) (hj : j ≤ 255) : ∃ q, q ≤ 65025 ∧ sqd (nI i) (nI j) = nI q := by
  have key : ∀ d : Nat, d ≤ 255 → d * d ≤ 65025 := fun d hd => Nat.mul_le_mul hd hd
  rcases Nat.le_total j i with z | z
  · refine ⟨(i - j) * (i - j), key _ (by omega), ?_⟩
    unfold sqd
    rw [pk_sub z, pk_mul]
  · refine ⟨(j - i) * (j - i), key _ (by omega), ?_⟩
    have k2 := key (j - i) (by omega)
    have e1 : (nI i - nI j).toInt = -(((j - i : Nat) : Int)) := by rw [pk_sub_toInt (by omega) (by omega)]; omega
    have e2 : (nI i - nI j).toInt * (nI i - nI j).toInt = (((j - i) * (j - i) : Nat) : Int) := by
      rw [e1, Int.neg_mul_neg]
      exact (Int.natCast_mul _ _).symm
    apply Int32.toInt_inj.mp
    unfold sqd
    rw [imul (by rw [e2]; omega) (by rw [e2]; omega), e2, nI_toInt (by omega)]
variable {l : Launch} {G : Gb} {h h0 h' : List Ce} {r : Rs} {th sx sy : Int32} {w ht sd pl ln : Nat} {md sh hi : Bool} {f mf mt : Nat → Int32}
theorem wmiss_n (hR : Rv w ht f mf) {a x y b u v : Nat} (ha : a < 4) (hb : b < 4) (hx : 1 ≤ x ∧ x + 1 < w) (hy : 1 ≤ y ∧ y + 1 < ht) (hu : 1 ≤ u ∧ u + 1 < w) (hv : 1 ≤ v ∧ v + 1 < ht) : ∃ m, m ≤ 585225 ∧ wmiss f w ht a x y b u v = nI m := by
  rw [← mm_wmiss hR ha hb hx hy hu hv]
  have := fori_inv (f := mmS mf a x y b u v) (fun k t => ∃ m, m ≤ k * 65025 ∧ t = nI m) 9 0 0 (fun k t h1 h2 h3 => by
    obtain ⟨m, hm, rfl⟩ := h3
    obtain ⟨e1, i, hi, e2⟩ := hR a (x - 1 + k % 3) (y - 1 + k / 3) ha (by omega) (by omega)
    obtain ⟨e3, j, hj, e4⟩ := hR b (u - 1 + k % 3) (v - 1 + k / 3) hb (by omega) (by omega)
    obtain ⟨q, hq, e5⟩ := sqd_n hi hj
    refine ⟨m + q, by omega, ?_⟩
    unfold mmS
    rw [e1, e2, e3, e4, e5, nI_add]) ⟨0, by omega, rfl⟩
  obtain ⟨m, hm, e⟩ := this
  exact ⟨m, by omega, e⟩
theorem rc_inj {w x y x' y' : Nat} (hx : x < w) (hx' : x' < w) (e : y' * w + x' = y * w + x) : y' = y ∧ x' = x := by
  have h1 : (y' * w + x') / w = y' := by rw [Nat.mul_comm, Nat.mul_add_div (by omega), Nat.div_eq_of_lt hx', Nat.add_zero]
  have h2 : (y * w + x) / w = y := by rw [Nat.mul_comm, Nat.mul_add_div (by omega), Nat.div_eq_of_lt hx, Nat.add_zero]
  have h3 : y' = y := by rw [← h1, e, h2]
  subst h3
  exact ⟨rfl, by omega⟩
/-- all misses are stored -/
theorem look_ms (M : Nat → Nat → Int32) (w ht : Nat) (s : Lk) : ∀ u v, 1 ≤ u → u + 1 < w → 1 ≤ v → v + 1 < ht → (lookR M w ht s).2.2.2 (v * w + u) = M u v := by
  have stp : ∀ (y x : Nat) (s : Lk), (lookS M w y x s).2.2.2 = upd s.2.2.2 (y * w + x) (M x y) := by
    intro y x s
    unfold lookS
    split <;> rfl
  have inner : ∀ (y : Nat) (s : Lk), (∀ u v, 1 ≤ u → u + 1 < w → 1 ≤ v → v < y → s.2.2.2 (v * w + u) = M u v) → ∀ u v, 1 ≤ u → u + 1 < w → 1 ≤ v → v < y + 1 → (fori (fun x s => lookS M w y x s) (w - 2) 1 s).2.2.2 (v * w + u) = M u v := by
    intro y s hs
    have := fori_inv (f := fun x s => lookS M w y x s) (fun x s => ∀ u v, 1 ≤ u → u + 1 < w → 1 ≤ v → (v < y ∨ (v = y ∧ u < x)) → s.2.2.2 (v * w + u) = M u v) (w - 2) 1 s (fun x s h1 h2 h3 => by
      intro u v hu1 hu2 hv1 hv2
      rw [stp]
      unfold upd
      by_cases e : v * w + u = y * w + x
      · obtain ⟨rfl, rfl⟩ := rc_inj (show x < w by omega) (show u < w by omega) e
        rw [if_pos rfl]
      · rw [if_neg e]
        refine h3 u v hu1 hu2 hv1 ?_
        rcases hv2 with z | ⟨rfl, z⟩
        · exact Or.inl z
        · exact Or.inr ⟨rfl, by have : u ≠ x := fun q => e (by rw [q]); omega⟩) (fun u v h1 h2 h3 h4 => hs u v h1 h2 h3 (by omega))
    exact fun u v h1 h2 h3 h4 => this u v h1 h2 h3 (by omega)
  have := fori_inv (f := fun y s => fori (fun x s => lookS M w y x s) (w - 2) 1 s) (fun y s => ∀ u v, 1 ≤ u → u + 1 < w → 1 ≤ v → v < y → s.2.2.2 (v * w + u) = M u v) (ht - 2) 1 s (fun y s h1 h2 h3 => inner y s h3) (fun u v h1 h2 h3 h4 => by omega)
  exact fun u v h1 h2 h3 h4 => this u v h1 h2 h3 (by omega)
/-- the second search over the misses themselves -/
def lf2 (M : Nat → Nat → Int32) (fx fy : Int32) (y x : Nat) (t : Int32) : Int32 := if farB (nI x) (nI y) fx fy && lsB (M x y) t then M x y else t
theorem lf_lf2 (M : Nat → Nat → Int32) (w ht : Nat) (s : Lk) (fx fy : Int32) : lfR (lookR M w ht s).2.2.2 w ht fx fy = fori (fun y t => fori (fun x t => lf2 M fx fy y x t) (w - 2) 1 t) (ht - 2) 1 (-1) := by
  unfold lfR
  refine fori_congr _ _ _ (fun y t h1 h2 => fori_congr _ _ _ (fun x t h3 h4 => ?_))
  unfold lfS lf2
  rw [look_ms M w ht s x y h3 (by omega) h1 (by omega)]
/-- how the first searches stand to each other, c cells on -/
def Qm (c : Nat) (s : Lk) (best : Int32) (mt : Nat → Int32) : Prop := (c = 0 ∧ s.1 = -1 ∧ best = -1) ∨ (∃ m, m ≤ 585225 ∧ s.1 = nI m ∧ best = nI m ∧ mt 0 = s.2.1 ∧ mt 1 = s.2.2.1 ∧ ∃ i j, i < 20 ∧ j < 20 ∧ s.2.1 = nI i ∧ s.2.2.1 = nI j)
theorem nIm {m : Nat} (hm : m ≤ 585225) : ¬ nI m = -1 := by
  intro e
  have := congrArg Int32.toInt e
  rw [nI_toInt (by omega)] at this
  have h2 : (-1 : Int32).toInt = -1 := by decide
  omega
theorem lsB_1 (m : Int32) : lsB m (-1) = true := by simp [lsB]
theorem lsB_lt {m m0 : Nat} (z : m < m0) (h : m0 ≤ 585225) : lsB (nI m) (nI m0) = true := by
  unfold lsB
  rw [decide_eq_true (nI_lt z (by omega)), Bool.or_true]
theorem lsB_ge {m m0 : Nat} (z : ¬ m < m0) (h : m ≤ 585225) : ¬ lsB (nI m) (nI m0) = true := by
  unfold lsB
  rw [decide_eq_false (nIm (m := m0) (by omega)), decide_eq_false (nI_nlt (by omega) (by omega))]
  exact Bool.false_ne_true
abbrev maH (h : List Ce) (th : Int32) (w ht sd : Nat) (md : Bool) (pl : Nat) (sh : Bool) (sx sy : Int32) (ln : Nat) (hi : Bool) (mf mt : Nat → Int32) : List Ce := hS h [(27, MoO th w ht sd md pl sh sx sy ln hi), (28, IA 1600 mf), (29, IA 3 mt)]
theorem far_eq {u v i j : Nat} (hu : u < 20) (hv : v < 20) (hi : i < 20) (hj : j < 20) : farB (nI u) (nI v) (nI i) (nI j) = (decide (1 < apR (nI u) (nI i)) || decide (1 < apR (nI v) (nI j))) := by
  unfold farB
  rw [ap_ab (by omega) (by omega), ap_ab (by omega) (by omega)]
theorem mo_match_l1 (hL : 45 ≤ h.length) (hR : Rv w ht f mf) (hw : 6 ≤ w ∧ w ≤ 20) (hht : 6 ≤ ht ∧ ht ≤ 20) (a b x y : Nat) (ha : a < 4) (hb : b < 4) (hx : 1 ≤ x ∧ x + 1 < w) (hy : 1 ≤ y ∧ y + 1 < ht) : ∀ (n v c : Nat) (s : Lk) (best : Int32) (mt : Nat → Int32), 1 ≤ v → v + n = ht - 1 → Qm c s best mt → ∃ best' mt', Qm (c + n * (w - 2)) (fori (fun y9 s => fori (fun x9 s => lookS (fun u v => wmiss f w ht a x y b u v) w y9 x9 s) (w - 2) 1 s) n v s) best' mt' ∧ ∀ r h' H0, V l G k_Mo_match H0 150 [(0, .ref 28), (1, .int (nI a)), (2, .int (nI b)), (3, .int (nI x)), (4, .int (nI y)), (5, .int best')] [] (maH h th w ht sd md pl sh sx sy ln hi mf mt') r h' → V l G k_Mo_match H0 65 [(0, .ref 28), (1, .int (nI a)), (2, .int (nI b)), (3, .int (nI x)), (4, .int (nI y)), (5, .int best), (6, .int (nI v))] [] (maH h th w ht sd md pl sh sx sy ln hi mf mt) r h' := by
  have inner : ∀ (v : Nat), 1 ≤ v → v + 1 < ht → ∀ (n u c : Nat) (s : Lk) (best : Int32) (mt : Nat → Int32), 1 ≤ u → u + n = w - 1 → Qm c s best mt → ∃ best' mt', Qm (c + n) (fori (fun x9 s => lookS (fun u v => wmiss f w ht a x y b u v) w v x9 s) n u s) best' mt' ∧ ∀ r h' H0, V l G k_Mo_match H0 144 [(0, .ref 28), (1, .int (nI a)), (2, .int (nI b)), (3, .int (nI x)), (4, .int (nI y)), (5, .int best'), (6, .int (nI v))] [] (maH h th w ht sd md pl sh sx sy ln hi mf mt') r h' → V l G k_Mo_match H0 79 [(0, .ref 28), (1, .int (nI a)), (2, .int (nI b)), (3, .int (nI x)), (4, .int (nI y)), (5, .int best), (6, .int (nI v)), (7, .int (nI u))] [] (maH h th w ht sd md pl sh sx sy ln hi mf mt) r h' := by
    intro v hv1 hv2 n
    induction n with
    | zero =>
      intro u c s best mt hu e hQ
      refine ⟨best, mt, hQ, fun r h' H0 kk => ?_⟩
      refine V_iload d_Mo_match_79 rfl ?_
      refine V_aload_n d_Mo_match_81 rfl ?_
      refine V_gf g_Mo_match_82 (rd hL rfl rfl) rfl ?_
      refine V_iconst (v := 1) d_Mo_match_85 (by decide) ?_
      refine V_isub d_Mo_match_86 ?_
      rw [nIm1 (by omega)]
      refine V_icmp_ge (tgt := 144) d_Mo_match_87 (by decide) (fun _ => ?_) (fun c9 => absurd ((nI_le (by omega) (by omega) : nI (w - 1) ≤ nI u)) c9)
      exact V_keep [0, 1, 2, 3, 4, 5, 6] kk
    | succ n ih =>
      intro u c s best mt hu e hQ
      obtain ⟨m, hm, em⟩ := wmiss_n hR ha hb hx hy (u := u) (v := v) ⟨hu, by omega⟩ ⟨hv1, hv2⟩
      rw [fori_s]
      have hD : ∀ mt : Nat → Int32, Do l G k_Mo_missOf [.ref 28, .int (nI a), .int (nI b), .int (nI x), .int (nI y), .int (nI u), .int (nI v)] (maH h th w ht sd md pl sh sx sy ln hi mf mt) (ri (nI m)) (maH h th w ht sd md pl sh sx sy ln hi mf mt) := by
        intro mt
        rw [← em]
        exact mo_missOf (rd hL rfl rfl) (rd hL rfl rfl) hR hw.2 hht.2 a b x y u v ha hb hx hy ⟨hu, by omega⟩ ⟨hv1, hv2⟩
      have next : ∀ (best1 : Int32) (mt1 : Nat → Int32), Qm (c + 1) (lookS (fun u v => wmiss f w ht a x y b u v) w v u s) best1 mt1 → (∀ r h' H0, V l G k_Mo_match H0 138 [(0, .ref 28), (1, .int (nI a)), (2, .int (nI b)), (3, .int (nI x)), (4, .int (nI y)), (5, .int best1), (6, .int (nI v)), (7, .int (nI u))] [] (maH h th w ht sd md pl sh sx sy ln hi mf mt1) r h' → V l G k_Mo_match H0 79 [(0, .ref 28), (1, .int (nI a)), (2, .int (nI b)), (3, .int (nI x)), (4, .int (nI y)), (5, .int best), (6, .int (nI v)), (7, .int (nI u))] [] (maH h th w ht sd md pl sh sx sy ln hi mf mt) r h') → ∃ best' mt', Qm (c + (n + 1)) (fori (fun x9 s => lookS (fun u v => wmiss f w ht a x y b u v) w v x9 s) n (u + 1) (lookS (fun u v => wmiss f w ht a x y b u v) w v u s)) best' mt' ∧ ∀ r h' H0, V l G k_Mo_match H0 144 [(0, .ref 28), (1, .int (nI a)), (2, .int (nI b)), (3, .int (nI x)), (4, .int (nI y)), (5, .int best'), (6, .int (nI v))] [] (maH h th w ht sd md pl sh sx sy ln hi mf mt') r h' → V l G k_Mo_match H0 79 [(0, .ref 28), (1, .int (nI a)), (2, .int (nI b)), (3, .int (nI x)), (4, .int (nI y)), (5, .int best), (6, .int (nI v)), (7, .int (nI u))] [] (maH h th w ht sd md pl sh sx sy ln hi mf mt) r h' := by
        intro best1 mt1 hQ1 st
        obtain ⟨best', mt', q1, q2⟩ := ih (u + 1) (c + 1) _ best1 mt1 (by omega) (by omega) hQ1
        refine ⟨best', mt', by rw [show c + (n + 1) = c + 1 + n by omega]; exact q1, fun r h' H0 kk => st r h' H0 ?_⟩
        refine V_iinc1 d_Mo_match_138 rfl (by decide) rfl ?_
        refine V_goto (tgt := 79) d_Mo_match_141 (by decide) ?_
        rw [nI_1]
        exact q2 r h' H0 kk
      have upM : Qm (c + 1) (wmiss f w ht a x y b u v, nI u, nI v, upd s.2.2.2 (v * w + u) (wmiss f w ht a x y b u v)) (nI m) (upd (upd mt 0 (nI u)) 1 (nI v)) := Or.inr ⟨m, hm, em, rfl, rfl, rfl, u, v, by omega, by omega, rfl, rfl⟩
      have pre : ∀ r h' H0, V l G k_Mo_match H0 105 [(0, .ref 28), (1, .int (nI a)), (2, .int (nI b)), (3, .int (nI x)), (4, .int (nI y)), (5, .int best), (6, .int (nI v)), (7, .int (nI u)), (8, .int (nI m))] [] (maH h th w ht sd md pl sh sx sy ln hi mf mt) r h' → V l G k_Mo_match H0 79 [(0, .ref 28), (1, .int (nI a)), (2, .int (nI b)), (3, .int (nI x)), (4, .int (nI y)), (5, .int best), (6, .int (nI v)), (7, .int (nI u))] [] (maH h th w ht sd md pl sh sx sy ln hi mf mt) r h' := by
        intro r h' H0 kk
        refine V_iload d_Mo_match_79 rfl ?_
        refine V_aload_n d_Mo_match_81 rfl ?_
        refine V_gf g_Mo_match_82 (rd hL rfl rfl) rfl ?_
        refine V_iconst (v := 1) d_Mo_match_85 (by decide) ?_
        refine V_isub d_Mo_match_86 ?_
        rw [nIm1 (by omega)]
        refine V_icmp_ge (tgt := 144) d_Mo_match_87 (by decide) (fun c9 => absurd c9 ((nI_ge (by omega) (by omega) : ¬ nI (w - 1) ≤ nI u))) (fun _ => ?_)
        refine V_aload_n d_Mo_match_90 rfl ?_
        refine V_iload_n d_Mo_match_91 rfl ?_
        refine V_iload_n d_Mo_match_92 rfl ?_
        refine V_iload_n d_Mo_match_93 rfl ?_
        refine V_iload d_Mo_match_94 rfl ?_
        refine V_iload d_Mo_match_96 rfl ?_
        refine V_iload d_Mo_match_98 rfl ?_
        refine V_cV s_Mo_match_100 (hD mt) (rd hL rfl rfl) rfl rfl (Nat.le_of_ble_eq_true rfl) ?_
        refine V_istore d_Mo_match_103 (by decide) rfl ?_
        exact kk
      have tk : ∀ r h' H0, V l G k_Mo_match H0 138 [(0, .ref 28), (1, .int (nI a)), (2, .int (nI b)), (3, .int (nI x)), (4, .int (nI y)), (5, .int (nI m)), (6, .int (nI v)), (7, .int (nI u))] [] (maH h th w ht sd md pl sh sx sy ln hi mf (upd (upd mt 0 (nI u)) 1 (nI v))) r h' → V l G k_Mo_match H0 118 [(0, .ref 28), (1, .int (nI a)), (2, .int (nI b)), (3, .int (nI x)), (4, .int (nI y)), (5, .int best), (6, .int (nI v)), (7, .int (nI u)), (8, .int (nI m))] [] (maH h th w ht sd md pl sh sx sy ln hi mf mt) r h' := by
        intro r h' H0 kk
        refine V_iload d_Mo_match_118 rfl ?_
        refine V_istore d_Mo_match_120 (by decide) rfl ?_
        refine V_aload_n d_Mo_match_122 rfl ?_
        refine V_gf g_Mo_match_123 (rd hL rfl rfl) rfl ?_
        refine V_iconst (v := 0) d_Mo_match_126 (by decide) ?_
        refine V_iload d_Mo_match_127 rfl ?_
        refine V_iastN d_Mo_match_129 (rd hL rfl rfl) ((⟨rfl, by decide, by decide⟩ : Ix 0 0 3)) ?_
        refine V_hS rfl ?_
        refine V_aload_n d_Mo_match_130 rfl ?_
        refine V_gf g_Mo_match_131 (rd hL rfl rfl) rfl ?_
        refine V_iconst (v := 1) d_Mo_match_134 (by decide) ?_
        refine V_iload d_Mo_match_135 rfl ?_
        refine V_iastN d_Mo_match_137 (rd hL rfl rfl) ((⟨rfl, by decide, by decide⟩ : Ix 1 1 3)) ?_
        refine V_hS rfl ?_
        refine V_keep [0, 1, 2, 3, 4, 5, 6, 7] ?_
        exact kk
      rcases hQ with ⟨hc, q1, q2⟩ | ⟨m0, hm0, q1, q2, q3, q4, i, j, hi9, hj9, q5, q6⟩
      · have es : lookS (fun u v => wmiss f w ht a x y b u v) w v u s = (wmiss f w ht a x y b u v, nI u, nI v, upd s.2.2.2 (v * w + u) (wmiss f w ht a x y b u v)) := by
          unfold lookS
          rw [if_pos (by show lsB (wmiss f w ht a x y b u v) s.1 = true; rw [q1]; exact lsB_1 _)]
        refine next (nI m) (upd (upd mt 0 (nI u)) 1 (nI v)) (by rw [es]; exact upM) (fun r h' H0 kk => pre r h' H0 ?_)
        refine V_iload d_Mo_match_105 rfl ?_
        refine V_iconst (v := (-1)) d_Mo_match_107 (by decide) ?_
        refine V_icmp_eq (tgt := 118) d_Mo_match_108 (by decide) (fun _ => ?_) (fun c9 => absurd (q2) c9)
        exact tk r h' H0 kk
      · by_cases z : m < m0
        · have es : lookS (fun u v => wmiss f w ht a x y b u v) w v u s = (wmiss f w ht a x y b u v, nI u, nI v, upd s.2.2.2 (v * w + u) (wmiss f w ht a x y b u v)) := by
            unfold lookS
            rw [if_pos (by show lsB (wmiss f w ht a x y b u v) s.1 = true; rw [q1, em]; exact lsB_lt z hm0)]
          refine next (nI m) (upd (upd mt 0 (nI u)) 1 (nI v)) (by rw [es]; exact upM) (fun r h' H0 kk => pre r h' H0 ?_)
          refine V_iload d_Mo_match_105 rfl ?_
          refine V_iconst (v := (-1)) d_Mo_match_107 (by decide) ?_
          refine V_icmp_eq (tgt := 118) d_Mo_match_108 (by decide) (fun c9 => absurd c9 ((by rw [q2]; exact nIm hm0 : ¬ best = -1))) (fun _ => ?_)
          refine V_iload d_Mo_match_111 rfl ?_
          refine V_iload d_Mo_match_113 rfl ?_
          refine V_icmp_ge (tgt := 138) d_Mo_match_115 (by decide) (fun c9 => absurd c9 ((by rw [q2]; exact nI_ge z (by omega) : ¬ best ≤ nI m))) (fun _ => ?_)
          exact tk r h' H0 kk
        · have es : lookS (fun u v => wmiss f w ht a x y b u v) w v u s = (s.1, s.2.1, s.2.2.1, upd s.2.2.2 (v * w + u) (wmiss f w ht a x y b u v)) := by
            unfold lookS
            rw [if_neg (by show ¬ lsB (wmiss f w ht a x y b u v) s.1 = true; rw [q1, em]; exact lsB_ge z hm)]
          refine next best mt (by rw [es]; exact Or.inr ⟨m0, hm0, q1, q2, q3, q4, i, j, hi9, hj9, q5, q6⟩) (fun r h' H0 kk => pre r h' H0 ?_)
          refine V_iload d_Mo_match_105 rfl ?_
          refine V_iconst (v := (-1)) d_Mo_match_107 (by decide) ?_
          refine V_icmp_eq (tgt := 118) d_Mo_match_108 (by decide) (fun c9 => absurd c9 ((by rw [q2]; exact nIm hm0 : ¬ best = -1))) (fun _ => ?_)
          refine V_iload d_Mo_match_111 rfl ?_
          refine V_iload d_Mo_match_113 rfl ?_
          refine V_icmp_ge (tgt := 138) d_Mo_match_115 (by decide) (fun _ => ?_) (fun c9 => absurd ((by rw [q2]; exact nI_le (by omega) (by omega) : best ≤ nI m)) c9)
          refine V_keep [0, 1, 2, 3, 4, 5, 6, 7] ?_
          exact kk
  intro n
  induction n with
  | zero =>
    intro v c s best mt hv e hQ
    refine ⟨best, mt, by rw [Nat.zero_mul, Nat.add_zero]; exact hQ, fun r h' H0 kk => ?_⟩
    refine V_iload d_Mo_match_65 rfl ?_
    refine V_aload_n d_Mo_match_67 rfl ?_
    refine V_gf g_Mo_match_68 (rd hL rfl rfl) rfl ?_
    refine V_iconst (v := 1) d_Mo_match_71 (by decide) ?_
    refine V_isub d_Mo_match_72 ?_
    rw [nIm1 (by omega)]
    refine V_icmp_ge (tgt := 150) d_Mo_match_73 (by decide) (fun _ => ?_) (fun c9 => absurd ((nI_le (by omega) (by omega) : nI (ht - 1) ≤ nI v)) c9)
    exact V_keep [0, 1, 2, 3, 4, 5] kk
  | succ n ih =>
    intro v c s best mt hv e hQ
    rw [fori_s]
    obtain ⟨b1, m1, q1, q2⟩ := inner v hv (by omega) (w - 2) 1 c s best mt (Nat.le_refl _) (by omega) hQ
    obtain ⟨b2, m2, q3, q4⟩ := ih (v + 1) (c + (w - 2)) _ b1 m1 (by omega) (by omega) q1
    refine ⟨b2, m2, by rw [Nat.add_mul, Nat.one_mul, Nat.add_comm (n * (w - 2)), ← Nat.add_assoc]; exact q3, fun r h' H0 kk => ?_⟩
    refine V_iload d_Mo_match_65 rfl ?_
    refine V_aload_n d_Mo_match_67 rfl ?_
    refine V_gf g_Mo_match_68 (rd hL rfl rfl) rfl ?_
    refine V_iconst (v := 1) d_Mo_match_71 (by decide) ?_
    refine V_isub d_Mo_match_72 ?_
    rw [nIm1 (by omega)]
    refine V_icmp_ge (tgt := 150) d_Mo_match_73 (by decide) (fun c9 => absurd c9 ((nI_ge (by omega) (by omega) : ¬ nI (ht - 1) ≤ nI v))) (fun _ => ?_)
    refine V_iconst (v := 1) d_Mo_match_76 (by decide) ?_
    refine V_istore d_Mo_match_77 (by decide) rfl ?_
    refine q2 r h' H0 ?_
    refine V_iinc1 d_Mo_match_144 rfl (by decide) rfl ?_
    refine V_goto (tgt := 65) d_Mo_match_147 (by decide) ?_
    rw [nI_1]
    exact q4 r h' H0 kk
end P34
