section P55
/-- from the case at pc on, the law comes to the end of its loop's body -/
def Nx (l : Launch) (G : Gb) (w ht sd i pc : Nat) (st : List Value) (h : List Ce) : Prop := ∃ (Y : List Ce) (th' : Int32) (md' : Bool) (pl' : Nat) (sh' : Bool) (sx' sy' : Int32) (ln' : Nat) (hi' : Bool), Inv w ht sd th' md' pl' sh' sx' sy' ln' hi' Y ∧ Y.length ≤ h.length + 1 ∧ ∀ (H0 : List Ce) (r : Rs) (h' : List Ce), V l G k_La_law H0 1438 [(0, .ref 0), (1, .ref 1), (2, .ref 28), (3, .ref 46), (4, .int (nI i))] [] Y r h' → V l G k_La_law H0 pc [(0, .ref 0), (1, .ref 1), (2, .ref 28), (3, .ref 46), (4, .int (nI i))] st h r h'
variable {l : Launch} {G : Gb} {h : List Ce} {w ht sd pl ln i : Nat} {th sx sy : Int32} {md sh hi : Bool}
theorem nx_pixel (hNT : NoTr l) (hw : 6 ≤ w ∧ w ≤ 20) (hht : 6 ≤ ht ∧ ht ≤ 20) (hs : sd ≤ 65536) (hGL : G.L < 2 ^ 31) (hi9 : i + 5 ≤ G.L) (hI : Inv w ht sd th md pl sh sx sy ln hi h) : Nx l G w ht sd i 160 [] h := by
  obtain ⟨k, b, X, Y, c1, md', pl', sh', sx', sy', ln', hi', d1, d2, x27, inv, hk, ho, hl⟩ := st_pixel (l := l) (G := G) hNT hw hht hI (G.xs (i + 1)) (G.xs (i + 2)) (G.xs (i + 3)) (G.xs (i + 4))
  exact ⟨Y, _, _, _, _, _, _, _, _, inv, hl, fun H0 r h' kk => law_pixel hi9 hGL d1 d2 x27 inv.2.2.1 hk ho kk⟩
theorem nx_match (hNT : NoTr l) (hw : 6 ≤ w ∧ w ≤ 20) (hht : 6 ≤ ht ∧ ht ≤ 20) (hs : sd ≤ 65536) (hGL : G.L < 2 ^ 31) (hi9 : i + 5 ≤ G.L) (hI : Inv w ht sd th md pl sh sx sy ln hi h) : Nx l G w ht sd i 252 [] h := by
  obtain ⟨k, b, X, Y, c1, md', pl', sh', sx', sy', ln', hi', d1, d2, x27, inv, hk, ho, hl⟩ := st_match (l := l) (G := G) hNT hw hht hI (G.xs (i + 1)) (G.xs (i + 2)) (G.xs (i + 3)) (G.xs (i + 4))
  exact ⟨Y, _, _, _, _, _, _, _, _, inv, hl, fun H0 r h' kk => law_match hi9 hGL d1 d2 x27 inv.2.2.1 hk ho kk⟩
theorem nx_found (hNT : NoTr l) (hw : 6 ≤ w ∧ w ≤ 20) (hht : 6 ≤ ht ∧ ht ≤ 20) (hs : sd ≤ 65536) (hGL : G.L < 2 ^ 31) (hi9 : i + 5 ≤ G.L) (hI : Inv w ht sd th md pl sh sx sy ln hi h) : Nx l G w ht sd i 344 [] h := by
  obtain ⟨k, b, X, Y, c1, md', pl', sh', sx', sy', ln', hi', d1, d2, x27, inv, hk, ho, hl⟩ := st_found (l := l) (G := G) hNT hI (G.xs (i + 1))
  exact ⟨Y, _, _, _, _, _, _, _, _, inv, hl, fun H0 r h' kk => law_found hi9 hGL d1 d2 x27 inv.2.2.1 hk ho kk⟩
theorem nx_place (hNT : NoTr l) (hw : 6 ≤ w ∧ w ≤ 20) (hht : 6 ≤ ht ∧ ht ≤ 20) (hs : sd ≤ 65536) (hGL : G.L < 2 ^ 31) (hi9 : i + 5 ≤ G.L) (hI : Inv w ht sd th md pl sh sx sy ln hi h) : Nx l G w ht sd i 400 [] h := by
  obtain ⟨k, b, X, Y, c1, md', pl', sh', sx', sy', ln', hi', d1, d2, x27, inv, hk, ho, hl⟩ := st_place (l := l) (G := G) hNT hI 
  exact ⟨Y, _, _, _, _, _, _, _, _, inv, hl, fun H0 r h' kk => law_place hi9 hGL d1 d2 x27 inv.2.2.1 hk ho kk⟩
theorem nx_seen (hNT : NoTr l) (hw : 6 ≤ w ∧ w ≤ 20) (hht : 6 ≤ ht ∧ ht ≤ 20) (hs : sd ≤ 65536) (hGL : G.L < 2 ^ 31) (hi9 : i + 5 ≤ G.L) (hI : Inv w ht sd th md pl sh sx sy ln hi h) : Nx l G w ht sd i 444 [] h := by
  obtain ⟨k, b, X, Y, c1, md', pl', sh', sx', sy', ln', hi', d1, d2, x27, inv, hk, ho, hl⟩ := st_seen (l := l) (G := G) hNT hI (G.xs (i + 1)) (G.xs (i + 2)) (G.xs (i + 3)) (G.xs (i + 4))
  exact ⟨Y, _, _, _, _, _, _, _, _, inv, hl, fun H0 r h' kk => law_seen hi9 hGL d1 d2 x27 inv.2.2.1 hk ho kk⟩
theorem nx_relative (hNT : NoTr l) (hw : 6 ≤ w ∧ w ≤ 20) (hht : 6 ≤ ht ∧ ht ≤ 20) (hs : sd ≤ 65536) (hGL : G.L < 2 ^ 31) (hi9 : i + 5 ≤ G.L) (hI : Inv w ht sd th md pl sh sx sy ln hi h) : Nx l G w ht sd i 543 [] h := by
  obtain ⟨k, b, X, Y, c1, md', pl', sh', sx', sy', ln', hi', d1, d2, x27, inv, hk, ho, hl⟩ := st_relative (l := l) (G := G) hNT hs hI (G.xs (i + 1)) (G.xs (i + 2)) (G.xs (i + 3)) (G.xs (i + 4))
  exact ⟨Y, _, _, _, _, _, _, _, _, inv, hl, fun H0 r h' kk => law_relative hi9 hGL d1 d2 x27 inv.2.2.1 hk ho kk⟩
theorem nx_shift (hNT : NoTr l) (hw : 6 ≤ w ∧ w ≤ 20) (hht : 6 ≤ ht ∧ ht ≤ 20) (hs : sd ≤ 65536) (hGL : G.L < 2 ^ 31) (hi9 : i + 5 ≤ G.L) (hI : Inv w ht sd th md pl sh sx sy ln hi h) : Nx l G w ht sd i 635 [] h := by
  obtain ⟨k, b, X, Y, c1, md', pl', sh', sx', sy', ln', hi', d1, d2, x27, inv, hk, ho, hl⟩ := st_shift (l := l) (G := G) hNT hI (G.xs (i + 1))
  exact ⟨Y, _, _, _, _, _, _, _, _, inv, hl, fun H0 r h' kk => law_shift hi9 hGL d1 d2 x27 inv.2.2.1 hk ho kk⟩
theorem nx_spare (hNT : NoTr l) (hw : 6 ≤ w ∧ w ≤ 20) (hht : 6 ≤ ht ∧ ht ≤ 20) (hs : sd ≤ 65536) (hGL : G.L < 2 ^ 31) (hi9 : i + 5 ≤ G.L) (hI : Inv w ht sd th md pl sh sx sy ln hi h) : Nx l G w ht sd i 691 [] h := by
  obtain ⟨k, b, X, Y, c1, md', pl', sh', sx', sy', ln', hi', d1, d2, x27, inv, hk, ho, hl⟩ := st_spare (l := l) (G := G) hNT hI (G.xs (i + 1)) (!decide (G.xs (i + 2) = 0))
  exact ⟨Y, _, _, _, _, _, _, _, _, inv, hl, fun H0 r h' kk => law_spare hi9 hGL d1 d2 x27 inv.2.2.1 hk ho kk⟩
theorem nx_run (hNT : NoTr l) (hw : 6 ≤ w ∧ w ≤ 20) (hht : 6 ≤ ht ∧ ht ≤ 20) (hs : sd ≤ 65536) (hGL : G.L < 2 ^ 31) (hi9 : i + 5 ≤ G.L) (hI : Inv w ht sd th md pl sh sx sy ln hi h) : Nx l G w ht sd i 782 [] h := by
  obtain ⟨k, b, X, Y, c1, md', pl', sh', sx', sy', ln', hi', d1, d2, x27, inv, hk, ho, hl⟩ := st_run (l := l) (G := G) hNT hI (G.xs (i + 1))
  exact ⟨Y, _, _, _, _, _, _, _, _, inv, hl, fun H0 r h' kk => law_run hi9 hGL d1 d2 x27 inv.2.2.1 hk ho kk⟩
theorem nx_sum (hNT : NoTr l) (hw : 6 ≤ w ∧ w ≤ 20) (hht : 6 ≤ ht ∧ ht ≤ 20) (hs : sd ≤ 65536) (hGL : G.L < 2 ^ 31) (hi9 : i + 5 ≤ G.L) (hI : Inv w ht sd th md pl sh sx sy ln hi h) : Nx l G w ht sd i 838 [] h := by
  obtain ⟨b, Y, d1, d2, inv, hl⟩ := st_sum (l := l) (G := G) hI
  exact ⟨Y, _, _, _, _, _, _, _, _, inv, hl, fun H0 r h' kk => law_sum d1 d2 hI.2.1 hI.2.2.1 kk⟩
theorem nx_at (hNT : NoTr l) (hw : 6 ≤ w ∧ w ≤ 20) (hht : 6 ≤ ht ∧ ht ≤ 20) (hs : sd ≤ 65536) (hGL : G.L < 2 ^ 31) (hi9 : i + 5 ≤ G.L) (hI : Inv w ht sd th md pl sh sx sy ln hi h) : Nx l G w ht sd i 852 [] h := by
  obtain ⟨k, b, X, Y, c1, md', pl', sh', sx', sy', ln', hi', d1, d2, x27, inv, hk, ho, hl⟩ := st_at (l := l) (G := G) hNT hI (G.xs (i + 1)) (G.xs (i + 2))
  exact ⟨Y, _, _, _, _, _, _, _, _, inv, hl, fun H0 r h' kk => law_at hi9 hGL d1 d2 x27 inv.2.2.1 hk ho kk⟩
theorem nx_offset (hNT : NoTr l) (hw : 6 ≤ w ∧ w ≤ 20) (hht : 6 ≤ ht ∧ ht ≤ 20) (hs : sd ≤ 65536) (hGL : G.L < 2 ^ 31) (hi9 : i + 5 ≤ G.L) (hI : Inv w ht sd th md pl sh sx sy ln hi h) : Nx l G w ht sd i 920 [] h := by
  obtain ⟨k, b, X, Y, c1, md', pl', sh', sx', sy', ln', hi', d1, d2, x27, inv, hk, ho, hl⟩ := st_offset (l := l) (G := G) hNT hI (G.xs (i + 1)) (G.xs (i + 2))
  exact ⟨Y, _, _, _, _, _, _, _, _, inv, hl, fun H0 r h' kk => law_offset hi9 hGL d1 d2 x27 inv.2.2.1 hk ho kk⟩
theorem nx_miss (hNT : NoTr l) (hw : 6 ≤ w ∧ w ≤ 20) (hht : 6 ≤ ht ∧ ht ≤ 20) (hs : sd ≤ 65536) (hGL : G.L < 2 ^ 31) (hi9 : i + 5 ≤ G.L) (hI : Inv w ht sd th md pl sh sx sy ln hi h) : Nx l G w ht sd i 988 [] h := by
  obtain ⟨k, b, X, Y, c1, md', pl', sh', sx', sy', ln', hi', d1, d2, x27, inv, hk, ho, hl⟩ := st_miss (l := l) (G := G) hNT hI (G.xs (i + 1))
  exact ⟨Y, _, _, _, _, _, _, _, _, inv, hl, fun H0 r h' kk => law_miss hi9 hGL d1 d2 x27 inv.2.2.1 hk ho kk⟩
theorem nx_known (hNT : NoTr l) (hw : 6 ≤ w ∧ w ≤ 20) (hht : 6 ≤ ht ∧ ht ≤ 20) (hs : sd ≤ 65536) (hGL : G.L < 2 ^ 31) (hi9 : i + 5 ≤ G.L) (hI : Inv w ht sd th md pl sh sx sy ln hi h) : Nx l G w ht sd i 1043 [] h := by
  obtain ⟨k, b, X, Y, c1, md', pl', sh', sx', sy', ln', hi', d1, d2, x27, inv, hk, ho, hl⟩ := st_known (l := l) (G := G) hNT hI (G.xs (i + 1)) (G.xs (i + 2)) (G.xs (i + 3))
  exact ⟨Y, _, _, _, _, _, _, _, _, inv, hl, fun H0 r h' kk => law_known hi9 hGL d1 d2 x27 inv.2.2.1 hk ho kk⟩
theorem nx_scale (hNT : NoTr l) (hw : 6 ≤ w ∧ w ≤ 20) (hht : 6 ≤ ht ∧ ht ≤ 20) (hs : sd ≤ 65536) (hGL : G.L < 2 ^ 31) (hi9 : i + 5 ≤ G.L) (hI : Inv w ht sd th md pl sh sx sy ln hi h) : Nx l G w ht sd i 1123 [] h := by
  obtain ⟨k, b, X, Y, c1, md', pl', sh', sx', sy', ln', hi', d1, d2, x27, inv, hk, ho, hl⟩ := st_scale (l := l) (G := G) hNT hI (G.xs (i + 1))
  exact ⟨Y, _, _, _, _, _, _, _, _, inv, hl, fun H0 r h' kk => law_scale hi9 hGL d1 d2 x27 inv.2.2.1 hk ho kk⟩
theorem nx_heights (hNT : NoTr l) (hw : 6 ≤ w ∧ w ≤ 20) (hht : 6 ≤ ht ∧ ht ≤ 20) (hs : sd ≤ 65536) (hGL : G.L < 2 ^ 31) (hi9 : i + 5 ≤ G.L) (hI : Inv w ht sd th md pl sh sx sy ln hi h) : Nx l G w ht sd i 1178 [] h := by
  obtain ⟨k, b, X, Y, c1, md', pl', sh', sx', sy', ln', hi', d1, d2, x27, inv, hk, ho, hl⟩ := st_heights (l := l) (G := G) hNT hw hht hI (G.xs (i + 1)) (G.xs (i + 2)) (G.xs (i + 3))
  exact ⟨Y, _, _, _, _, _, _, _, _, inv, hl, fun H0 r h' kk => law_heights hi9 hGL d1 d2 x27 inv.2.2.1 hk ho kk⟩
theorem nx_depth (hNT : NoTr l) (hw : 6 ≤ w ∧ w ≤ 20) (hht : 6 ≤ ht ∧ ht ≤ 20) (hs : sd ≤ 65536) (hGL : G.L < 2 ^ 31) (hi9 : i + 5 ≤ G.L) (hI : Inv w ht sd th md pl sh sx sy ln hi h) : Nx l G w ht sd i 1258 [] h := by
  obtain ⟨k, b, X, Y, c1, md', pl', sh', sx', sy', ln', hi', d1, d2, x27, inv, hk, ho, hl⟩ := st_depth (l := l) (G := G) hNT hw hht hI (G.xs (i + 1)) (G.xs (i + 2))
  exact ⟨Y, _, _, _, _, _, _, _, _, inv, hl, fun H0 r h' kk => law_depth hi9 hGL d1 d2 x27 inv.2.2.1 hk ho kk⟩
theorem nx_holes (hNT : NoTr l) (hw : 6 ≤ w ∧ w ≤ 20) (hht : 6 ≤ ht ∧ ht ≤ 20) (hs : sd ≤ 65536) (hGL : G.L < 2 ^ 31) (hi9 : i + 5 ≤ G.L) (hI : Inv w ht sd th md pl sh sx sy ln hi h) : Nx l G w ht sd i 1326 [] h := by
  obtain ⟨k, b, X, Y, c1, md', pl', sh', sx', sy', ln', hi', d1, d2, x27, inv, hk, ho, hl⟩ := st_holes (l := l) (G := G) hNT hw hht hI (G.xs (i + 1))
  exact ⟨Y, _, _, _, _, _, _, _, _, inv, hl, fun H0 r h' kk => law_holes hi9 hGL d1 d2 x27 inv.2.2.1 hk ho kk⟩
theorem nx_count (hNT : NoTr l) (hw : 6 ≤ w ∧ w ≤ 20) (hht : 6 ≤ ht ∧ ht ≤ 20) (hs : sd ≤ 65536) (hGL : G.L < 2 ^ 31) (hi9 : i + 5 ≤ G.L) (hI : Inv w ht sd th md pl sh sx sy ln hi h) : Nx l G w ht sd i 1382 [] h := by
  obtain ⟨k, b, X, Y, c1, md', pl', sh', sx', sy', ln', hi', d1, d2, x27, inv, hk, ho, hl⟩ := st_count (l := l) (G := G) hNT hI (G.xs (i + 1))
  exact ⟨Y, _, _, _, _, _, _, _, _, inv, hl, fun H0 r h' kk => law_count hi9 hGL d1 d2 x27 inv.2.2.1 hk ho kk⟩
theorem Nx_sw {tgt : Nat} {x : Int32} (kk : Nx l G w ht sd i tgt [] h) (hv : ∀ (H0 : List Ce) (r : Rs) (h' : List Ce), V l G k_La_law H0 tgt [(0, .ref 0), (1, .ref 1), (2, .ref 28), (3, .ref 46), (4, .int (nI i))] [] h r h' → V l G k_La_law H0 69 [(0, .ref 0), (1, .ref 1), (2, .ref 28), (3, .ref 46), (4, .int (nI i))] [.int x] h r h') : Nx l G w ht sd i 69 [.int x] h := by
  obtain ⟨Y, th', md', pl', sh', sx', sy', ln', hi', inv, hl, k9⟩ := kk
  exact ⟨Y, th', md', pl', sh', sx', sy', ln', hi', inv, hl, fun H0 r h' k8 => hv H0 r h' (k9 H0 r h' k8)⟩
theorem nx_all (hNT : NoTr l) (hw : 6 ≤ w ∧ w ≤ 20) (hht : 6 ≤ ht ∧ ht ≤ 20) (hs : sd ≤ 65536) (hGL : G.L < 2 ^ 31) (hi9 : i + 5 ≤ G.L) (hI : Inv w ht sd th md pl sh sx sy ln hi h) {j : Nat} (hj : j < 32) : Nx l G w ht sd i 69 [.int (nI j)] h := by
  rcases (show j = 0 ∨ j = 1 ∨ j = 2 ∨ j = 3 ∨ j = 4 ∨ j = 5 ∨ j = 6 ∨ j = 7 ∨ j = 8 ∨ j = 9 ∨ j = 10 ∨ j = 11 ∨ j = 12 ∨ j = 13 ∨ j = 14 ∨ j = 15 ∨ j = 16 ∨ j = 17 ∨ j = 18 ∨ 19 ≤ j by omega) with q | q | q | q | q | q | q | q | q | q | q | q | q | q | q | q | q | q | q | q
  · subst q
    exact Nx_sw (nx_pixel hNT hw hht hs hGL hi9 hI) (fun H0 r h' kk => V_swIn (off := 91) (tgt := 160) d_La_law_69 (by decide) (by decide) rfl (by decide) kk)
  · subst q
    exact Nx_sw (nx_match hNT hw hht hs hGL hi9 hI) (fun H0 r h' kk => V_swIn (off := 183) (tgt := 252) d_La_law_69 (by decide) (by decide) rfl (by decide) kk)
  · subst q
    exact Nx_sw (nx_found hNT hw hht hs hGL hi9 hI) (fun H0 r h' kk => V_swIn (off := 275) (tgt := 344) d_La_law_69 (by decide) (by decide) rfl (by decide) kk)
  · subst q
    exact Nx_sw (nx_place hNT hw hht hs hGL hi9 hI) (fun H0 r h' kk => V_swIn (off := 331) (tgt := 400) d_La_law_69 (by decide) (by decide) rfl (by decide) kk)
  · subst q
    exact Nx_sw (nx_seen hNT hw hht hs hGL hi9 hI) (fun H0 r h' kk => V_swIn (off := 375) (tgt := 444) d_La_law_69 (by decide) (by decide) rfl (by decide) kk)
  · subst q
    exact Nx_sw (nx_relative hNT hw hht hs hGL hi9 hI) (fun H0 r h' kk => V_swIn (off := 474) (tgt := 543) d_La_law_69 (by decide) (by decide) rfl (by decide) kk)
  · subst q
    exact Nx_sw (nx_shift hNT hw hht hs hGL hi9 hI) (fun H0 r h' kk => V_swIn (off := 566) (tgt := 635) d_La_law_69 (by decide) (by decide) rfl (by decide) kk)
  · subst q
    exact Nx_sw (nx_spare hNT hw hht hs hGL hi9 hI) (fun H0 r h' kk => V_swIn (off := 622) (tgt := 691) d_La_law_69 (by decide) (by decide) rfl (by decide) kk)
  · subst q
    exact Nx_sw (nx_run hNT hw hht hs hGL hi9 hI) (fun H0 r h' kk => V_swIn (off := 713) (tgt := 782) d_La_law_69 (by decide) (by decide) rfl (by decide) kk)
  · subst q
    exact Nx_sw (nx_sum hNT hw hht hs hGL hi9 hI) (fun H0 r h' kk => V_swIn (off := 769) (tgt := 838) d_La_law_69 (by decide) (by decide) rfl (by decide) kk)
  · subst q
    exact Nx_sw (nx_at hNT hw hht hs hGL hi9 hI) (fun H0 r h' kk => V_swIn (off := 783) (tgt := 852) d_La_law_69 (by decide) (by decide) rfl (by decide) kk)
  · subst q
    exact Nx_sw (nx_offset hNT hw hht hs hGL hi9 hI) (fun H0 r h' kk => V_swIn (off := 851) (tgt := 920) d_La_law_69 (by decide) (by decide) rfl (by decide) kk)
  · subst q
    exact Nx_sw (nx_miss hNT hw hht hs hGL hi9 hI) (fun H0 r h' kk => V_swIn (off := 919) (tgt := 988) d_La_law_69 (by decide) (by decide) rfl (by decide) kk)
  · subst q
    exact Nx_sw (nx_known hNT hw hht hs hGL hi9 hI) (fun H0 r h' kk => V_swIn (off := 974) (tgt := 1043) d_La_law_69 (by decide) (by decide) rfl (by decide) kk)
  · subst q
    exact Nx_sw (nx_scale hNT hw hht hs hGL hi9 hI) (fun H0 r h' kk => V_swIn (off := 1054) (tgt := 1123) d_La_law_69 (by decide) (by decide) rfl (by decide) kk)
  · subst q
    exact Nx_sw (nx_heights hNT hw hht hs hGL hi9 hI) (fun H0 r h' kk => V_swIn (off := 1109) (tgt := 1178) d_La_law_69 (by decide) (by decide) rfl (by decide) kk)
  · subst q
    exact Nx_sw (nx_depth hNT hw hht hs hGL hi9 hI) (fun H0 r h' kk => V_swIn (off := 1189) (tgt := 1258) d_La_law_69 (by decide) (by decide) rfl (by decide) kk)
  · subst q
    exact Nx_sw (nx_holes hNT hw hht hs hGL hi9 hI) (fun H0 r h' kk => V_swIn (off := 1257) (tgt := 1326) d_La_law_69 (by decide) (by decide) rfl (by decide) kk)
  · subst q
    exact Nx_sw (nx_count hNT hw hht hs hGL hi9 hI) (fun H0 r h' kk => V_swIn (off := 1313) (tgt := 1382) d_La_law_69 (by decide) (by decide) rfl (by decide) kk)
  · refine Nx_sw (tgt := 1438) ⟨h, _, _, _, _, _, _, _, _, hI, by omega, fun H0 r h' kk => kk⟩ (fun H0 r h' kk => V_swOut (tgt := 1438) d_La_law_69 (Or.inr ?_) (by decide) kk)
    rw [nI_toInt (by omega)]
    omega
theorem law_loop (hNT : NoTr l) (hw : 6 ≤ w ∧ w ≤ 20) (hht : 6 ≤ ht ∧ ht ≤ 20) (hs : sd ≤ 65536) (hGL : G.L ≤ 2563) : ∀ (m i : Nat) (h : List Ce) (th : Int32) (md : Bool) (pl : Nat) (sh : Bool) (sx sy : Int32) (ln : Nat) (hi : Bool), i ≤ 3000 → G.L < i + 5 * m + 5 → Inv w ht sd th md pl sh sx sy ln hi h → ∃ (h' : List Ce) (th' : Int32) (md' : Bool) (pl' : Nat) (sh' : Bool) (sx' sy' : Int32) (ln' : Nat) (hi' : Bool), Inv w ht sd th' md' pl' sh' sx' sy' ln' hi' h' ∧ h'.length ≤ h.length + m ∧ ∀ H0 : List Ce, V l G k_La_law H0 53 [(0, .ref 0), (1, .ref 1), (2, .ref 28), (3, .ref 46), (4, .int (nI i))] [] h (rz true) h' := by
  intro m
  induction m with
  | zero =>
    intro i h th md pl sh sx sy ln hi hi3 hm hI
    refine ⟨h, _, _, _, _, _, _, _, _, hI, by omega, fun H0 => ?_⟩
    refine V_iload d_La_law_53 rfl ?_
    refine V_aload_n d_La_law_55 rfl ?_
    refine V_slen d_La_law_56 ?_
    refine V_iconst (v := 5) d_La_law_57 (by decide) ?_
    refine V_isub d_La_law_58 ?_
    refine V_icmp_gt (tgt := 1444) d_La_law_59 (by decide) (fun _ => ?_) (fun c9 => absurd ((by rw [Int32.lt_iff_toInt_lt, show (5 : Int32) = nI 5 from rfl, pk_sub_toInt (by omega) (by decide), nI_toInt (by omega)]; omega : nI G.L - 5 < nI i)) c9)
    refine V_iconst (v := 1) d_La_law_1444 (by decide) ?_
    exact V_iret d_La_law_1445 rfl (by first | rfl | exact bI_n _)
  | succ m ih =>
    intro i h th md pl sh sx sy ln hi hi3 hm hI
    rcases Nat.lt_or_ge G.L (i + 5) with q | q
    · refine ⟨h, _, _, _, _, _, _, _, _, hI, by omega, fun H0 => ?_⟩
      refine V_iload d_La_law_53 rfl ?_
      refine V_aload_n d_La_law_55 rfl ?_
      refine V_slen d_La_law_56 ?_
      refine V_iconst (v := 5) d_La_law_57 (by decide) ?_
      refine V_isub d_La_law_58 ?_
      refine V_icmp_gt (tgt := 1444) d_La_law_59 (by decide) (fun _ => ?_) (fun c9 => absurd ((by rw [Int32.lt_iff_toInt_lt, show (5 : Int32) = nI 5 from rfl, pk_sub_toInt (by omega) (by decide), nI_toInt (by omega)]; omega : nI G.L - 5 < nI i)) c9)
      refine V_iconst (v := 1) d_La_law_1444 (by decide) ?_
      exact V_iret d_La_law_1445 rfl (by first | rfl | exact bI_n _)
    · obtain ⟨j, hj, ej⟩ := pk_andE (G.xs i) (m := 31) 5 rfl
      obtain ⟨Y, th1, md1, pl1, sh1, sx1, sy1, ln1, hi1, inv, hl, kk⟩ := nx_all (l := l) hNT hw hht hs (by omega) q hI (j := j) (by omega)
      obtain ⟨h', th', md', pl', sh', sx', sy', ln', hi', inv', hl', k9⟩ := ih (i + 5) Y th1 md1 pl1 sh1 sx1 sy1 ln1 hi1 (by omega) (by omega) inv
      refine ⟨h', th', md', pl', sh', sx', sy', ln', hi', inv', by omega, fun H0 => ?_⟩
      have k8 := k9 H0
      have t : V l G k_La_law H0 1438 [(0, .ref 0), (1, .ref 1), (2, .ref 28), (3, .ref 46), (4, .int (nI i))] [] Y (rz true) h' := by
        refine V_iinc d_La_law_1438 rfl rfl (by decide) rfl ?_
        refine V_goto (tgt := 53) d_La_law_1441 (by decide) ?_
        rw [show nI i + Int32.ofInt 5 = nI (i + 5) from nI_add i 5]
        exact k8
      have k7 := kk H0 _ _ t
      refine V_iload d_La_law_53 rfl ?_
      refine V_aload_n d_La_law_55 rfl ?_
      refine V_slen d_La_law_56 ?_
      refine V_iconst (v := 5) d_La_law_57 (by decide) ?_
      refine V_isub d_La_law_58 ?_
      refine V_icmp_gt (tgt := 1444) d_La_law_59 (by decide) (fun c9 => absurd c9 ((by rw [Int32.lt_iff_toInt_lt, show (5 : Int32) = nI 5 from rfl, pk_sub_toInt (by omega) (by decide), nI_toInt (by omega)]; omega : ¬ nI G.L - 5 < nI i))) (fun _ => ?_)
      refine V_aload_n d_La_law_62 rfl ?_
      refine V_iload d_La_law_63 rfl ?_
      refine V_sldN d_La_law_65 (Ix.of (show i < G.L by omega) (by omega)) ?_
      refine V_bipush (v := 31) d_La_law_66 (by decide) ?_
      refine V_iand d_La_law_68 ?_
      rw [ej]
      exact k7
end P55
