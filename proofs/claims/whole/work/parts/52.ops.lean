/-! the law: each call on a lease, both sides -/
theorem z_no {cnt : Nat} {rows : Nat → Option Nat} {x0 : Int32} (h3 : ∀ k, cnt ≤ k → k < 6 → rows k = none) (hno : ∀ j, j < cnt → x0 ≠ nI j) : zNo rows x0 := by
  intro j h hj ex er
  rcases Nat.lt_or_ge j cnt with h1 | h1
  · exact hno j h1 ex
  · rw [h3 j h1 hj] at er; cases er
def gd_review (x1 : Int32) : zGd := fun rt _ (T, P, py, R0, I, Pd, Wn, G) v z' => z' = zFol rt T (zSc (zA x1) py) (T, P, py, R0, I, Pd, Wn, G) ∧ ((-50) ≤ x1 ∧ x1 ≤ nI 100) ∧ (P < T ∧ ∀ i, P ≤ i → i < T → zSc (zA x1) py i ≤ 1000000) ∧ v = nI (zWr rt (zSc (zA x1) py) T (T - P))
def bd_review (x1 : Int32) : zBd := fun _ _ (T, P, py, R0, I, Pd, Wn, G) cd => (¬ ((-50) ≤ x1 ∧ x1 ≤ nI 100) ∧ cd = nI 2) ∨ (((-50) ≤ x1 ∧ x1 ≤ nI 100) ∧ ¬ (P < T ∧ ∀ i, P ≤ i → i < T → zSc (zA x1) py i ≤ 1000000) ∧ cd = nI 3)
theorem dt_review (x1 : Int32) : zDt (gd_review x1) (bd_review x1) := by
  rintro rt lf ⟨T, P, py, R0, I, Pd, Wn, G⟩ hZ
  refine ⟨?_, ?_, ?_, ?_, ?_⟩
  · rintro v z' cd ⟨-, h1, h2, -⟩ (⟨h3, -⟩ | ⟨-, h3, -⟩)
    · exact h3 h1
    · exact h3 h2
  · rintro cd cd' (⟨h1, e1⟩ | ⟨h1, h2, e1⟩) (⟨h3, e2⟩ | ⟨h3, h4, e2⟩)
    · exact e1.trans e2.symm
    · exact absurd h3 h1
    · exact absurd h1 h3
    · exact e1.trans e2.symm
  · rintro cd (⟨-, e1⟩ | ⟨-, -, e1⟩) <;> rw [e1] <;> decide
  · rintro v z1 v2 z2 ⟨e1, -, -, e2⟩ ⟨e3, -, -, e4⟩; exact ⟨e2.trans e4.symm, e1.trans e3.symm⟩
  · rintro v z' ⟨e1, h2, h3, -⟩
    rw [e1]
    have h1 := hZ
    exact zInv_fol hZ h1.1 h1.2.1 (fun j a b => h3.2 j a b)
set_option maxHeartbeats 4000000 in
theorem t_review (l : Launch) (hst : l.stackTraces = false) (g : zG) (oa ua ar cnt : Nat) (rows : Nat → Option Nat) (o : Nat → Int64) (j : Nat) (a : Nat × Nat × Nat) (rt lf : Nat) (z : zS) (q : zRaw) (x1 : Int32) (hj : j < 6) (hrow : rows j = some a.1) (hZ : zInv rt lf z) (hC : zCR rt z q) : zWi l yL_review wsL_review ({ frames := 8, cells := 4, slots := 24, locals := 180 } : Room) [.ref ua, .int (nI j), .int x1, .ref oa] g (zUs g oa ua ar o cnt rows ++ zLW g a rt lf z q) (fun r w => (∃ (v : Int32) (z' : zS) (q' : zRaw), r = nI 0 ∧ (gd_review x1) rt lf z v z' ∧ w = zUs g oa ua ar (vp_updL o 0 v.toInt64) cnt rows ++ zLW g a rt lf z' q' ∧ zCR rt z' q') ∨ ((bd_review x1) rt lf z r ∧ w = zUs g oa ua ar o cnt rows ++ zLW g a rt lf z q)) 4 24 := by
  obtain ⟨h, pa, da⟩ := a
  obtain ⟨T, P, py, R0, I, Pd, Wn, G⟩ := z
  obtain ⟨xI, xP, xW, xG, u, v0⟩ := q
  refine zWi.imp (w_review l g ua ar oa (nI cnt) ((ar, .inl (g.2.2.1, 6, .inr (.inr (.inr (.inr rows))))) :: zLW g (h, pa, da) rt lf (T, P, py, R0, I, Pd, Wn, G) (xI, xP, xW, xG, u, v0)) (nI j) x1 o _ _ (p_review l hst g ua ar cnt rows j h pa da rt lf T P R0 py I Pd Wn G xI xP xW xG u v0 x1 hj hrow hZ hC) (fun E h => h.elim (fun h => Or.inr (Or.inl h.1)) (fun h => Or.inr (Or.inr h.1)))) ?_
  rintro r w (⟨er, v, w1, ⟨e0, e3, e1, q', e2, hcr⟩, ew⟩ | ⟨ew, hh⟩)
  · exact Or.inl ⟨v, _, q', er, ⟨rfl, e0, e3, e1⟩, by rw [ew, e2]; rfl, hcr⟩
  · rcases hh with ⟨h1 | h1, e5⟩ | ⟨h1 | h1, e5⟩ | ⟨h1 | h1, e5⟩
    · exact absurd h1.1 (by decide)
    · exact absurd h1.1 (by decide)
    · exact Or.inr ⟨Or.inl ⟨h1.2, e5⟩, ew⟩
    · exact absurd h1.1 (by decide)
    · exact absurd h1.1 (by decide)
    · exact Or.inr ⟨Or.inr ⟨h1.2.1, h1.2.2, e5⟩, ew⟩
set_option maxHeartbeats 4000000 in
theorem n_review (l : Launch) (hst : l.stackTraces = false) (g : zG) (oa ua ar cnt : Nat) (rows : Nat → Option Nat) (o : Nat → Int64) (x0 : Int32) (x1 : Int32) (hno : zNo rows x0) : zWi l yL_review wsL_review ({ frames := 8, cells := 4, slots := 24, locals := 180 } : Room) [.ref ua, .int x0, .int x1, .ref oa] g (zUs g oa ua ar o cnt rows) (fun r w => r = nI 1 ∧ w = zUs g oa ua ar o cnt rows) 4 24 := by
  refine zWi.imp (w_review l g ua ar oa (nI cnt) [(ar, .inl (g.2.2.1, 6, .inr (.inr (.inr (.inr rows)))))] x0 x1 o _ _ (a_review l hst g ua ar cnt rows x0 x1 hno) (fun E h => Or.inl h)) ?_
  rintro r w (⟨er, v, w1, hf, ew⟩ | ⟨ew, hh⟩)
  · exact hf.elim
  · rcases hh with hh | hh | hh
    · exact ⟨hh.2, ew⟩
    · exact absurd hh.1 (by decide)
    · exact absurd hh.1 (by decide)
theorem C_review (l : Launch) (hst : l.stackTraces = false) (g : zG) (oa ua ar : Nat) (o : Nat → Int64) (S : zSt) (x0 : Int32) (x1 : Int32) (hI : zI S) : zWi l yL_review wsL_review ({ frames := 8, cells := 4, slots := 24, locals := 180 } : Room) [.ref ua, .int x0, .int x1, .ref oa] g (zWc g oa ua ar o S) (zPC g oa ua ar o S x0 (gd_review x1) (bd_review x1)) 4 24 := by
  obtain ⟨i1, i2, i3, i4, i5, i6, i7⟩ := hI
  exact z_lift (fun k hk ex => by subst ex; exact t_review l hst g oa ua ar S.1 S.2.1 o k _ _ _ _ _ x1 (Nat.lt_of_lt_of_le hk i1) (i2 k hk) (i4 k hk) (i5 k hk)) (fun hno => n_review l hst g oa ua ar S.1 S.2.1 o x0 x1 (z_no i3 hno))
set_option maxHeartbeats 4000000 in
theorem M_review (l : Launch) (g : zG) (mo : Nat) (ad : zAd) (th : Int32) (S : zSt) (x0 : Int32) (x1 : Int32) (hI : zI S) : zMi l yX2_review wsX2_review ({ frames := 4, cells := 0, slots := 0, locals := 110 } : Room) [.ref mo, .int x0, .int x1] g (zWm g mo ad th S.1 S.2.2.2.2.2.2.2) (zPM g mo ad S x0 (gd_review x1) (bd_review x1)) 0 0 := by
  obtain ⟨cnt, rows, aa, rr, ff, zz, qq, fY, fM, fA, fR, fL, fD, fH, fI, fW, fP, fG⟩ := S
  obtain ⟨i1, i2, i3, i4, i5, i6, i7⟩ := hI
  dsimp only at i1 i2 i3 i4 i5 i6 i7
  obtain ⟨b0, b1, b2, b3, b4, b5, b6, b7, b8, b9, b10⟩ := ad
  by_cases hex : ∃ k, k < cnt ∧ x0 = nI k
  · obtain ⟨k, hk, ex⟩ := hex
    subst ex
    have hz := i4 k hk
    have hm := i6 k hk
    generalize ez : zz k = z at hz hm
    obtain ⟨T, P, py, R0, I, Pd, Wn, G⟩ := z
    refine zMi.imp (r_review l g mo b0 b1 b2 b3 b4 b5 b6 b7 b8 b9 b10 cnt th fY fM fA fR fL fD fH fI fW fP fG k (rr k) (ff k) T P R0 py I Pd Wn G x1 hk i1 hz hm) ?_
    rintro q w (⟨h1, ew⟩ | ⟨h1, h2, ew⟩ | ⟨h1, h2, e1, F', ew, hmr, hsm⟩)
    · exact Or.inr (Or.inl ⟨k, _, hk, rfl, (by show (bd_review x1) (rr k) (ff k) (zz k) _; rw [ez]; exact Or.inl ⟨h1, rfl⟩), ew⟩)
    · exact Or.inr (Or.inl ⟨k, _, hk, rfl, (by show (bd_review x1) (rr k) (ff k) (zz k) _; rw [ez]; exact Or.inr ⟨h1, h2, rfl⟩), ew⟩)
    · exact Or.inl ⟨k, _, F', hk, rfl, (by show (gd_review x1) (rr k) (ff k) (zz k) q _; rw [ez]; exact ⟨rfl, h1, h2, e1⟩), ew, hmr, hsm⟩
  · have hno : ∀ j, j < cnt → x0 ≠ nI j := fun j hj ex => hex ⟨j, hj, ex⟩
    exact zMi.imp (q_review l g mo b0 b1 b2 b3 b4 b5 b6 b7 b8 b9 b10 cnt th fY fM fA fR fL fD fH fI fW fP fG x0 x1 i1 hno) (fun q w h => Or.inr (Or.inr ⟨hno, h⟩))

def gd_lengthen (x1 x2 : Int32) : zGd := fun rt _ (T, P, py, R0, I, Pd, Wn, G) v z' => z' = zFol rt (T + zN x1) (zPut T (zN x1) (zN x2) py) (T, P, py, R0, I, Pd, Wn, G) ∧ ((nI 1 ≤ x1 ∧ x1 ≤ nI 36) ∧ (nI 0 ≤ x2 ∧ x2 ≤ nI 10000)) ∧ (P < T ∧ T + zN x1 ≤ 120) ∧ v = nI (zWr rt (zPut T (zN x1) (zN x2) py) (T + zN x1) (T + zN x1 - P))
def bd_lengthen (x1 x2 : Int32) : zBd := fun _ _ (T, P, py, R0, I, Pd, Wn, G) cd => (¬ ((nI 1 ≤ x1 ∧ x1 ≤ nI 36) ∧ (nI 0 ≤ x2 ∧ x2 ≤ nI 10000)) ∧ cd = nI 2) ∨ (((nI 1 ≤ x1 ∧ x1 ≤ nI 36) ∧ (nI 0 ≤ x2 ∧ x2 ≤ nI 10000)) ∧ ¬ (P < T ∧ T + zN x1 ≤ 120) ∧ cd = nI 3)
theorem dt_lengthen (x1 x2 : Int32) : zDt (gd_lengthen x1 x2) (bd_lengthen x1 x2) := by
  rintro rt lf ⟨T, P, py, R0, I, Pd, Wn, G⟩ hZ
  refine ⟨?_, ?_, ?_, ?_, ?_⟩
  · rintro v z' cd ⟨-, h1, h2, -⟩ (⟨h3, -⟩ | ⟨-, h3, -⟩)
    · exact h3 h1
    · exact h3 h2
  · rintro cd cd' (⟨h1, e1⟩ | ⟨h1, h2, e1⟩) (⟨h3, e2⟩ | ⟨h3, h4, e2⟩)
    · exact e1.trans e2.symm
    · exact absurd h3 h1
    · exact absurd h1 h3
    · exact e1.trans e2.symm
  · rintro cd (⟨-, e1⟩ | ⟨-, -, e1⟩) <;> rw [e1] <;> decide
  · rintro v z1 v2 z2 ⟨e1, -, -, e2⟩ ⟨e3, -, -, e4⟩; exact ⟨e2.trans e4.symm, e1.trans e3.symm⟩
  · rintro v z' ⟨e1, h2, h3, -⟩
    rw [e1]
    have h1 := hZ
    obtain ⟨e1, h11, h12⟩ := zN_in (by decide) (by decide) h2.1
    obtain ⟨e2, h21, h22⟩ := zN_in (by decide) (by decide) h2.2
    refine zInv_fol hZ h3.2 (by omega) (fun j a b => ?_)
    unfold zPut
    split
    · omega
    · exact h1.2.2.2.2.1 j a (by omega)
set_option maxHeartbeats 4000000 in
theorem t_lengthen (l : Launch) (hst : l.stackTraces = false) (g : zG) (oa ua ar cnt : Nat) (rows : Nat → Option Nat) (o : Nat → Int64) (j : Nat) (a : Nat × Nat × Nat) (rt lf : Nat) (z : zS) (q : zRaw) (x1 x2 : Int32) (hj : j < 6) (hrow : rows j = some a.1) (hZ : zInv rt lf z) (hC : zCR rt z q) : zWi l yL_lengthen wsL_lengthen ({ frames := 8, cells := 5, slots := 30, locals := 180 } : Room) [.ref ua, .int (nI j), .int x1, .int x2, .ref oa] g (zUs g oa ua ar o cnt rows ++ zLW g a rt lf z q) (fun r w => (∃ (v : Int32) (z' : zS) (q' : zRaw), r = nI 0 ∧ (gd_lengthen x1 x2) rt lf z v z' ∧ w = zUs g oa ua ar (vp_updL o 0 v.toInt64) cnt rows ++ zLW g a rt lf z' q' ∧ zCR rt z' q') ∨ ((bd_lengthen x1 x2) rt lf z r ∧ w = zUs g oa ua ar o cnt rows ++ zLW g a rt lf z q)) 5 30 := by
  obtain ⟨h, pa, da⟩ := a
  obtain ⟨T, P, py, R0, I, Pd, Wn, G⟩ := z
  obtain ⟨xI, xP, xW, xG, u, v0⟩ := q
  refine zWi.imp (w_lengthen l g ua ar oa (nI cnt) ((ar, .inl (g.2.2.1, 6, .inr (.inr (.inr (.inr rows))))) :: zLW g (h, pa, da) rt lf (T, P, py, R0, I, Pd, Wn, G) (xI, xP, xW, xG, u, v0)) (nI j) x1 x2 o _ _ (p_lengthen l hst g ua ar cnt rows j h pa da rt lf T P R0 py I Pd Wn G xI xP xW xG u v0 x1 x2 hj hrow hZ hC) (fun E h => h.elim (fun h => Or.inr (Or.inl h.1)) (fun h => Or.inr (Or.inr h.1)))) ?_
  rintro r w (⟨er, v, w1, ⟨e0, e3, e1, q', e2, hcr⟩, ew⟩ | ⟨ew, hh⟩)
  · exact Or.inl ⟨v, _, q', er, ⟨rfl, e0, e3, e1⟩, by rw [ew, e2]; rfl, hcr⟩
  · rcases hh with ⟨h1 | h1, e5⟩ | ⟨h1 | h1, e5⟩ | ⟨h1 | h1, e5⟩
    · exact absurd h1.1 (by decide)
    · exact absurd h1.1 (by decide)
    · exact Or.inr ⟨Or.inl ⟨h1.2, e5⟩, ew⟩
    · exact absurd h1.1 (by decide)
    · exact absurd h1.1 (by decide)
    · exact Or.inr ⟨Or.inr ⟨h1.2.1, h1.2.2, e5⟩, ew⟩
set_option maxHeartbeats 4000000 in
theorem n_lengthen (l : Launch) (hst : l.stackTraces = false) (g : zG) (oa ua ar cnt : Nat) (rows : Nat → Option Nat) (o : Nat → Int64) (x0 : Int32) (x1 x2 : Int32) (hno : zNo rows x0) : zWi l yL_lengthen wsL_lengthen ({ frames := 8, cells := 5, slots := 30, locals := 180 } : Room) [.ref ua, .int x0, .int x1, .int x2, .ref oa] g (zUs g oa ua ar o cnt rows) (fun r w => r = nI 1 ∧ w = zUs g oa ua ar o cnt rows) 5 30 := by
  refine zWi.imp (w_lengthen l g ua ar oa (nI cnt) [(ar, .inl (g.2.2.1, 6, .inr (.inr (.inr (.inr rows)))))] x0 x1 x2 o _ _ (a_lengthen l hst g ua ar cnt rows x0 x1 x2 hno) (fun E h => Or.inl h)) ?_
  rintro r w (⟨er, v, w1, hf, ew⟩ | ⟨ew, hh⟩)
  · exact hf.elim
  · rcases hh with hh | hh | hh
    · exact ⟨hh.2, ew⟩
    · exact absurd hh.1 (by decide)
    · exact absurd hh.1 (by decide)
theorem C_lengthen (l : Launch) (hst : l.stackTraces = false) (g : zG) (oa ua ar : Nat) (o : Nat → Int64) (S : zSt) (x0 : Int32) (x1 x2 : Int32) (hI : zI S) : zWi l yL_lengthen wsL_lengthen ({ frames := 8, cells := 5, slots := 30, locals := 180 } : Room) [.ref ua, .int x0, .int x1, .int x2, .ref oa] g (zWc g oa ua ar o S) (zPC g oa ua ar o S x0 (gd_lengthen x1 x2) (bd_lengthen x1 x2)) 5 30 := by
  obtain ⟨i1, i2, i3, i4, i5, i6, i7⟩ := hI
  exact z_lift (fun k hk ex => by subst ex; exact t_lengthen l hst g oa ua ar S.1 S.2.1 o k _ _ _ _ _ x1 x2 (Nat.lt_of_lt_of_le hk i1) (i2 k hk) (i4 k hk) (i5 k hk)) (fun hno => n_lengthen l hst g oa ua ar S.1 S.2.1 o x0 x1 x2 (z_no i3 hno))
set_option maxHeartbeats 4000000 in
theorem M_lengthen (l : Launch) (g : zG) (mo : Nat) (ad : zAd) (th : Int32) (S : zSt) (x0 : Int32) (x1 x2 : Int32) (hI : zI S) : zMi l yX2_lengthen wsX2_lengthen ({ frames := 4, cells := 0, slots := 0, locals := 110 } : Room) [.ref mo, .int x0, .int x1, .int x2] g (zWm g mo ad th S.1 S.2.2.2.2.2.2.2) (zPM g mo ad S x0 (gd_lengthen x1 x2) (bd_lengthen x1 x2)) 0 0 := by
  obtain ⟨cnt, rows, aa, rr, ff, zz, qq, fY, fM, fA, fR, fL, fD, fH, fI, fW, fP, fG⟩ := S
  obtain ⟨i1, i2, i3, i4, i5, i6, i7⟩ := hI
  dsimp only at i1 i2 i3 i4 i5 i6 i7
  obtain ⟨b0, b1, b2, b3, b4, b5, b6, b7, b8, b9, b10⟩ := ad
  by_cases hex : ∃ k, k < cnt ∧ x0 = nI k
  · obtain ⟨k, hk, ex⟩ := hex
    subst ex
    have hz := i4 k hk
    have hm := i6 k hk
    generalize ez : zz k = z at hz hm
    obtain ⟨T, P, py, R0, I, Pd, Wn, G⟩ := z
    refine zMi.imp (r_lengthen l g mo b0 b1 b2 b3 b4 b5 b6 b7 b8 b9 b10 cnt th fY fM fA fR fL fD fH fI fW fP fG k (rr k) (ff k) T P R0 py I Pd Wn G x1 x2 hk i1 hz hm) ?_
    rintro q w (⟨h1, ew⟩ | ⟨h1, h2, ew⟩ | ⟨h1, h2, e1, F', ew, hmr, hsm⟩)
    · exact Or.inr (Or.inl ⟨k, _, hk, rfl, (by show (bd_lengthen x1 x2) (rr k) (ff k) (zz k) _; rw [ez]; exact Or.inl ⟨h1, rfl⟩), ew⟩)
    · exact Or.inr (Or.inl ⟨k, _, hk, rfl, (by show (bd_lengthen x1 x2) (rr k) (ff k) (zz k) _; rw [ez]; exact Or.inr ⟨h1, h2, rfl⟩), ew⟩)
    · exact Or.inl ⟨k, _, F', hk, rfl, (by show (gd_lengthen x1 x2) (rr k) (ff k) (zz k) q _; rw [ez]; exact ⟨rfl, h1, h2, e1⟩), ew, hmr, hsm⟩
  · have hno : ∀ j, j < cnt → x0 ≠ nI j := fun j hj ex => hex ⟨j, hj, ex⟩
    exact zMi.imp (q_lengthen l g mo b0 b1 b2 b3 b4 b5 b6 b7 b8 b9 b10 cnt th fY fM fA fR fL fD fH fI fW fP fG x0 x1 x2 i1 hno) (fun q w h => Or.inr (Or.inr ⟨hno, h⟩))

def gd_shorten (x1 : Int32) : zGd := fun rt _ (T, P, py, R0, I, Pd, Wn, G) v z' => z' = zGiv rt (T - zN x1) py (R0 * (T - zN x1 - P) / (T - P)) (T, P, py, R0, I, Pd, Wn, G) ∧ (nI 1 ≤ x1 ∧ x1 ≤ nI 60) ∧ (zN x1 < T - P) ∧ v = zGn rt (T - zN x1) py (R0 * (T - zN x1 - P) / (T - P)) (T, P, py, R0, I, Pd, Wn, G)
def bd_shorten (x1 : Int32) : zBd := fun _ _ (T, P, py, R0, I, Pd, Wn, G) cd => (¬ (nI 1 ≤ x1 ∧ x1 ≤ nI 60) ∧ cd = nI 2) ∨ ((nI 1 ≤ x1 ∧ x1 ≤ nI 60) ∧ ¬ (zN x1 < T - P) ∧ cd = nI 3)
theorem dt_shorten (x1 : Int32) : zDt (gd_shorten x1) (bd_shorten x1) := by
  rintro rt lf ⟨T, P, py, R0, I, Pd, Wn, G⟩ hZ
  refine ⟨?_, ?_, ?_, ?_, ?_⟩
  · rintro v z' cd ⟨-, h1, h2, -⟩ (⟨h3, -⟩ | ⟨-, h3, -⟩)
    · exact h3 h1
    · exact h3 h2
  · rintro cd cd' (⟨h1, e1⟩ | ⟨h1, h2, e1⟩) (⟨h3, e2⟩ | ⟨h3, h4, e2⟩)
    · exact e1.trans e2.symm
    · exact absurd h3 h1
    · exact absurd h1 h3
    · exact e1.trans e2.symm
  · rintro cd (⟨-, e1⟩ | ⟨-, -, e1⟩) <;> rw [e1] <;> decide
  · rintro v z1 v2 z2 ⟨e1, -, -, e2⟩ ⟨e3, -, -, e4⟩; exact ⟨e2.trans e4.symm, e1.trans e3.symm⟩
  · rintro v z' ⟨e1, h2, h3, -⟩
    rw [e1]
    have h1 := hZ
    exact zInv_off hZ h3
set_option maxHeartbeats 4000000 in
theorem t_shorten (l : Launch) (hst : l.stackTraces = false) (g : zG) (oa ua ar cnt : Nat) (rows : Nat → Option Nat) (o : Nat → Int64) (j : Nat) (a : Nat × Nat × Nat) (rt lf : Nat) (z : zS) (q : zRaw) (x1 : Int32) (hj : j < 6) (hrow : rows j = some a.1) (hZ : zInv rt lf z) (hC : zCR rt z q) : zWi l yL_shorten wsL_shorten ({ frames := 8, cells := 3, slots := 18, locals := 180 } : Room) [.ref ua, .int (nI j), .int x1, .ref oa] g (zUs g oa ua ar o cnt rows ++ zLW g a rt lf z q) (fun r w => (∃ (v : Int32) (z' : zS) (q' : zRaw), r = nI 0 ∧ (gd_shorten x1) rt lf z v z' ∧ w = zUs g oa ua ar (vp_updL o 0 v.toInt64) cnt rows ++ zLW g a rt lf z' q' ∧ zCR rt z' q') ∨ ((bd_shorten x1) rt lf z r ∧ w = zUs g oa ua ar o cnt rows ++ zLW g a rt lf z q)) 3 18 := by
  obtain ⟨h, pa, da⟩ := a
  obtain ⟨T, P, py, R0, I, Pd, Wn, G⟩ := z
  obtain ⟨xI, xP, xW, xG, u, v0⟩ := q
  refine zWi.imp (w_shorten l g ua ar oa (nI cnt) ((ar, .inl (g.2.2.1, 6, .inr (.inr (.inr (.inr rows))))) :: zLW g (h, pa, da) rt lf (T, P, py, R0, I, Pd, Wn, G) (xI, xP, xW, xG, u, v0)) (nI j) x1 o _ _ (p_shorten l hst g ua ar cnt rows j h pa da rt lf T P R0 py I Pd Wn G xI xP xW xG u v0 x1 hj hrow hZ hC) (fun E h => h.elim (fun h => Or.inr (Or.inl h.1)) (fun h => Or.inr (Or.inr h.1)))) ?_
  rintro r w (⟨er, v, w1, ⟨e0, e3, e1, q', e2, hcr⟩, ew⟩ | ⟨ew, hh⟩)
  · exact Or.inl ⟨v, _, q', er, ⟨rfl, e0, e3, e1⟩, by rw [ew, e2]; rfl, hcr⟩
  · rcases hh with ⟨h1 | h1, e5⟩ | ⟨h1 | h1, e5⟩ | ⟨h1 | h1, e5⟩
    · exact absurd h1.1 (by decide)
    · exact absurd h1.1 (by decide)
    · exact Or.inr ⟨Or.inl ⟨h1.2, e5⟩, ew⟩
    · exact absurd h1.1 (by decide)
    · exact absurd h1.1 (by decide)
    · exact Or.inr ⟨Or.inr ⟨h1.2.1, h1.2.2, e5⟩, ew⟩
set_option maxHeartbeats 4000000 in
theorem n_shorten (l : Launch) (hst : l.stackTraces = false) (g : zG) (oa ua ar cnt : Nat) (rows : Nat → Option Nat) (o : Nat → Int64) (x0 : Int32) (x1 : Int32) (hno : zNo rows x0) : zWi l yL_shorten wsL_shorten ({ frames := 8, cells := 3, slots := 18, locals := 180 } : Room) [.ref ua, .int x0, .int x1, .ref oa] g (zUs g oa ua ar o cnt rows) (fun r w => r = nI 1 ∧ w = zUs g oa ua ar o cnt rows) 3 18 := by
  refine zWi.imp (w_shorten l g ua ar oa (nI cnt) [(ar, .inl (g.2.2.1, 6, .inr (.inr (.inr (.inr rows)))))] x0 x1 o _ _ (a_shorten l hst g ua ar cnt rows x0 x1 hno) (fun E h => Or.inl h)) ?_
  rintro r w (⟨er, v, w1, hf, ew⟩ | ⟨ew, hh⟩)
  · exact hf.elim
  · rcases hh with hh | hh | hh
    · exact ⟨hh.2, ew⟩
    · exact absurd hh.1 (by decide)
    · exact absurd hh.1 (by decide)
theorem C_shorten (l : Launch) (hst : l.stackTraces = false) (g : zG) (oa ua ar : Nat) (o : Nat → Int64) (S : zSt) (x0 : Int32) (x1 : Int32) (hI : zI S) : zWi l yL_shorten wsL_shorten ({ frames := 8, cells := 3, slots := 18, locals := 180 } : Room) [.ref ua, .int x0, .int x1, .ref oa] g (zWc g oa ua ar o S) (zPC g oa ua ar o S x0 (gd_shorten x1) (bd_shorten x1)) 3 18 := by
  obtain ⟨i1, i2, i3, i4, i5, i6, i7⟩ := hI
  exact z_lift (fun k hk ex => by subst ex; exact t_shorten l hst g oa ua ar S.1 S.2.1 o k _ _ _ _ _ x1 (Nat.lt_of_lt_of_le hk i1) (i2 k hk) (i4 k hk) (i5 k hk)) (fun hno => n_shorten l hst g oa ua ar S.1 S.2.1 o x0 x1 (z_no i3 hno))
set_option maxHeartbeats 4000000 in
theorem M_shorten (l : Launch) (g : zG) (mo : Nat) (ad : zAd) (th : Int32) (S : zSt) (x0 : Int32) (x1 : Int32) (hI : zI S) : zMi l yX2_shorten wsX2_shorten ({ frames := 4, cells := 0, slots := 0, locals := 110 } : Room) [.ref mo, .int x0, .int x1] g (zWm g mo ad th S.1 S.2.2.2.2.2.2.2) (zPM g mo ad S x0 (gd_shorten x1) (bd_shorten x1)) 0 0 := by
  obtain ⟨cnt, rows, aa, rr, ff, zz, qq, fY, fM, fA, fR, fL, fD, fH, fI, fW, fP, fG⟩ := S
  obtain ⟨i1, i2, i3, i4, i5, i6, i7⟩ := hI
  dsimp only at i1 i2 i3 i4 i5 i6 i7
  obtain ⟨b0, b1, b2, b3, b4, b5, b6, b7, b8, b9, b10⟩ := ad
  by_cases hex : ∃ k, k < cnt ∧ x0 = nI k
  · obtain ⟨k, hk, ex⟩ := hex
    subst ex
    have hz := i4 k hk
    have hm := i6 k hk
    generalize ez : zz k = z at hz hm
    obtain ⟨T, P, py, R0, I, Pd, Wn, G⟩ := z
    refine zMi.imp (r_shorten l g mo b0 b1 b2 b3 b4 b5 b6 b7 b8 b9 b10 cnt th fY fM fA fR fL fD fH fI fW fP fG k (rr k) (ff k) T P R0 py I Pd Wn G x1 hk i1 hz hm) ?_
    rintro q w (⟨h1, ew⟩ | ⟨h1, h2, ew⟩ | ⟨h1, h2, e1, F', ew, hmr, hsm⟩)
    · exact Or.inr (Or.inl ⟨k, _, hk, rfl, (by show (bd_shorten x1) (rr k) (ff k) (zz k) _; rw [ez]; exact Or.inl ⟨h1, rfl⟩), ew⟩)
    · exact Or.inr (Or.inl ⟨k, _, hk, rfl, (by show (bd_shorten x1) (rr k) (ff k) (zz k) _; rw [ez]; exact Or.inr ⟨h1, h2, rfl⟩), ew⟩)
    · exact Or.inl ⟨k, _, F', hk, rfl, (by show (gd_shorten x1) (rr k) (ff k) (zz k) q _; rw [ez]; exact ⟨rfl, h1, h2, e1⟩), ew, hmr, hsm⟩
  · have hno : ∀ j, j < cnt → x0 ≠ nI j := fun j hj ex => hex ⟨j, hj, ex⟩
    exact zMi.imp (q_shorten l g mo b0 b1 b2 b3 b4 b5 b6 b7 b8 b9 b10 cnt th fY fM fA fR fL fD fH fI fW fP fG x0 x1 i1 hno) (fun q w h => Or.inr (Or.inr ⟨hno, h⟩))

def gd_cut (x1 : Int32) : zGd := fun rt _ (T, P, py, R0, I, Pd, Wn, G) v z' => z' = zGiv rt T (zSc (100 - zN x1) py) (R0 * (100 - zN x1) / 100) (T, P, py, R0, I, Pd, Wn, G) ∧ (nI 1 ≤ x1 ∧ x1 ≤ nI 99) ∧ (P < T) ∧ v = zGn rt T (zSc (100 - zN x1) py) (R0 * (100 - zN x1) / 100) (T, P, py, R0, I, Pd, Wn, G)
def bd_cut (x1 : Int32) : zBd := fun _ _ (T, P, py, R0, I, Pd, Wn, G) cd => (¬ (nI 1 ≤ x1 ∧ x1 ≤ nI 99) ∧ cd = nI 2) ∨ ((nI 1 ≤ x1 ∧ x1 ≤ nI 99) ∧ ¬ (P < T) ∧ cd = nI 3)
theorem dt_cut (x1 : Int32) : zDt (gd_cut x1) (bd_cut x1) := by
  rintro rt lf ⟨T, P, py, R0, I, Pd, Wn, G⟩ hZ
  refine ⟨?_, ?_, ?_, ?_, ?_⟩
  · rintro v z' cd ⟨-, h1, h2, -⟩ (⟨h3, -⟩ | ⟨-, h3, -⟩)
    · exact h3 h1
    · exact h3 h2
  · rintro cd cd' (⟨h1, e1⟩ | ⟨h1, h2, e1⟩) (⟨h3, e2⟩ | ⟨h3, h4, e2⟩)
    · exact e1.trans e2.symm
    · exact absurd h3 h1
    · exact absurd h1 h3
    · exact e1.trans e2.symm
  · rintro cd (⟨-, e1⟩ | ⟨-, -, e1⟩) <;> rw [e1] <;> decide
  · rintro v z1 v2 z2 ⟨e1, -, -, e2⟩ ⟨e3, -, -, e4⟩; exact ⟨e2.trans e4.symm, e1.trans e3.symm⟩
  · rintro v z' ⟨e1, h2, h3, -⟩
    rw [e1]
    have h1 := hZ
    obtain ⟨e1, h11, h12⟩ := zN_in (by decide) (by decide) h2
    exact zInv_cut hZ (by omega)
set_option maxHeartbeats 4000000 in
theorem t_cut (l : Launch) (hst : l.stackTraces = false) (g : zG) (oa ua ar cnt : Nat) (rows : Nat → Option Nat) (o : Nat → Int64) (j : Nat) (a : Nat × Nat × Nat) (rt lf : Nat) (z : zS) (q : zRaw) (x1 : Int32) (hj : j < 6) (hrow : rows j = some a.1) (hZ : zInv rt lf z) (hC : zCR rt z q) : zWi l yL_cut wsL_cut ({ frames := 8, cells := 3, slots := 18, locals := 180 } : Room) [.ref ua, .int (nI j), .int x1, .ref oa] g (zUs g oa ua ar o cnt rows ++ zLW g a rt lf z q) (fun r w => (∃ (v : Int32) (z' : zS) (q' : zRaw), r = nI 0 ∧ (gd_cut x1) rt lf z v z' ∧ w = zUs g oa ua ar (vp_updL o 0 v.toInt64) cnt rows ++ zLW g a rt lf z' q' ∧ zCR rt z' q') ∨ ((bd_cut x1) rt lf z r ∧ w = zUs g oa ua ar o cnt rows ++ zLW g a rt lf z q)) 3 18 := by
  obtain ⟨h, pa, da⟩ := a
  obtain ⟨T, P, py, R0, I, Pd, Wn, G⟩ := z
  obtain ⟨xI, xP, xW, xG, u, v0⟩ := q
  refine zWi.imp (w_cut l g ua ar oa (nI cnt) ((ar, .inl (g.2.2.1, 6, .inr (.inr (.inr (.inr rows))))) :: zLW g (h, pa, da) rt lf (T, P, py, R0, I, Pd, Wn, G) (xI, xP, xW, xG, u, v0)) (nI j) x1 o _ _ (p_cut l hst g ua ar cnt rows j h pa da rt lf T P R0 py I Pd Wn G xI xP xW xG u v0 x1 hj hrow hZ hC) (fun E h => h.elim (fun h => Or.inr (Or.inl h.1)) (fun h => Or.inr (Or.inr h.1)))) ?_
  rintro r w (⟨er, v, w1, ⟨e0, e3, e1, q', e2, hcr⟩, ew⟩ | ⟨ew, hh⟩)
  · exact Or.inl ⟨v, _, q', er, ⟨rfl, e0, e3, e1⟩, by rw [ew, e2]; rfl, hcr⟩
  · rcases hh with ⟨h1 | h1, e5⟩ | ⟨h1 | h1, e5⟩ | ⟨h1 | h1, e5⟩
    · exact absurd h1.1 (by decide)
    · exact absurd h1.1 (by decide)
    · exact Or.inr ⟨Or.inl ⟨h1.2, e5⟩, ew⟩
    · exact absurd h1.1 (by decide)
    · exact absurd h1.1 (by decide)
    · exact Or.inr ⟨Or.inr ⟨h1.2.1, h1.2.2, e5⟩, ew⟩
set_option maxHeartbeats 4000000 in
theorem n_cut (l : Launch) (hst : l.stackTraces = false) (g : zG) (oa ua ar cnt : Nat) (rows : Nat → Option Nat) (o : Nat → Int64) (x0 : Int32) (x1 : Int32) (hno : zNo rows x0) : zWi l yL_cut wsL_cut ({ frames := 8, cells := 3, slots := 18, locals := 180 } : Room) [.ref ua, .int x0, .int x1, .ref oa] g (zUs g oa ua ar o cnt rows) (fun r w => r = nI 1 ∧ w = zUs g oa ua ar o cnt rows) 3 18 := by
  refine zWi.imp (w_cut l g ua ar oa (nI cnt) [(ar, .inl (g.2.2.1, 6, .inr (.inr (.inr (.inr rows)))))] x0 x1 o _ _ (a_cut l hst g ua ar cnt rows x0 x1 hno) (fun E h => Or.inl h)) ?_
  rintro r w (⟨er, v, w1, hf, ew⟩ | ⟨ew, hh⟩)
  · exact hf.elim
  · rcases hh with hh | hh | hh
    · exact ⟨hh.2, ew⟩
    · exact absurd hh.1 (by decide)
    · exact absurd hh.1 (by decide)
theorem C_cut (l : Launch) (hst : l.stackTraces = false) (g : zG) (oa ua ar : Nat) (o : Nat → Int64) (S : zSt) (x0 : Int32) (x1 : Int32) (hI : zI S) : zWi l yL_cut wsL_cut ({ frames := 8, cells := 3, slots := 18, locals := 180 } : Room) [.ref ua, .int x0, .int x1, .ref oa] g (zWc g oa ua ar o S) (zPC g oa ua ar o S x0 (gd_cut x1) (bd_cut x1)) 3 18 := by
  obtain ⟨i1, i2, i3, i4, i5, i6, i7⟩ := hI
  exact z_lift (fun k hk ex => by subst ex; exact t_cut l hst g oa ua ar S.1 S.2.1 o k _ _ _ _ _ x1 (Nat.lt_of_lt_of_le hk i1) (i2 k hk) (i4 k hk) (i5 k hk)) (fun hno => n_cut l hst g oa ua ar S.1 S.2.1 o x0 x1 (z_no i3 hno))
set_option maxHeartbeats 4000000 in
theorem M_cut (l : Launch) (g : zG) (mo : Nat) (ad : zAd) (th : Int32) (S : zSt) (x0 : Int32) (x1 : Int32) (hI : zI S) : zMi l yX2_cut wsX2_cut ({ frames := 4, cells := 0, slots := 0, locals := 110 } : Room) [.ref mo, .int x0, .int x1] g (zWm g mo ad th S.1 S.2.2.2.2.2.2.2) (zPM g mo ad S x0 (gd_cut x1) (bd_cut x1)) 0 0 := by
  obtain ⟨cnt, rows, aa, rr, ff, zz, qq, fY, fM, fA, fR, fL, fD, fH, fI, fW, fP, fG⟩ := S
  obtain ⟨i1, i2, i3, i4, i5, i6, i7⟩ := hI
  dsimp only at i1 i2 i3 i4 i5 i6 i7
  obtain ⟨b0, b1, b2, b3, b4, b5, b6, b7, b8, b9, b10⟩ := ad
  by_cases hex : ∃ k, k < cnt ∧ x0 = nI k
  · obtain ⟨k, hk, ex⟩ := hex
    subst ex
    have hz := i4 k hk
    have hm := i6 k hk
    generalize ez : zz k = z at hz hm
    obtain ⟨T, P, py, R0, I, Pd, Wn, G⟩ := z
    refine zMi.imp (r_cut l g mo b0 b1 b2 b3 b4 b5 b6 b7 b8 b9 b10 cnt th fY fM fA fR fL fD fH fI fW fP fG k (rr k) (ff k) T P R0 py I Pd Wn G x1 hk i1 hz hm) ?_
    rintro q w (⟨h1, ew⟩ | ⟨h1, h2, ew⟩ | ⟨h1, h2, e1, F', ew, hmr, hsm⟩)
    · exact Or.inr (Or.inl ⟨k, _, hk, rfl, (by show (bd_cut x1) (rr k) (ff k) (zz k) _; rw [ez]; exact Or.inl ⟨h1, rfl⟩), ew⟩)
    · exact Or.inr (Or.inl ⟨k, _, hk, rfl, (by show (bd_cut x1) (rr k) (ff k) (zz k) _; rw [ez]; exact Or.inr ⟨h1, h2, rfl⟩), ew⟩)
    · exact Or.inl ⟨k, _, F', hk, rfl, (by show (gd_cut x1) (rr k) (ff k) (zz k) q _; rw [ez]; exact ⟨rfl, h1, h2, e1⟩), ew, hmr, hsm⟩
  · have hno : ∀ j, j < cnt → x0 ≠ nI j := fun j hj ex => hex ⟨j, hj, ex⟩
    exact zMi.imp (q_cut l g mo b0 b1 b2 b3 b4 b5 b6 b7 b8 b9 b10 cnt th fY fM fA fR fL fD fH fI fW fP fG x0 x1 i1 hno) (fun q w h => Or.inr (Or.inr ⟨hno, h⟩))

def gd_toCome : zGd := fun rt _ (T, P, py, R0, I, Pd, Wn, G) v z' => z' = (T, P, py, R0, I, Pd, Wn, G) ∧ v = nI (T - P)
def bd_toCome : zBd := fun _ _ _ _ => False
theorem dt_toCome : zDt gd_toCome bd_toCome := by
  rintro rt lf ⟨T, P, py, R0, I, Pd, Wn, G⟩ hZ
  refine ⟨fun _ _ _ _ h => h, fun _ _ h => h.elim, fun _ h => h.elim, ?_, ?_⟩
  · rintro v z1 v2 z2 ⟨e1, e2⟩ ⟨e3, e4⟩; exact ⟨e2.trans e4.symm, e1.trans e3.symm⟩
  · rintro v z' ⟨e1, e2⟩; rw [e1]; exact hZ
set_option maxHeartbeats 4000000 in
theorem t_toCome (l : Launch) (hst : l.stackTraces = false) (g : zG) (oa ua ar cnt : Nat) (rows : Nat → Option Nat) (o : Nat → Int64) (j : Nat) (a : Nat × Nat × Nat) (rt lf : Nat) (z : zS) (q : zRaw) (hj : j < 6) (hrow : rows j = some a.1) (hZ : zInv rt lf z) (hC : zCR rt z q) : zWi l yL_toCome wsL_toCome ({ frames := 8, cells := 1, slots := 6, locals := 180 } : Room) [.ref ua, .int (nI j), .ref oa] g (zUs g oa ua ar o cnt rows ++ zLW g a rt lf z q) (fun r w => (∃ (v : Int32) (z' : zS) (q' : zRaw), r = nI 0 ∧ gd_toCome rt lf z v z' ∧ w = zUs g oa ua ar (vp_updL o 0 v.toInt64) cnt rows ++ zLW g a rt lf z' q' ∧ zCR rt z' q') ∨ (bd_toCome rt lf z r ∧ w = zUs g oa ua ar o cnt rows ++ zLW g a rt lf z q)) 1 6 := by
  obtain ⟨h, pa, da⟩ := a
  obtain ⟨T, P, py, R0, I, Pd, Wn, G⟩ := z
  obtain ⟨xI, xP, xW, xG, u, v0⟩ := q
  refine zWi.imp (w_toCome l g ua ar oa (nI cnt) ((ar, .inl (g.2.2.1, 6, .inr (.inr (.inr (.inr rows))))) :: zLW g (h, pa, da) rt lf (T, P, py, R0, I, Pd, Wn, G) (xI, xP, xW, xG, u, v0)) (nI j) o _ _ (p_toCome l hst g ua ar cnt rows j h pa da rt lf T P R0 py I Pd Wn G xI xP xW xG u v0 hj hrow hZ hC) (fun E h => h.elim)) ?_
  rintro r w (⟨er, v, w1, ⟨e1, e2⟩, ew⟩ | ⟨ew, hh⟩)
  · exact Or.inl ⟨v, (T, P, py, R0, I, Pd, Wn, G), (xI, xP, xW, xG, u, v0), er, ⟨rfl, e1⟩, by rw [ew, e2]; rfl, hC⟩
  · exact hh.1.elim
set_option maxHeartbeats 4000000 in
theorem n_toCome (l : Launch) (hst : l.stackTraces = false) (g : zG) (oa ua ar cnt : Nat) (rows : Nat → Option Nat) (o : Nat → Int64) (x0 : Int32) (hno : zNo rows x0) : zWi l yL_toCome wsL_toCome ({ frames := 8, cells := 1, slots := 6, locals := 180 } : Room) [.ref ua, .int x0, .ref oa] g (zUs g oa ua ar o cnt rows) (fun r w => r = nI 1 ∧ w = zUs g oa ua ar o cnt rows) 1 6 := by
  refine zWi.imp (w_toCome l g ua ar oa (nI cnt) [(ar, .inl (g.2.2.1, 6, .inr (.inr (.inr (.inr rows)))))] x0 o _ _ (a_toCome l hst g ua ar cnt rows x0 hno) (fun E h => h)) ?_
  rintro r w (⟨er, v, w1, hf, ew⟩ | ⟨ew, hh⟩)
  · exact hf.elim
  · exact ⟨hh.2, ew⟩
theorem C_toCome (l : Launch) (hst : l.stackTraces = false) (g : zG) (oa ua ar : Nat) (o : Nat → Int64) (S : zSt) (x0 : Int32) (hI : zI S) : zWi l yL_toCome wsL_toCome ({ frames := 8, cells := 1, slots := 6, locals := 180 } : Room) [.ref ua, .int x0, .ref oa] g (zWc g oa ua ar o S) (zPC g oa ua ar o S x0 gd_toCome bd_toCome) 1 6 := by
  obtain ⟨i1, i2, i3, i4, i5, i6, i7⟩ := hI
  exact z_lift (fun k hk ex => by subst ex; exact t_toCome l hst g oa ua ar S.1 S.2.1 o k _ _ _ _ _ (Nat.lt_of_lt_of_le hk i1) (i2 k hk) (i4 k hk) (i5 k hk)) (fun hno => n_toCome l hst g oa ua ar S.1 S.2.1 o x0 (z_no i3 hno))
set_option maxHeartbeats 4000000 in
theorem M_toCome (l : Launch) (g : zG) (mo : Nat) (ad : zAd) (th : Int32) (S : zSt) (x0 : Int32) (hI : zI S) : zMi l yX2_toCome wsX2_toCome ({ frames := 4, cells := 0, slots := 0, locals := 110 } : Room) [.ref mo, .int x0] g (zWm g mo ad th S.1 S.2.2.2.2.2.2.2) (zPM g mo ad S x0 gd_toCome bd_toCome) 0 0 := by
  obtain ⟨cnt, rows, aa, rr, ff, zz, qq, fY, fM, fA, fR, fL, fD, fH, fI, fW, fP, fG⟩ := S
  obtain ⟨i1, i2, i3, i4, i5, i6, i7⟩ := hI
  dsimp only at i1 i2 i3 i4 i5 i6 i7
  obtain ⟨b0, b1, b2, b3, b4, b5, b6, b7, b8, b9, b10⟩ := ad
  by_cases hex : ∃ k, k < cnt ∧ x0 = nI k
  · obtain ⟨k, hk, ex⟩ := hex
    subst ex
    have hz := i4 k hk
    have hm := i6 k hk
    generalize ez : zz k = z at hz hm
    obtain ⟨T, P, py, R0, I, Pd, Wn, G⟩ := z
    refine zMi.imp (r_toCome l g mo b0 b1 b2 b3 b4 b5 b6 b7 b8 b9 b10 cnt th fY fM fA fR fL fD fH fI fW fP fG k (rr k) (ff k) T P R0 py I Pd Wn G hk i1 hz hm) ?_
    rintro q w ⟨e1, ew⟩
    exact Or.inl ⟨k, (T, P, py, R0, I, Pd, Wn, G), _, hk, rfl, (by show gd_toCome (rr k) (ff k) (zz k) q _; rw [ez]; exact ⟨rfl, e1⟩), ew, hm, fun i _ _ => zSame_rf i _⟩
  · have hno : ∀ j, j < cnt → x0 ≠ nI j := fun j hj ex => hex ⟨j, hj, ex⟩
    exact zMi.imp (q_toCome l g mo b0 b1 b2 b3 b4 b5 b6 b7 b8 b9 b10 cnt th fY fM fA fR fL fD fH fI fW fP fG x0 i1 hno) (fun q w h => Or.inr (Or.inr ⟨hno, h⟩))

def gd_payment (x1 : Int32) : zGd := fun rt _ (T, P, py, R0, I, Pd, Wn, G) v z' => z' = (T, P, py, R0, I, Pd, Wn, G) ∧ (nI 0 ≤ x1 ∧ x1 < nI (T - P)) ∧ v = nI (py (P + zN x1))
def bd_payment (x1 : Int32) : zBd := fun _ _ (T, P, py, R0, I, Pd, Wn, G) cd => ¬ (nI 0 ≤ x1 ∧ x1 < nI (T - P)) ∧ cd = nI 1
theorem dt_payment (x1 : Int32) : zDt (gd_payment x1) (bd_payment x1) := by
  rintro rt lf ⟨T, P, py, R0, I, Pd, Wn, G⟩ hZ
  refine ⟨?_, ?_, ?_, ?_, ?_⟩
  · rintro v z' cd ⟨-, h1, -⟩ ⟨h2, -⟩; exact h2 h1
  · rintro cd cd' ⟨-, e1⟩ ⟨-, e2⟩; exact e1.trans e2.symm
  · rintro cd ⟨-, e1⟩; rw [e1]; decide
  · rintro v z1 v2 z2 ⟨e1, -, e2⟩ ⟨e3, -, e4⟩; exact ⟨e2.trans e4.symm, e1.trans e3.symm⟩
  · rintro v z' ⟨e1, -, -⟩; rw [e1]; exact hZ
set_option maxHeartbeats 4000000 in
theorem t_payment (l : Launch) (hst : l.stackTraces = false) (g : zG) (oa ua ar cnt : Nat) (rows : Nat → Option Nat) (o : Nat → Int64) (j : Nat) (a : Nat × Nat × Nat) (rt lf : Nat) (z : zS) (q : zRaw) (x1 : Int32) (hj : j < 6) (hrow : rows j = some a.1) (hZ : zInv rt lf z) (hC : zCR rt z q) : zWi l yL_payment wsL_payment ({ frames := 8, cells := 2, slots := 12, locals := 180 } : Room) [.ref ua, .int (nI j), .int x1, .ref oa] g (zUs g oa ua ar o cnt rows ++ zLW g a rt lf z q) (fun r w => (∃ (v : Int32) (z' : zS) (q' : zRaw), r = nI 0 ∧ (gd_payment x1) rt lf z v z' ∧ w = zUs g oa ua ar (vp_updL o 0 v.toInt64) cnt rows ++ zLW g a rt lf z' q' ∧ zCR rt z' q') ∨ ((bd_payment x1) rt lf z r ∧ w = zUs g oa ua ar o cnt rows ++ zLW g a rt lf z q)) 2 12 := by
  obtain ⟨h, pa, da⟩ := a
  obtain ⟨T, P, py, R0, I, Pd, Wn, G⟩ := z
  obtain ⟨xI, xP, xW, xG, u, v0⟩ := q
  refine zWi.imp (w_payment l g ua ar oa (nI cnt) ((ar, .inl (g.2.2.1, 6, .inr (.inr (.inr (.inr rows))))) :: zLW g (h, pa, da) rt lf (T, P, py, R0, I, Pd, Wn, G) (xI, xP, xW, xG, u, v0)) (nI j) x1 o _ _ (p_payment l hst g ua ar cnt rows j h pa da rt lf T P R0 py I Pd Wn G xI xP xW xG u v0 x1 hj hrow hZ hC) (fun E h => h.1)) ?_
  rintro r w (⟨er, v, w1, ⟨e0, e1, e2⟩, ew⟩ | ⟨ew, hh⟩)
  · exact Or.inl ⟨v, (T, P, py, R0, I, Pd, Wn, G), (xI, xP, xW, xG, u, v0), er, ⟨rfl, e0, e1⟩, by rw [ew, e2]; rfl, hC⟩
  · exact Or.inr ⟨⟨hh.1.2, hh.2⟩, ew⟩
set_option maxHeartbeats 4000000 in
theorem n_payment (l : Launch) (hst : l.stackTraces = false) (g : zG) (oa ua ar cnt : Nat) (rows : Nat → Option Nat) (o : Nat → Int64) (x0 : Int32) (x1 : Int32) (hno : zNo rows x0) : zWi l yL_payment wsL_payment ({ frames := 8, cells := 2, slots := 12, locals := 180 } : Room) [.ref ua, .int x0, .int x1, .ref oa] g (zUs g oa ua ar o cnt rows) (fun r w => r = nI 1 ∧ w = zUs g oa ua ar o cnt rows) 2 12 := by
  refine zWi.imp (w_payment l g ua ar oa (nI cnt) [(ar, .inl (g.2.2.1, 6, .inr (.inr (.inr (.inr rows)))))] x0 x1 o _ _ (a_payment l hst g ua ar cnt rows x0 x1 hno) (fun E h => h)) ?_
  rintro r w (⟨er, v, w1, hf, ew⟩ | ⟨ew, hh⟩)
  · exact hf.elim
  · exact ⟨hh.2, ew⟩
theorem C_payment (l : Launch) (hst : l.stackTraces = false) (g : zG) (oa ua ar : Nat) (o : Nat → Int64) (S : zSt) (x0 : Int32) (x1 : Int32) (hI : zI S) : zWi l yL_payment wsL_payment ({ frames := 8, cells := 2, slots := 12, locals := 180 } : Room) [.ref ua, .int x0, .int x1, .ref oa] g (zWc g oa ua ar o S) (zPC g oa ua ar o S x0 (gd_payment x1) (bd_payment x1)) 2 12 := by
  obtain ⟨i1, i2, i3, i4, i5, i6, i7⟩ := hI
  exact z_lift (fun k hk ex => by subst ex; exact t_payment l hst g oa ua ar S.1 S.2.1 o k _ _ _ _ _ x1 (Nat.lt_of_lt_of_le hk i1) (i2 k hk) (i4 k hk) (i5 k hk)) (fun hno => n_payment l hst g oa ua ar S.1 S.2.1 o x0 x1 (z_no i3 hno))
set_option maxHeartbeats 4000000 in
theorem M_payment (l : Launch) (g : zG) (mo : Nat) (ad : zAd) (th : Int32) (S : zSt) (x0 : Int32) (x1 : Int32) (hI : zI S) : zMi l yX2_payment wsX2_payment ({ frames := 4, cells := 0, slots := 0, locals := 110 } : Room) [.ref mo, .int x0, .int x1] g (zWm g mo ad th S.1 S.2.2.2.2.2.2.2) (zPM g mo ad S x0 (gd_payment x1) (bd_payment x1)) 0 0 := by
  obtain ⟨cnt, rows, aa, rr, ff, zz, qq, fY, fM, fA, fR, fL, fD, fH, fI, fW, fP, fG⟩ := S
  obtain ⟨i1, i2, i3, i4, i5, i6, i7⟩ := hI
  dsimp only at i1 i2 i3 i4 i5 i6 i7
  obtain ⟨b0, b1, b2, b3, b4, b5, b6, b7, b8, b9, b10⟩ := ad
  by_cases hex : ∃ k, k < cnt ∧ x0 = nI k
  · obtain ⟨k, hk, ex⟩ := hex
    subst ex
    have hz := i4 k hk
    have hm := i6 k hk
    generalize ez : zz k = z at hz hm
    obtain ⟨T, P, py, R0, I, Pd, Wn, G⟩ := z
    refine zMi.imp (r_payment l g mo b0 b1 b2 b3 b4 b5 b6 b7 b8 b9 b10 cnt th fY fM fA fR fL fD fH fI fW fP fG k (rr k) (ff k) T P R0 py I Pd Wn G x1 hk i1 hz hm) ?_
    rintro q w (⟨h1, ew⟩ | ⟨h1, e1, ew⟩)
    · exact Or.inr (Or.inl ⟨k, _, hk, rfl, (by show (bd_payment x1) (rr k) (ff k) (zz k) _; rw [ez]; exact ⟨h1, rfl⟩), ew⟩)
    · exact Or.inl ⟨k, (T, P, py, R0, I, Pd, Wn, G), _, hk, rfl, (by show (gd_payment x1) (rr k) (ff k) (zz k) q _; rw [ez]; exact ⟨rfl, h1, e1⟩), ew, hm, fun i _ _ => zSame_rf i _⟩
  · have hno : ∀ j, j < cnt → x0 ≠ nI j := fun j hj ex => hex ⟨j, hj, ex⟩
    exact zMi.imp (q_payment l g mo b0 b1 b2 b3 b4 b5 b6 b7 b8 b9 b10 cnt th fY fM fA fR fL fD fH fI fW fP fG x0 x1 i1 hno) (fun q w h => Or.inr (Or.inr ⟨hno, h⟩))

def gd_debt : zGd := fun rt _ (T, P, py, R0, I, Pd, Wn, G) v z' => z' = (T, P, py, R0, I, Pd, Wn, G) ∧ v = nI (zWr rt py T (T - P))
def bd_debt : zBd := fun _ _ _ _ => False
theorem dt_debt : zDt gd_debt bd_debt := by
  rintro rt lf ⟨T, P, py, R0, I, Pd, Wn, G⟩ hZ
  refine ⟨fun _ _ _ _ h => h, fun _ _ h => h.elim, fun _ h => h.elim, ?_, ?_⟩
  · rintro v z1 v2 z2 ⟨e1, e2⟩ ⟨e3, e4⟩; exact ⟨e2.trans e4.symm, e1.trans e3.symm⟩
  · rintro v z' ⟨e1, e2⟩; rw [e1]; exact hZ
set_option maxHeartbeats 4000000 in
theorem t_debt (l : Launch) (hst : l.stackTraces = false) (g : zG) (oa ua ar cnt : Nat) (rows : Nat → Option Nat) (o : Nat → Int64) (j : Nat) (a : Nat × Nat × Nat) (rt lf : Nat) (z : zS) (q : zRaw) (hj : j < 6) (hrow : rows j = some a.1) (hZ : zInv rt lf z) (hC : zCR rt z q) : zWi l yL_debt wsL_debt ({ frames := 8, cells := 1, slots := 6, locals := 180 } : Room) [.ref ua, .int (nI j), .ref oa] g (zUs g oa ua ar o cnt rows ++ zLW g a rt lf z q) (fun r w => (∃ (v : Int32) (z' : zS) (q' : zRaw), r = nI 0 ∧ gd_debt rt lf z v z' ∧ w = zUs g oa ua ar (vp_updL o 0 v.toInt64) cnt rows ++ zLW g a rt lf z' q' ∧ zCR rt z' q') ∨ (bd_debt rt lf z r ∧ w = zUs g oa ua ar o cnt rows ++ zLW g a rt lf z q)) 1 6 := by
  obtain ⟨h, pa, da⟩ := a
  obtain ⟨T, P, py, R0, I, Pd, Wn, G⟩ := z
  obtain ⟨xI, xP, xW, xG, u, v0⟩ := q
  refine zWi.imp (w_debt l g ua ar oa (nI cnt) ((ar, .inl (g.2.2.1, 6, .inr (.inr (.inr (.inr rows))))) :: zLW g (h, pa, da) rt lf (T, P, py, R0, I, Pd, Wn, G) (xI, xP, xW, xG, u, v0)) (nI j) o _ _ (p_debt l hst g ua ar cnt rows j h pa da rt lf T P R0 py I Pd Wn G xI xP xW xG u v0 hj hrow hZ hC) (fun E h => h.elim)) ?_
  rintro r w (⟨er, v, w1, ⟨e1, e2⟩, ew⟩ | ⟨ew, hh⟩)
  · exact Or.inl ⟨v, (T, P, py, R0, I, Pd, Wn, G), (xI, xP, xW, xG, u, v0), er, ⟨rfl, e1⟩, by rw [ew, e2]; rfl, hC⟩
  · exact hh.1.elim
set_option maxHeartbeats 4000000 in
theorem n_debt (l : Launch) (hst : l.stackTraces = false) (g : zG) (oa ua ar cnt : Nat) (rows : Nat → Option Nat) (o : Nat → Int64) (x0 : Int32) (hno : zNo rows x0) : zWi l yL_debt wsL_debt ({ frames := 8, cells := 1, slots := 6, locals := 180 } : Room) [.ref ua, .int x0, .ref oa] g (zUs g oa ua ar o cnt rows) (fun r w => r = nI 1 ∧ w = zUs g oa ua ar o cnt rows) 1 6 := by
  refine zWi.imp (w_debt l g ua ar oa (nI cnt) [(ar, .inl (g.2.2.1, 6, .inr (.inr (.inr (.inr rows)))))] x0 o _ _ (a_debt l hst g ua ar cnt rows x0 hno) (fun E h => h)) ?_
  rintro r w (⟨er, v, w1, hf, ew⟩ | ⟨ew, hh⟩)
  · exact hf.elim
  · exact ⟨hh.2, ew⟩
theorem C_debt (l : Launch) (hst : l.stackTraces = false) (g : zG) (oa ua ar : Nat) (o : Nat → Int64) (S : zSt) (x0 : Int32) (hI : zI S) : zWi l yL_debt wsL_debt ({ frames := 8, cells := 1, slots := 6, locals := 180 } : Room) [.ref ua, .int x0, .ref oa] g (zWc g oa ua ar o S) (zPC g oa ua ar o S x0 gd_debt bd_debt) 1 6 := by
  obtain ⟨i1, i2, i3, i4, i5, i6, i7⟩ := hI
  exact z_lift (fun k hk ex => by subst ex; exact t_debt l hst g oa ua ar S.1 S.2.1 o k _ _ _ _ _ (Nat.lt_of_lt_of_le hk i1) (i2 k hk) (i4 k hk) (i5 k hk)) (fun hno => n_debt l hst g oa ua ar S.1 S.2.1 o x0 (z_no i3 hno))
set_option maxHeartbeats 4000000 in
theorem M_debt (l : Launch) (g : zG) (mo : Nat) (ad : zAd) (th : Int32) (S : zSt) (x0 : Int32) (hI : zI S) : zMi l yX2_debt wsX2_debt ({ frames := 4, cells := 0, slots := 0, locals := 110 } : Room) [.ref mo, .int x0] g (zWm g mo ad th S.1 S.2.2.2.2.2.2.2) (zPM g mo ad S x0 gd_debt bd_debt) 0 0 := by
  obtain ⟨cnt, rows, aa, rr, ff, zz, qq, fY, fM, fA, fR, fL, fD, fH, fI, fW, fP, fG⟩ := S
  obtain ⟨i1, i2, i3, i4, i5, i6, i7⟩ := hI
  dsimp only at i1 i2 i3 i4 i5 i6 i7
  obtain ⟨b0, b1, b2, b3, b4, b5, b6, b7, b8, b9, b10⟩ := ad
  by_cases hex : ∃ k, k < cnt ∧ x0 = nI k
  · obtain ⟨k, hk, ex⟩ := hex
    subst ex
    have hz := i4 k hk
    have hm := i6 k hk
    generalize ez : zz k = z at hz hm
    obtain ⟨T, P, py, R0, I, Pd, Wn, G⟩ := z
    refine zMi.imp (r_debt l g mo b0 b1 b2 b3 b4 b5 b6 b7 b8 b9 b10 cnt th fY fM fA fR fL fD fH fI fW fP fG k (rr k) (ff k) T P R0 py I Pd Wn G hk i1 hz hm) ?_
    rintro q w ⟨e1, ew⟩
    exact Or.inl ⟨k, (T, P, py, R0, I, Pd, Wn, G), _, hk, rfl, (by show gd_debt (rr k) (ff k) (zz k) q _; rw [ez]; exact ⟨rfl, e1⟩), ew, hm, fun i _ _ => zSame_rf i _⟩
  · have hno : ∀ j, j < cnt → x0 ≠ nI j := fun j hj ex => hex ⟨j, hj, ex⟩
    exact zMi.imp (q_debt l g mo b0 b1 b2 b3 b4 b5 b6 b7 b8 b9 b10 cnt th fY fM fA fR fL fD fH fI fW fP fG x0 i1 hno) (fun q w h => Or.inr (Or.inr ⟨hno, h⟩))

def gd_debtByWorth : zGd := fun rt _ (T, P, py, R0, I, Pd, Wn, G) v z' => z' = (T, P, py, R0, I, Pd, Wn, G) ∧ v = nI (zWr rt py T (T - P))
def bd_debtByWorth : zBd := fun _ _ _ _ => False
theorem dt_debtByWorth : zDt gd_debtByWorth bd_debtByWorth := by
  rintro rt lf ⟨T, P, py, R0, I, Pd, Wn, G⟩ hZ
  refine ⟨fun _ _ _ _ h => h, fun _ _ h => h.elim, fun _ h => h.elim, ?_, ?_⟩
  · rintro v z1 v2 z2 ⟨e1, e2⟩ ⟨e3, e4⟩; exact ⟨e2.trans e4.symm, e1.trans e3.symm⟩
  · rintro v z' ⟨e1, e2⟩; rw [e1]; exact hZ
set_option maxHeartbeats 4000000 in
theorem t_debtByWorth (l : Launch) (hst : l.stackTraces = false) (g : zG) (oa ua ar cnt : Nat) (rows : Nat → Option Nat) (o : Nat → Int64) (j : Nat) (a : Nat × Nat × Nat) (rt lf : Nat) (z : zS) (q : zRaw) (hj : j < 6) (hrow : rows j = some a.1) (hZ : zInv rt lf z) (hC : zCR rt z q) : zWi l yL_debtByWorth wsL_debtByWorth ({ frames := 8, cells := 1, slots := 6, locals := 180 } : Room) [.ref ua, .int (nI j), .ref oa] g (zUs g oa ua ar o cnt rows ++ zLW g a rt lf z q) (fun r w => (∃ (v : Int32) (z' : zS) (q' : zRaw), r = nI 0 ∧ gd_debtByWorth rt lf z v z' ∧ w = zUs g oa ua ar (vp_updL o 0 v.toInt64) cnt rows ++ zLW g a rt lf z' q' ∧ zCR rt z' q') ∨ (bd_debtByWorth rt lf z r ∧ w = zUs g oa ua ar o cnt rows ++ zLW g a rt lf z q)) 1 6 := by
  obtain ⟨h, pa, da⟩ := a
  obtain ⟨T, P, py, R0, I, Pd, Wn, G⟩ := z
  obtain ⟨xI, xP, xW, xG, u, v0⟩ := q
  refine zWi.imp (w_debtByWorth l g ua ar oa (nI cnt) ((ar, .inl (g.2.2.1, 6, .inr (.inr (.inr (.inr rows))))) :: zLW g (h, pa, da) rt lf (T, P, py, R0, I, Pd, Wn, G) (xI, xP, xW, xG, u, v0)) (nI j) o _ _ (p_debtByWorth l hst g ua ar cnt rows j h pa da rt lf T P R0 py I Pd Wn G xI xP xW xG u v0 hj hrow hZ hC) (fun E h => h.elim)) ?_
  rintro r w (⟨er, v, w1, ⟨e1, e2⟩, ew⟩ | ⟨ew, hh⟩)
  · exact Or.inl ⟨v, (T, P, py, R0, I, Pd, Wn, G), (xI, xP, xW, xG, u, v0), er, ⟨rfl, e1⟩, by rw [ew, e2]; rfl, hC⟩
  · exact hh.1.elim
set_option maxHeartbeats 4000000 in
theorem n_debtByWorth (l : Launch) (hst : l.stackTraces = false) (g : zG) (oa ua ar cnt : Nat) (rows : Nat → Option Nat) (o : Nat → Int64) (x0 : Int32) (hno : zNo rows x0) : zWi l yL_debtByWorth wsL_debtByWorth ({ frames := 8, cells := 1, slots := 6, locals := 180 } : Room) [.ref ua, .int x0, .ref oa] g (zUs g oa ua ar o cnt rows) (fun r w => r = nI 1 ∧ w = zUs g oa ua ar o cnt rows) 1 6 := by
  refine zWi.imp (w_debtByWorth l g ua ar oa (nI cnt) [(ar, .inl (g.2.2.1, 6, .inr (.inr (.inr (.inr rows)))))] x0 o _ _ (a_debtByWorth l hst g ua ar cnt rows x0 hno) (fun E h => h)) ?_
  rintro r w (⟨er, v, w1, hf, ew⟩ | ⟨ew, hh⟩)
  · exact hf.elim
  · exact ⟨hh.2, ew⟩
theorem C_debtByWorth (l : Launch) (hst : l.stackTraces = false) (g : zG) (oa ua ar : Nat) (o : Nat → Int64) (S : zSt) (x0 : Int32) (hI : zI S) : zWi l yL_debtByWorth wsL_debtByWorth ({ frames := 8, cells := 1, slots := 6, locals := 180 } : Room) [.ref ua, .int x0, .ref oa] g (zWc g oa ua ar o S) (zPC g oa ua ar o S x0 gd_debtByWorth bd_debtByWorth) 1 6 := by
  obtain ⟨i1, i2, i3, i4, i5, i6, i7⟩ := hI
  exact z_lift (fun k hk ex => by subst ex; exact t_debtByWorth l hst g oa ua ar S.1 S.2.1 o k _ _ _ _ _ (Nat.lt_of_lt_of_le hk i1) (i2 k hk) (i4 k hk) (i5 k hk)) (fun hno => n_debtByWorth l hst g oa ua ar S.1 S.2.1 o x0 (z_no i3 hno))
set_option maxHeartbeats 4000000 in
theorem M_debtByWorth (l : Launch) (g : zG) (mo : Nat) (ad : zAd) (th : Int32) (S : zSt) (x0 : Int32) (hI : zI S) : zMi l yX2_debtByWorth wsX2_debtByWorth ({ frames := 4, cells := 0, slots := 0, locals := 110 } : Room) [.ref mo, .int x0] g (zWm g mo ad th S.1 S.2.2.2.2.2.2.2) (zPM g mo ad S x0 gd_debtByWorth bd_debtByWorth) 0 0 := by
  obtain ⟨cnt, rows, aa, rr, ff, zz, qq, fY, fM, fA, fR, fL, fD, fH, fI, fW, fP, fG⟩ := S
  obtain ⟨i1, i2, i3, i4, i5, i6, i7⟩ := hI
  dsimp only at i1 i2 i3 i4 i5 i6 i7
  obtain ⟨b0, b1, b2, b3, b4, b5, b6, b7, b8, b9, b10⟩ := ad
  by_cases hex : ∃ k, k < cnt ∧ x0 = nI k
  · obtain ⟨k, hk, ex⟩ := hex
    subst ex
    have hz := i4 k hk
    have hm := i6 k hk
    generalize ez : zz k = z at hz hm
    obtain ⟨T, P, py, R0, I, Pd, Wn, G⟩ := z
    refine zMi.imp (r_debtByWorth l g mo b0 b1 b2 b3 b4 b5 b6 b7 b8 b9 b10 cnt th fY fM fA fR fL fD fH fI fW fP fG k (rr k) (ff k) T P R0 py I Pd Wn G hk i1 hz hm) ?_
    rintro q w ⟨e1, ew⟩
    exact Or.inl ⟨k, (T, P, py, R0, I, Pd, Wn, G), _, hk, rfl, (by show gd_debtByWorth (rr k) (ff k) (zz k) q _; rw [ez]; exact ⟨rfl, e1⟩), ew, hm, fun i _ _ => zSame_rf i _⟩
  · have hno : ∀ j, j < cnt → x0 ≠ nI j := fun j hj ex => hex ⟨j, hj, ex⟩
    exact zMi.imp (q_debtByWorth l g mo b0 b1 b2 b3 b4 b5 b6 b7 b8 b9 b10 cnt th fY fM fA fR fL fD fH fI fW fP fG x0 i1 hno) (fun q w h => Or.inr (Or.inr ⟨hno, h⟩))

def gd_right : zGd := fun rt _ (T, P, py, R0, I, Pd, Wn, G) v z' => z' = (T, P, py, R0, I, Pd, Wn, G) ∧ v = nI R0
def bd_right : zBd := fun _ _ _ _ => False
theorem dt_right : zDt gd_right bd_right := by
  rintro rt lf ⟨T, P, py, R0, I, Pd, Wn, G⟩ hZ
  refine ⟨fun _ _ _ _ h => h, fun _ _ h => h.elim, fun _ h => h.elim, ?_, ?_⟩
  · rintro v z1 v2 z2 ⟨e1, e2⟩ ⟨e3, e4⟩; exact ⟨e2.trans e4.symm, e1.trans e3.symm⟩
  · rintro v z' ⟨e1, e2⟩; rw [e1]; exact hZ
set_option maxHeartbeats 4000000 in
theorem t_right (l : Launch) (hst : l.stackTraces = false) (g : zG) (oa ua ar cnt : Nat) (rows : Nat → Option Nat) (o : Nat → Int64) (j : Nat) (a : Nat × Nat × Nat) (rt lf : Nat) (z : zS) (q : zRaw) (hj : j < 6) (hrow : rows j = some a.1) (hZ : zInv rt lf z) (hC : zCR rt z q) : zWi l yL_right wsL_right ({ frames := 8, cells := 1, slots := 6, locals := 180 } : Room) [.ref ua, .int (nI j), .ref oa] g (zUs g oa ua ar o cnt rows ++ zLW g a rt lf z q) (fun r w => (∃ (v : Int32) (z' : zS) (q' : zRaw), r = nI 0 ∧ gd_right rt lf z v z' ∧ w = zUs g oa ua ar (vp_updL o 0 v.toInt64) cnt rows ++ zLW g a rt lf z' q' ∧ zCR rt z' q') ∨ (bd_right rt lf z r ∧ w = zUs g oa ua ar o cnt rows ++ zLW g a rt lf z q)) 1 6 := by
  obtain ⟨h, pa, da⟩ := a
  obtain ⟨T, P, py, R0, I, Pd, Wn, G⟩ := z
  obtain ⟨xI, xP, xW, xG, u, v0⟩ := q
  refine zWi.imp (w_right l g ua ar oa (nI cnt) ((ar, .inl (g.2.2.1, 6, .inr (.inr (.inr (.inr rows))))) :: zLW g (h, pa, da) rt lf (T, P, py, R0, I, Pd, Wn, G) (xI, xP, xW, xG, u, v0)) (nI j) o _ _ (p_right l hst g ua ar cnt rows j h pa da rt lf T P R0 py I Pd Wn G xI xP xW xG u v0 hj hrow hZ hC) (fun E h => h.elim)) ?_
  rintro r w (⟨er, v, w1, ⟨e1, e2⟩, ew⟩ | ⟨ew, hh⟩)
  · exact Or.inl ⟨v, (T, P, py, R0, I, Pd, Wn, G), (xI, xP, xW, xG, u, v0), er, ⟨rfl, e1⟩, by rw [ew, e2]; rfl, hC⟩
  · exact hh.1.elim
set_option maxHeartbeats 4000000 in
theorem n_right (l : Launch) (hst : l.stackTraces = false) (g : zG) (oa ua ar cnt : Nat) (rows : Nat → Option Nat) (o : Nat → Int64) (x0 : Int32) (hno : zNo rows x0) : zWi l yL_right wsL_right ({ frames := 8, cells := 1, slots := 6, locals := 180 } : Room) [.ref ua, .int x0, .ref oa] g (zUs g oa ua ar o cnt rows) (fun r w => r = nI 1 ∧ w = zUs g oa ua ar o cnt rows) 1 6 := by
  refine zWi.imp (w_right l g ua ar oa (nI cnt) [(ar, .inl (g.2.2.1, 6, .inr (.inr (.inr (.inr rows)))))] x0 o _ _ (a_right l hst g ua ar cnt rows x0 hno) (fun E h => h)) ?_
  rintro r w (⟨er, v, w1, hf, ew⟩ | ⟨ew, hh⟩)
  · exact hf.elim
  · exact ⟨hh.2, ew⟩
theorem C_right (l : Launch) (hst : l.stackTraces = false) (g : zG) (oa ua ar : Nat) (o : Nat → Int64) (S : zSt) (x0 : Int32) (hI : zI S) : zWi l yL_right wsL_right ({ frames := 8, cells := 1, slots := 6, locals := 180 } : Room) [.ref ua, .int x0, .ref oa] g (zWc g oa ua ar o S) (zPC g oa ua ar o S x0 gd_right bd_right) 1 6 := by
  obtain ⟨i1, i2, i3, i4, i5, i6, i7⟩ := hI
  exact z_lift (fun k hk ex => by subst ex; exact t_right l hst g oa ua ar S.1 S.2.1 o k _ _ _ _ _ (Nat.lt_of_lt_of_le hk i1) (i2 k hk) (i4 k hk) (i5 k hk)) (fun hno => n_right l hst g oa ua ar S.1 S.2.1 o x0 (z_no i3 hno))
set_option maxHeartbeats 4000000 in
theorem M_right (l : Launch) (g : zG) (mo : Nat) (ad : zAd) (th : Int32) (S : zSt) (x0 : Int32) (hI : zI S) : zMi l yX2_right wsX2_right ({ frames := 4, cells := 0, slots := 0, locals := 110 } : Room) [.ref mo, .int x0] g (zWm g mo ad th S.1 S.2.2.2.2.2.2.2) (zPM g mo ad S x0 gd_right bd_right) 0 0 := by
  obtain ⟨cnt, rows, aa, rr, ff, zz, qq, fY, fM, fA, fR, fL, fD, fH, fI, fW, fP, fG⟩ := S
  obtain ⟨i1, i2, i3, i4, i5, i6, i7⟩ := hI
  dsimp only at i1 i2 i3 i4 i5 i6 i7
  obtain ⟨b0, b1, b2, b3, b4, b5, b6, b7, b8, b9, b10⟩ := ad
  by_cases hex : ∃ k, k < cnt ∧ x0 = nI k
  · obtain ⟨k, hk, ex⟩ := hex
    subst ex
    have hz := i4 k hk
    have hm := i6 k hk
    generalize ez : zz k = z at hz hm
    obtain ⟨T, P, py, R0, I, Pd, Wn, G⟩ := z
    refine zMi.imp (r_right l g mo b0 b1 b2 b3 b4 b5 b6 b7 b8 b9 b10 cnt th fY fM fA fR fL fD fH fI fW fP fG k (rr k) (ff k) T P R0 py I Pd Wn G hk i1 hz hm) ?_
    rintro q w ⟨e1, ew⟩
    exact Or.inl ⟨k, (T, P, py, R0, I, Pd, Wn, G), _, hk, rfl, (by show gd_right (rr k) (ff k) (zz k) q _; rw [ez]; exact ⟨rfl, e1⟩), ew, hm, fun i _ _ => zSame_rf i _⟩
  · have hno : ∀ j, j < cnt → x0 ≠ nI j := fun j hj ex => hex ⟨j, hj, ex⟩
    exact zMi.imp (q_right l g mo b0 b1 b2 b3 b4 b5 b6 b7 b8 b9 b10 cnt th fY fM fA fR fL fD fH fI fW fP fG x0 i1 hno) (fun q w h => Or.inr (Or.inr ⟨hno, h⟩))

def gd_interest : zGd := fun rt _ (T, P, py, R0, I, Pd, Wn, G) v z' => z' = (T, P, py, R0, I, Pd, Wn, G) ∧ v = I
def bd_interest : zBd := fun _ _ _ _ => False
theorem dt_interest : zDt gd_interest bd_interest := by
  rintro rt lf ⟨T, P, py, R0, I, Pd, Wn, G⟩ hZ
  refine ⟨fun _ _ _ _ h => h, fun _ _ h => h.elim, fun _ h => h.elim, ?_, ?_⟩
  · rintro v z1 v2 z2 ⟨e1, e2⟩ ⟨e3, e4⟩; exact ⟨e2.trans e4.symm, e1.trans e3.symm⟩
  · rintro v z' ⟨e1, e2⟩; rw [e1]; exact hZ
set_option maxHeartbeats 4000000 in
theorem t_interest (l : Launch) (hst : l.stackTraces = false) (g : zG) (oa ua ar cnt : Nat) (rows : Nat → Option Nat) (o : Nat → Int64) (j : Nat) (a : Nat × Nat × Nat) (rt lf : Nat) (z : zS) (q : zRaw) (hj : j < 6) (hrow : rows j = some a.1) (hZ : zInv rt lf z) (hC : zCR rt z q) : zWi l yL_interest wsL_interest ({ frames := 8, cells := 1, slots := 6, locals := 180 } : Room) [.ref ua, .int (nI j), .ref oa] g (zUs g oa ua ar o cnt rows ++ zLW g a rt lf z q) (fun r w => (∃ (v : Int32) (z' : zS) (q' : zRaw), r = nI 0 ∧ gd_interest rt lf z v z' ∧ w = zUs g oa ua ar (vp_updL o 0 v.toInt64) cnt rows ++ zLW g a rt lf z' q' ∧ zCR rt z' q') ∨ (bd_interest rt lf z r ∧ w = zUs g oa ua ar o cnt rows ++ zLW g a rt lf z q)) 1 6 := by
  obtain ⟨h, pa, da⟩ := a
  obtain ⟨T, P, py, R0, I, Pd, Wn, G⟩ := z
  obtain ⟨xI, xP, xW, xG, u, v0⟩ := q
  refine zWi.imp (w_interest l g ua ar oa (nI cnt) ((ar, .inl (g.2.2.1, 6, .inr (.inr (.inr (.inr rows))))) :: zLW g (h, pa, da) rt lf (T, P, py, R0, I, Pd, Wn, G) (xI, xP, xW, xG, u, v0)) (nI j) o _ _ (p_interest l hst g ua ar cnt rows j h pa da rt lf T P R0 py I Pd Wn G xI xP xW xG u v0 hj hrow hZ hC) (fun E h => h.elim)) ?_
  rintro r w (⟨er, v, w1, ⟨e1, e2⟩, ew⟩ | ⟨ew, hh⟩)
  · exact Or.inl ⟨v, (T, P, py, R0, I, Pd, Wn, G), (xI, xP, xW, xG, u, v0), er, ⟨rfl, e1⟩, by rw [ew, e2]; rfl, hC⟩
  · exact hh.1.elim
set_option maxHeartbeats 4000000 in
theorem n_interest (l : Launch) (hst : l.stackTraces = false) (g : zG) (oa ua ar cnt : Nat) (rows : Nat → Option Nat) (o : Nat → Int64) (x0 : Int32) (hno : zNo rows x0) : zWi l yL_interest wsL_interest ({ frames := 8, cells := 1, slots := 6, locals := 180 } : Room) [.ref ua, .int x0, .ref oa] g (zUs g oa ua ar o cnt rows) (fun r w => r = nI 1 ∧ w = zUs g oa ua ar o cnt rows) 1 6 := by
  refine zWi.imp (w_interest l g ua ar oa (nI cnt) [(ar, .inl (g.2.2.1, 6, .inr (.inr (.inr (.inr rows)))))] x0 o _ _ (a_interest l hst g ua ar cnt rows x0 hno) (fun E h => h)) ?_
  rintro r w (⟨er, v, w1, hf, ew⟩ | ⟨ew, hh⟩)
  · exact hf.elim
  · exact ⟨hh.2, ew⟩
theorem C_interest (l : Launch) (hst : l.stackTraces = false) (g : zG) (oa ua ar : Nat) (o : Nat → Int64) (S : zSt) (x0 : Int32) (hI : zI S) : zWi l yL_interest wsL_interest ({ frames := 8, cells := 1, slots := 6, locals := 180 } : Room) [.ref ua, .int x0, .ref oa] g (zWc g oa ua ar o S) (zPC g oa ua ar o S x0 gd_interest bd_interest) 1 6 := by
  obtain ⟨i1, i2, i3, i4, i5, i6, i7⟩ := hI
  exact z_lift (fun k hk ex => by subst ex; exact t_interest l hst g oa ua ar S.1 S.2.1 o k _ _ _ _ _ (Nat.lt_of_lt_of_le hk i1) (i2 k hk) (i4 k hk) (i5 k hk)) (fun hno => n_interest l hst g oa ua ar S.1 S.2.1 o x0 (z_no i3 hno))
set_option maxHeartbeats 4000000 in
theorem M_interest (l : Launch) (g : zG) (mo : Nat) (ad : zAd) (th : Int32) (S : zSt) (x0 : Int32) (hI : zI S) : zMi l yX2_interest wsX2_interest ({ frames := 4, cells := 0, slots := 0, locals := 110 } : Room) [.ref mo, .int x0] g (zWm g mo ad th S.1 S.2.2.2.2.2.2.2) (zPM g mo ad S x0 gd_interest bd_interest) 0 0 := by
  obtain ⟨cnt, rows, aa, rr, ff, zz, qq, fY, fM, fA, fR, fL, fD, fH, fI, fW, fP, fG⟩ := S
  obtain ⟨i1, i2, i3, i4, i5, i6, i7⟩ := hI
  dsimp only at i1 i2 i3 i4 i5 i6 i7
  obtain ⟨b0, b1, b2, b3, b4, b5, b6, b7, b8, b9, b10⟩ := ad
  by_cases hex : ∃ k, k < cnt ∧ x0 = nI k
  · obtain ⟨k, hk, ex⟩ := hex
    subst ex
    have hz := i4 k hk
    have hm := i6 k hk
    generalize ez : zz k = z at hz hm
    obtain ⟨T, P, py, R0, I, Pd, Wn, G⟩ := z
    refine zMi.imp (r_interest l g mo b0 b1 b2 b3 b4 b5 b6 b7 b8 b9 b10 cnt th fY fM fA fR fL fD fH fI fW fP fG k (rr k) (ff k) T P R0 py I Pd Wn G hk i1 hz hm) ?_
    rintro q w ⟨e1, ew⟩
    exact Or.inl ⟨k, (T, P, py, R0, I, Pd, Wn, G), _, hk, rfl, (by show gd_interest (rr k) (ff k) (zz k) q _; rw [ez]; exact ⟨rfl, e1⟩), ew, hm, fun i _ _ => zSame_rf i _⟩
  · have hno : ∀ j, j < cnt → x0 ≠ nI j := fun j hj ex => hex ⟨j, hj, ex⟩
    exact zMi.imp (q_interest l g mo b0 b1 b2 b3 b4 b5 b6 b7 b8 b9 b10 cnt th fY fM fA fR fL fD fH fI fW fP fG x0 i1 hno) (fun q w h => Or.inr (Or.inr ⟨hno, h⟩))

def gd_written : zGd := fun rt _ (T, P, py, R0, I, Pd, Wn, G) v z' => z' = (T, P, py, R0, I, Pd, Wn, G) ∧ v = Wn
def bd_written : zBd := fun _ _ _ _ => False
theorem dt_written : zDt gd_written bd_written := by
  rintro rt lf ⟨T, P, py, R0, I, Pd, Wn, G⟩ hZ
  refine ⟨fun _ _ _ _ h => h, fun _ _ h => h.elim, fun _ h => h.elim, ?_, ?_⟩
  · rintro v z1 v2 z2 ⟨e1, e2⟩ ⟨e3, e4⟩; exact ⟨e2.trans e4.symm, e1.trans e3.symm⟩
  · rintro v z' ⟨e1, e2⟩; rw [e1]; exact hZ
set_option maxHeartbeats 4000000 in
theorem t_written (l : Launch) (hst : l.stackTraces = false) (g : zG) (oa ua ar cnt : Nat) (rows : Nat → Option Nat) (o : Nat → Int64) (j : Nat) (a : Nat × Nat × Nat) (rt lf : Nat) (z : zS) (q : zRaw) (hj : j < 6) (hrow : rows j = some a.1) (hZ : zInv rt lf z) (hC : zCR rt z q) : zWi l yL_written wsL_written ({ frames := 8, cells := 1, slots := 6, locals := 180 } : Room) [.ref ua, .int (nI j), .ref oa] g (zUs g oa ua ar o cnt rows ++ zLW g a rt lf z q) (fun r w => (∃ (v : Int32) (z' : zS) (q' : zRaw), r = nI 0 ∧ gd_written rt lf z v z' ∧ w = zUs g oa ua ar (vp_updL o 0 v.toInt64) cnt rows ++ zLW g a rt lf z' q' ∧ zCR rt z' q') ∨ (bd_written rt lf z r ∧ w = zUs g oa ua ar o cnt rows ++ zLW g a rt lf z q)) 1 6 := by
  obtain ⟨h, pa, da⟩ := a
  obtain ⟨T, P, py, R0, I, Pd, Wn, G⟩ := z
  obtain ⟨xI, xP, xW, xG, u, v0⟩ := q
  refine zWi.imp (w_written l g ua ar oa (nI cnt) ((ar, .inl (g.2.2.1, 6, .inr (.inr (.inr (.inr rows))))) :: zLW g (h, pa, da) rt lf (T, P, py, R0, I, Pd, Wn, G) (xI, xP, xW, xG, u, v0)) (nI j) o _ _ (p_written l hst g ua ar cnt rows j h pa da rt lf T P R0 py I Pd Wn G xI xP xW xG u v0 hj hrow hZ hC) (fun E h => h.elim)) ?_
  rintro r w (⟨er, v, w1, ⟨e1, e2⟩, ew⟩ | ⟨ew, hh⟩)
  · exact Or.inl ⟨v, (T, P, py, R0, I, Pd, Wn, G), (xI, xP, xW, xG, u, v0), er, ⟨rfl, e1⟩, by rw [ew, e2]; rfl, hC⟩
  · exact hh.1.elim
set_option maxHeartbeats 4000000 in
theorem n_written (l : Launch) (hst : l.stackTraces = false) (g : zG) (oa ua ar cnt : Nat) (rows : Nat → Option Nat) (o : Nat → Int64) (x0 : Int32) (hno : zNo rows x0) : zWi l yL_written wsL_written ({ frames := 8, cells := 1, slots := 6, locals := 180 } : Room) [.ref ua, .int x0, .ref oa] g (zUs g oa ua ar o cnt rows) (fun r w => r = nI 1 ∧ w = zUs g oa ua ar o cnt rows) 1 6 := by
  refine zWi.imp (w_written l g ua ar oa (nI cnt) [(ar, .inl (g.2.2.1, 6, .inr (.inr (.inr (.inr rows)))))] x0 o _ _ (a_written l hst g ua ar cnt rows x0 hno) (fun E h => h)) ?_
  rintro r w (⟨er, v, w1, hf, ew⟩ | ⟨ew, hh⟩)
  · exact hf.elim
  · exact ⟨hh.2, ew⟩
theorem C_written (l : Launch) (hst : l.stackTraces = false) (g : zG) (oa ua ar : Nat) (o : Nat → Int64) (S : zSt) (x0 : Int32) (hI : zI S) : zWi l yL_written wsL_written ({ frames := 8, cells := 1, slots := 6, locals := 180 } : Room) [.ref ua, .int x0, .ref oa] g (zWc g oa ua ar o S) (zPC g oa ua ar o S x0 gd_written bd_written) 1 6 := by
  obtain ⟨i1, i2, i3, i4, i5, i6, i7⟩ := hI
  exact z_lift (fun k hk ex => by subst ex; exact t_written l hst g oa ua ar S.1 S.2.1 o k _ _ _ _ _ (Nat.lt_of_lt_of_le hk i1) (i2 k hk) (i4 k hk) (i5 k hk)) (fun hno => n_written l hst g oa ua ar S.1 S.2.1 o x0 (z_no i3 hno))
set_option maxHeartbeats 4000000 in
theorem M_written (l : Launch) (g : zG) (mo : Nat) (ad : zAd) (th : Int32) (S : zSt) (x0 : Int32) (hI : zI S) : zMi l yX2_written wsX2_written ({ frames := 4, cells := 0, slots := 0, locals := 110 } : Room) [.ref mo, .int x0] g (zWm g mo ad th S.1 S.2.2.2.2.2.2.2) (zPM g mo ad S x0 gd_written bd_written) 0 0 := by
  obtain ⟨cnt, rows, aa, rr, ff, zz, qq, fY, fM, fA, fR, fL, fD, fH, fI, fW, fP, fG⟩ := S
  obtain ⟨i1, i2, i3, i4, i5, i6, i7⟩ := hI
  dsimp only at i1 i2 i3 i4 i5 i6 i7
  obtain ⟨b0, b1, b2, b3, b4, b5, b6, b7, b8, b9, b10⟩ := ad
  by_cases hex : ∃ k, k < cnt ∧ x0 = nI k
  · obtain ⟨k, hk, ex⟩ := hex
    subst ex
    have hz := i4 k hk
    have hm := i6 k hk
    generalize ez : zz k = z at hz hm
    obtain ⟨T, P, py, R0, I, Pd, Wn, G⟩ := z
    refine zMi.imp (r_written l g mo b0 b1 b2 b3 b4 b5 b6 b7 b8 b9 b10 cnt th fY fM fA fR fL fD fH fI fW fP fG k (rr k) (ff k) T P R0 py I Pd Wn G hk i1 hz hm) ?_
    rintro q w ⟨e1, ew⟩
    exact Or.inl ⟨k, (T, P, py, R0, I, Pd, Wn, G), _, hk, rfl, (by show gd_written (rr k) (ff k) (zz k) q _; rw [ez]; exact ⟨rfl, e1⟩), ew, hm, fun i _ _ => zSame_rf i _⟩
  · have hno : ∀ j, j < cnt → x0 ≠ nI j := fun j hj ex => hex ⟨j, hj, ex⟩
    exact zMi.imp (q_written l g mo b0 b1 b2 b3 b4 b5 b6 b7 b8 b9 b10 cnt th fY fM fA fR fL fD fH fI fW fP fG x0 i1 hno) (fun q w h => Or.inr (Or.inr ⟨hno, h⟩))

def gd_paid : zGd := fun rt _ (T, P, py, R0, I, Pd, Wn, G) v z' => z' = (T, P, py, R0, I, Pd, Wn, G) ∧ v = Pd
def bd_paid : zBd := fun _ _ _ _ => False
theorem dt_paid : zDt gd_paid bd_paid := by
  rintro rt lf ⟨T, P, py, R0, I, Pd, Wn, G⟩ hZ
  refine ⟨fun _ _ _ _ h => h, fun _ _ h => h.elim, fun _ h => h.elim, ?_, ?_⟩
  · rintro v z1 v2 z2 ⟨e1, e2⟩ ⟨e3, e4⟩; exact ⟨e2.trans e4.symm, e1.trans e3.symm⟩
  · rintro v z' ⟨e1, e2⟩; rw [e1]; exact hZ
set_option maxHeartbeats 4000000 in
theorem t_paid (l : Launch) (hst : l.stackTraces = false) (g : zG) (oa ua ar cnt : Nat) (rows : Nat → Option Nat) (o : Nat → Int64) (j : Nat) (a : Nat × Nat × Nat) (rt lf : Nat) (z : zS) (q : zRaw) (hj : j < 6) (hrow : rows j = some a.1) (hZ : zInv rt lf z) (hC : zCR rt z q) : zWi l yL_paid wsL_paid ({ frames := 8, cells := 1, slots := 6, locals := 180 } : Room) [.ref ua, .int (nI j), .ref oa] g (zUs g oa ua ar o cnt rows ++ zLW g a rt lf z q) (fun r w => (∃ (v : Int32) (z' : zS) (q' : zRaw), r = nI 0 ∧ gd_paid rt lf z v z' ∧ w = zUs g oa ua ar (vp_updL o 0 v.toInt64) cnt rows ++ zLW g a rt lf z' q' ∧ zCR rt z' q') ∨ (bd_paid rt lf z r ∧ w = zUs g oa ua ar o cnt rows ++ zLW g a rt lf z q)) 1 6 := by
  obtain ⟨h, pa, da⟩ := a
  obtain ⟨T, P, py, R0, I, Pd, Wn, G⟩ := z
  obtain ⟨xI, xP, xW, xG, u, v0⟩ := q
  refine zWi.imp (w_paid l g ua ar oa (nI cnt) ((ar, .inl (g.2.2.1, 6, .inr (.inr (.inr (.inr rows))))) :: zLW g (h, pa, da) rt lf (T, P, py, R0, I, Pd, Wn, G) (xI, xP, xW, xG, u, v0)) (nI j) o _ _ (p_paid l hst g ua ar cnt rows j h pa da rt lf T P R0 py I Pd Wn G xI xP xW xG u v0 hj hrow hZ hC) (fun E h => h.elim)) ?_
  rintro r w (⟨er, v, w1, ⟨e1, e2⟩, ew⟩ | ⟨ew, hh⟩)
  · exact Or.inl ⟨v, (T, P, py, R0, I, Pd, Wn, G), (xI, xP, xW, xG, u, v0), er, ⟨rfl, e1⟩, by rw [ew, e2]; rfl, hC⟩
  · exact hh.1.elim
set_option maxHeartbeats 4000000 in
theorem n_paid (l : Launch) (hst : l.stackTraces = false) (g : zG) (oa ua ar cnt : Nat) (rows : Nat → Option Nat) (o : Nat → Int64) (x0 : Int32) (hno : zNo rows x0) : zWi l yL_paid wsL_paid ({ frames := 8, cells := 1, slots := 6, locals := 180 } : Room) [.ref ua, .int x0, .ref oa] g (zUs g oa ua ar o cnt rows) (fun r w => r = nI 1 ∧ w = zUs g oa ua ar o cnt rows) 1 6 := by
  refine zWi.imp (w_paid l g ua ar oa (nI cnt) [(ar, .inl (g.2.2.1, 6, .inr (.inr (.inr (.inr rows)))))] x0 o _ _ (a_paid l hst g ua ar cnt rows x0 hno) (fun E h => h)) ?_
  rintro r w (⟨er, v, w1, hf, ew⟩ | ⟨ew, hh⟩)
  · exact hf.elim
  · exact ⟨hh.2, ew⟩
theorem C_paid (l : Launch) (hst : l.stackTraces = false) (g : zG) (oa ua ar : Nat) (o : Nat → Int64) (S : zSt) (x0 : Int32) (hI : zI S) : zWi l yL_paid wsL_paid ({ frames := 8, cells := 1, slots := 6, locals := 180 } : Room) [.ref ua, .int x0, .ref oa] g (zWc g oa ua ar o S) (zPC g oa ua ar o S x0 gd_paid bd_paid) 1 6 := by
  obtain ⟨i1, i2, i3, i4, i5, i6, i7⟩ := hI
  exact z_lift (fun k hk ex => by subst ex; exact t_paid l hst g oa ua ar S.1 S.2.1 o k _ _ _ _ _ (Nat.lt_of_lt_of_le hk i1) (i2 k hk) (i4 k hk) (i5 k hk)) (fun hno => n_paid l hst g oa ua ar S.1 S.2.1 o x0 (z_no i3 hno))
set_option maxHeartbeats 4000000 in
theorem M_paid (l : Launch) (g : zG) (mo : Nat) (ad : zAd) (th : Int32) (S : zSt) (x0 : Int32) (hI : zI S) : zMi l yX2_paid wsX2_paid ({ frames := 4, cells := 0, slots := 0, locals := 110 } : Room) [.ref mo, .int x0] g (zWm g mo ad th S.1 S.2.2.2.2.2.2.2) (zPM g mo ad S x0 gd_paid bd_paid) 0 0 := by
  obtain ⟨cnt, rows, aa, rr, ff, zz, qq, fY, fM, fA, fR, fL, fD, fH, fI, fW, fP, fG⟩ := S
  obtain ⟨i1, i2, i3, i4, i5, i6, i7⟩ := hI
  dsimp only at i1 i2 i3 i4 i5 i6 i7
  obtain ⟨b0, b1, b2, b3, b4, b5, b6, b7, b8, b9, b10⟩ := ad
  by_cases hex : ∃ k, k < cnt ∧ x0 = nI k
  · obtain ⟨k, hk, ex⟩ := hex
    subst ex
    have hz := i4 k hk
    have hm := i6 k hk
    generalize ez : zz k = z at hz hm
    obtain ⟨T, P, py, R0, I, Pd, Wn, G⟩ := z
    refine zMi.imp (r_paid l g mo b0 b1 b2 b3 b4 b5 b6 b7 b8 b9 b10 cnt th fY fM fA fR fL fD fH fI fW fP fG k (rr k) (ff k) T P R0 py I Pd Wn G hk i1 hz hm) ?_
    rintro q w ⟨e1, ew⟩
    exact Or.inl ⟨k, (T, P, py, R0, I, Pd, Wn, G), _, hk, rfl, (by show gd_paid (rr k) (ff k) (zz k) q _; rw [ez]; exact ⟨rfl, e1⟩), ew, hm, fun i _ _ => zSame_rf i _⟩
  · have hno : ∀ j, j < cnt → x0 ≠ nI j := fun j hj ex => hex ⟨j, hj, ex⟩
    exact zMi.imp (q_paid l g mo b0 b1 b2 b3 b4 b5 b6 b7 b8 b9 b10 cnt th fY fM fA fR fL fD fH fI fW fP fG x0 i1 hno) (fun q w h => Or.inr (Or.inr ⟨hno, h⟩))

def gd_gains : zGd := fun rt _ (T, P, py, R0, I, Pd, Wn, G) v z' => z' = (T, P, py, R0, I, Pd, Wn, G) ∧ v = G
def bd_gains : zBd := fun _ _ _ _ => False
theorem dt_gains : zDt gd_gains bd_gains := by
  rintro rt lf ⟨T, P, py, R0, I, Pd, Wn, G⟩ hZ
  refine ⟨fun _ _ _ _ h => h, fun _ _ h => h.elim, fun _ h => h.elim, ?_, ?_⟩
  · rintro v z1 v2 z2 ⟨e1, e2⟩ ⟨e3, e4⟩; exact ⟨e2.trans e4.symm, e1.trans e3.symm⟩
  · rintro v z' ⟨e1, e2⟩; rw [e1]; exact hZ
set_option maxHeartbeats 4000000 in
theorem t_gains (l : Launch) (hst : l.stackTraces = false) (g : zG) (oa ua ar cnt : Nat) (rows : Nat → Option Nat) (o : Nat → Int64) (j : Nat) (a : Nat × Nat × Nat) (rt lf : Nat) (z : zS) (q : zRaw) (hj : j < 6) (hrow : rows j = some a.1) (hZ : zInv rt lf z) (hC : zCR rt z q) : zWi l yL_gains wsL_gains ({ frames := 8, cells := 1, slots := 6, locals := 180 } : Room) [.ref ua, .int (nI j), .ref oa] g (zUs g oa ua ar o cnt rows ++ zLW g a rt lf z q) (fun r w => (∃ (v : Int32) (z' : zS) (q' : zRaw), r = nI 0 ∧ gd_gains rt lf z v z' ∧ w = zUs g oa ua ar (vp_updL o 0 v.toInt64) cnt rows ++ zLW g a rt lf z' q' ∧ zCR rt z' q') ∨ (bd_gains rt lf z r ∧ w = zUs g oa ua ar o cnt rows ++ zLW g a rt lf z q)) 1 6 := by
  obtain ⟨h, pa, da⟩ := a
  obtain ⟨T, P, py, R0, I, Pd, Wn, G⟩ := z
  obtain ⟨xI, xP, xW, xG, u, v0⟩ := q
  refine zWi.imp (w_gains l g ua ar oa (nI cnt) ((ar, .inl (g.2.2.1, 6, .inr (.inr (.inr (.inr rows))))) :: zLW g (h, pa, da) rt lf (T, P, py, R0, I, Pd, Wn, G) (xI, xP, xW, xG, u, v0)) (nI j) o _ _ (p_gains l hst g ua ar cnt rows j h pa da rt lf T P R0 py I Pd Wn G xI xP xW xG u v0 hj hrow hZ hC) (fun E h => h.elim)) ?_
  rintro r w (⟨er, v, w1, ⟨e1, e2⟩, ew⟩ | ⟨ew, hh⟩)
  · exact Or.inl ⟨v, (T, P, py, R0, I, Pd, Wn, G), (xI, xP, xW, xG, u, v0), er, ⟨rfl, e1⟩, by rw [ew, e2]; rfl, hC⟩
  · exact hh.1.elim
set_option maxHeartbeats 4000000 in
theorem n_gains (l : Launch) (hst : l.stackTraces = false) (g : zG) (oa ua ar cnt : Nat) (rows : Nat → Option Nat) (o : Nat → Int64) (x0 : Int32) (hno : zNo rows x0) : zWi l yL_gains wsL_gains ({ frames := 8, cells := 1, slots := 6, locals := 180 } : Room) [.ref ua, .int x0, .ref oa] g (zUs g oa ua ar o cnt rows) (fun r w => r = nI 1 ∧ w = zUs g oa ua ar o cnt rows) 1 6 := by
  refine zWi.imp (w_gains l g ua ar oa (nI cnt) [(ar, .inl (g.2.2.1, 6, .inr (.inr (.inr (.inr rows)))))] x0 o _ _ (a_gains l hst g ua ar cnt rows x0 hno) (fun E h => h)) ?_
  rintro r w (⟨er, v, w1, hf, ew⟩ | ⟨ew, hh⟩)
  · exact hf.elim
  · exact ⟨hh.2, ew⟩
theorem C_gains (l : Launch) (hst : l.stackTraces = false) (g : zG) (oa ua ar : Nat) (o : Nat → Int64) (S : zSt) (x0 : Int32) (hI : zI S) : zWi l yL_gains wsL_gains ({ frames := 8, cells := 1, slots := 6, locals := 180 } : Room) [.ref ua, .int x0, .ref oa] g (zWc g oa ua ar o S) (zPC g oa ua ar o S x0 gd_gains bd_gains) 1 6 := by
  obtain ⟨i1, i2, i3, i4, i5, i6, i7⟩ := hI
  exact z_lift (fun k hk ex => by subst ex; exact t_gains l hst g oa ua ar S.1 S.2.1 o k _ _ _ _ _ (Nat.lt_of_lt_of_le hk i1) (i2 k hk) (i4 k hk) (i5 k hk)) (fun hno => n_gains l hst g oa ua ar S.1 S.2.1 o x0 (z_no i3 hno))
set_option maxHeartbeats 4000000 in
theorem M_gains (l : Launch) (g : zG) (mo : Nat) (ad : zAd) (th : Int32) (S : zSt) (x0 : Int32) (hI : zI S) : zMi l yX2_gains wsX2_gains ({ frames := 4, cells := 0, slots := 0, locals := 110 } : Room) [.ref mo, .int x0] g (zWm g mo ad th S.1 S.2.2.2.2.2.2.2) (zPM g mo ad S x0 gd_gains bd_gains) 0 0 := by
  obtain ⟨cnt, rows, aa, rr, ff, zz, qq, fY, fM, fA, fR, fL, fD, fH, fI, fW, fP, fG⟩ := S
  obtain ⟨i1, i2, i3, i4, i5, i6, i7⟩ := hI
  dsimp only at i1 i2 i3 i4 i5 i6 i7
  obtain ⟨b0, b1, b2, b3, b4, b5, b6, b7, b8, b9, b10⟩ := ad
  by_cases hex : ∃ k, k < cnt ∧ x0 = nI k
  · obtain ⟨k, hk, ex⟩ := hex
    subst ex
    have hz := i4 k hk
    have hm := i6 k hk
    generalize ez : zz k = z at hz hm
    obtain ⟨T, P, py, R0, I, Pd, Wn, G⟩ := z
    refine zMi.imp (r_gains l g mo b0 b1 b2 b3 b4 b5 b6 b7 b8 b9 b10 cnt th fY fM fA fR fL fD fH fI fW fP fG k (rr k) (ff k) T P R0 py I Pd Wn G hk i1 hz hm) ?_
    rintro q w ⟨e1, ew⟩
    exact Or.inl ⟨k, (T, P, py, R0, I, Pd, Wn, G), _, hk, rfl, (by show gd_gains (rr k) (ff k) (zz k) q _; rw [ez]; exact ⟨rfl, e1⟩), ew, hm, fun i _ _ => zSame_rf i _⟩
  · have hno : ∀ j, j < cnt → x0 ≠ nI j := fun j hj ex => hex ⟨j, hj, ex⟩
    exact zMi.imp (q_gains l g mo b0 b1 b2 b3 b4 b5 b6 b7 b8 b9 b10 cnt th fY fM fA fR fL fD fH fI fW fP fG x0 i1 hno) (fun q w h => Or.inr (Or.inr ⟨hno, h⟩))

def gd_rateFor (x1 : Int32) : zGd := fun rt _ (T, P, py, R0, I, Pd, Wn, G) v z' => z' = (T, P, py, R0, I, Pd, Wn, G) ∧ (nI 0 ≤ x1 ∧ x1 ≤ nI 10000000) ∧ zRate py T P (zN x1) v
def bd_rateFor (x1 : Int32) : zBd := fun _ _ (T, P, py, R0, I, Pd, Wn, G) cd => ¬ (nI 0 ≤ x1 ∧ x1 ≤ nI 10000000) ∧ cd = nI 2
theorem dt_rateFor (x1 : Int32) : zDt (gd_rateFor x1) (bd_rateFor x1) := by
  rintro rt lf ⟨T, P, py, R0, I, Pd, Wn, G⟩ hZ
  refine ⟨?_, ?_, ?_, ?_, ?_⟩
  · rintro v z' cd ⟨-, h1, -⟩ ⟨h2, -⟩; exact h2 h1
  · rintro cd cd' ⟨-, e1⟩ ⟨-, e2⟩; exact e1.trans e2.symm
  · rintro cd ⟨-, e1⟩; rw [e1]; decide
  · rintro v z1 v2 z2 ⟨e1, -, e2⟩ ⟨e3, -, e4⟩; exact ⟨zRate_one e2 e4, e1.trans e3.symm⟩
  · rintro v z' ⟨e1, -, -⟩; rw [e1]; exact hZ
set_option maxHeartbeats 4000000 in
theorem t_rateFor (l : Launch) (hst : l.stackTraces = false) (g : zG) (oa ua ar cnt : Nat) (rows : Nat → Option Nat) (o : Nat → Int64) (j : Nat) (a : Nat × Nat × Nat) (rt lf : Nat) (z : zS) (q : zRaw) (x1 : Int32) (hj : j < 6) (hrow : rows j = some a.1) (hZ : zInv rt lf z) (hC : zCR rt z q) : zWi l yL_rateFor wsL_rateFor ({ frames := 8, cells := 2, slots := 12, locals := 180 } : Room) [.ref ua, .int (nI j), .int x1, .ref oa] g (zUs g oa ua ar o cnt rows ++ zLW g a rt lf z q) (fun r w => (∃ (v : Int32) (z' : zS) (q' : zRaw), r = nI 0 ∧ (gd_rateFor x1) rt lf z v z' ∧ w = zUs g oa ua ar (vp_updL o 0 v.toInt64) cnt rows ++ zLW g a rt lf z' q' ∧ zCR rt z' q') ∨ ((bd_rateFor x1) rt lf z r ∧ w = zUs g oa ua ar o cnt rows ++ zLW g a rt lf z q)) 2 12 := by
  obtain ⟨h, pa, da⟩ := a
  obtain ⟨T, P, py, R0, I, Pd, Wn, G⟩ := z
  obtain ⟨xI, xP, xW, xG, u, v0⟩ := q
  refine zWi.imp (w_rateFor l g ua ar oa (nI cnt) ((ar, .inl (g.2.2.1, 6, .inr (.inr (.inr (.inr rows))))) :: zLW g (h, pa, da) rt lf (T, P, py, R0, I, Pd, Wn, G) (xI, xP, xW, xG, u, v0)) (nI j) x1 o _ _ (p_rateFor l hst g ua ar cnt rows j h pa da rt lf T P R0 py I Pd Wn G xI xP xW xG u v0 x1 hj hrow hZ hC) (fun E h => Or.inr h.1)) ?_
  rintro r w (⟨er, v, w1, ⟨e0, e1, e2⟩, ew⟩ | ⟨ew, hh⟩)
  · exact Or.inl ⟨v, (T, P, py, R0, I, Pd, Wn, G), (xI, xP, xW, xG, u, v0), er, ⟨rfl, e0, e1⟩, by rw [ew, e2]; rfl, hC⟩
  · rcases hh with hh | hh
    · exact absurd hh.1.1 (by decide)
    · exact Or.inr ⟨⟨hh.1.2, hh.2⟩, ew⟩
set_option maxHeartbeats 4000000 in
theorem n_rateFor (l : Launch) (hst : l.stackTraces = false) (g : zG) (oa ua ar cnt : Nat) (rows : Nat → Option Nat) (o : Nat → Int64) (x0 : Int32) (x1 : Int32) (hno : zNo rows x0) : zWi l yL_rateFor wsL_rateFor ({ frames := 8, cells := 2, slots := 12, locals := 180 } : Room) [.ref ua, .int x0, .int x1, .ref oa] g (zUs g oa ua ar o cnt rows) (fun r w => r = nI 1 ∧ w = zUs g oa ua ar o cnt rows) 2 12 := by
  refine zWi.imp (w_rateFor l g ua ar oa (nI cnt) [(ar, .inl (g.2.2.1, 6, .inr (.inr (.inr (.inr rows)))))] x0 x1 o _ _ (a_rateFor l hst g ua ar cnt rows x0 x1 hno) (fun E h => Or.inl h)) ?_
  rintro r w (⟨er, v, w1, hf, ew⟩ | ⟨ew, hh⟩)
  · exact hf.elim
  · rcases hh with hh | hh
    · exact ⟨hh.2, ew⟩
    · exact absurd hh.1 (by decide)
theorem C_rateFor (l : Launch) (hst : l.stackTraces = false) (g : zG) (oa ua ar : Nat) (o : Nat → Int64) (S : zSt) (x0 : Int32) (x1 : Int32) (hI : zI S) : zWi l yL_rateFor wsL_rateFor ({ frames := 8, cells := 2, slots := 12, locals := 180 } : Room) [.ref ua, .int x0, .int x1, .ref oa] g (zWc g oa ua ar o S) (zPC g oa ua ar o S x0 (gd_rateFor x1) (bd_rateFor x1)) 2 12 := by
  obtain ⟨i1, i2, i3, i4, i5, i6, i7⟩ := hI
  exact z_lift (fun k hk ex => by subst ex; exact t_rateFor l hst g oa ua ar S.1 S.2.1 o k _ _ _ _ _ x1 (Nat.lt_of_lt_of_le hk i1) (i2 k hk) (i4 k hk) (i5 k hk)) (fun hno => n_rateFor l hst g oa ua ar S.1 S.2.1 o x0 x1 (z_no i3 hno))
set_option maxHeartbeats 4000000 in
theorem M_rateFor (l : Launch) (g : zG) (mo : Nat) (ad : zAd) (th : Int32) (S : zSt) (x0 : Int32) (x1 : Int32) (hI : zI S) : zMi l yX2_rateFor wsX2_rateFor ({ frames := 4, cells := 0, slots := 0, locals := 110 } : Room) [.ref mo, .int x0, .int x1] g (zWm g mo ad th S.1 S.2.2.2.2.2.2.2) (zPM g mo ad S x0 (gd_rateFor x1) (bd_rateFor x1)) 0 0 := by
  obtain ⟨cnt, rows, aa, rr, ff, zz, qq, fY, fM, fA, fR, fL, fD, fH, fI, fW, fP, fG⟩ := S
  obtain ⟨i1, i2, i3, i4, i5, i6, i7⟩ := hI
  dsimp only at i1 i2 i3 i4 i5 i6 i7
  obtain ⟨b0, b1, b2, b3, b4, b5, b6, b7, b8, b9, b10⟩ := ad
  by_cases hex : ∃ k, k < cnt ∧ x0 = nI k
  · obtain ⟨k, hk, ex⟩ := hex
    subst ex
    have hz := i4 k hk
    have hm := i6 k hk
    generalize ez : zz k = z at hz hm
    obtain ⟨T, P, py, R0, I, Pd, Wn, G⟩ := z
    refine zMi.imp (r_rateFor l g mo b0 b1 b2 b3 b4 b5 b6 b7 b8 b9 b10 cnt th fY fM fA fR fL fD fH fI fW fP fG k (rr k) (ff k) T P R0 py I Pd Wn G x1 hk i1 hz hm) ?_
    rintro q w (⟨h1, ew⟩ | ⟨h1, e1, ew⟩)
    · exact Or.inr (Or.inl ⟨k, _, hk, rfl, (by show (bd_rateFor x1) (rr k) (ff k) (zz k) _; rw [ez]; exact ⟨h1, rfl⟩), ew⟩)
    · exact Or.inl ⟨k, (T, P, py, R0, I, Pd, Wn, G), _, hk, rfl, (by show (gd_rateFor x1) (rr k) (ff k) (zz k) q _; rw [ez]; exact ⟨rfl, h1, e1⟩), ew, hm, fun i _ _ => zSame_rf i _⟩
  · have hno : ∀ j, j < cnt → x0 ≠ nI j := fun j hj ex => hex ⟨j, hj, ex⟩
    exact zMi.imp (q_rateFor l g mo b0 b1 b2 b3 b4 b5 b6 b7 b8 b9 b10 cnt th fY fM fA fR fL fD fH fI fW fP fG x0 x1 i1 hno) (fun q w h => Or.inr (Or.inr ⟨hno, h⟩))

def gd_saleGain (x1 x2 : Int32) : zGd := fun rt _ (T, P, py, R0, I, Pd, Wn, G) v z' => z' = (T, P, py, R0, I, Pd, Wn, G) ∧ ((nI 0 ≤ x1 ∧ x1 ≤ nI 10000000) ∧ (nI 1 ≤ x2 ∧ x2 ≤ nI 10000000)) ∧ v = zSale (zWr rt py T (T - P)) x1 x2
def bd_saleGain (x1 x2 : Int32) : zBd := fun _ _ (T, P, py, R0, I, Pd, Wn, G) cd => ¬ ((nI 0 ≤ x1 ∧ x1 ≤ nI 10000000) ∧ (nI 1 ≤ x2 ∧ x2 ≤ nI 10000000)) ∧ cd = nI 2
theorem dt_saleGain (x1 x2 : Int32) : zDt (gd_saleGain x1 x2) (bd_saleGain x1 x2) := by
  rintro rt lf ⟨T, P, py, R0, I, Pd, Wn, G⟩ hZ
  refine ⟨?_, ?_, ?_, ?_, ?_⟩
  · rintro v z' cd ⟨-, h1, -⟩ ⟨h2, -⟩; exact h2 h1
  · rintro cd cd' ⟨-, e1⟩ ⟨-, e2⟩; exact e1.trans e2.symm
  · rintro cd ⟨-, e1⟩; rw [e1]; decide
  · rintro v z1 v2 z2 ⟨e1, -, e2⟩ ⟨e3, -, e4⟩; exact ⟨e2.trans e4.symm, e1.trans e3.symm⟩
  · rintro v z' ⟨e1, -, -⟩; rw [e1]; exact hZ
set_option maxHeartbeats 4000000 in
theorem t_saleGain (l : Launch) (hst : l.stackTraces = false) (g : zG) (oa ua ar cnt : Nat) (rows : Nat → Option Nat) (o : Nat → Int64) (j : Nat) (a : Nat × Nat × Nat) (rt lf : Nat) (z : zS) (q : zRaw) (x1 x2 : Int32) (hj : j < 6) (hrow : rows j = some a.1) (hZ : zInv rt lf z) (hC : zCR rt z q) : zWi l yL_saleGain wsL_saleGain ({ frames := 8, cells := 3, slots := 18, locals := 180 } : Room) [.ref ua, .int (nI j), .int x1, .int x2, .ref oa] g (zUs g oa ua ar o cnt rows ++ zLW g a rt lf z q) (fun r w => (∃ (v : Int32) (z' : zS) (q' : zRaw), r = nI 0 ∧ (gd_saleGain x1 x2) rt lf z v z' ∧ w = zUs g oa ua ar (vp_updL o 0 v.toInt64) cnt rows ++ zLW g a rt lf z' q' ∧ zCR rt z' q') ∨ ((bd_saleGain x1 x2) rt lf z r ∧ w = zUs g oa ua ar o cnt rows ++ zLW g a rt lf z q)) 3 18 := by
  obtain ⟨h, pa, da⟩ := a
  obtain ⟨T, P, py, R0, I, Pd, Wn, G⟩ := z
  obtain ⟨xI, xP, xW, xG, u, v0⟩ := q
  refine zWi.imp (w_saleGain l g ua ar oa (nI cnt) ((ar, .inl (g.2.2.1, 6, .inr (.inr (.inr (.inr rows))))) :: zLW g (h, pa, da) rt lf (T, P, py, R0, I, Pd, Wn, G) (xI, xP, xW, xG, u, v0)) (nI j) x1 x2 o _ _ (p_saleGain l hst g ua ar cnt rows j h pa da rt lf T P R0 py I Pd Wn G xI xP xW xG u v0 x1 x2 hj hrow hZ hC) (fun E h => Or.inr h.1)) ?_
  rintro r w (⟨er, v, w1, ⟨e0, e1, e2⟩, ew⟩ | ⟨ew, hh⟩)
  · exact Or.inl ⟨v, (T, P, py, R0, I, Pd, Wn, G), (xI, xP, xW, xG, u, v0), er, ⟨rfl, e0, e1⟩, by rw [ew, e2]; rfl, hC⟩
  · rcases hh with hh | hh
    · exact absurd hh.1.1 (by decide)
    · exact Or.inr ⟨⟨hh.1.2, hh.2⟩, ew⟩
set_option maxHeartbeats 4000000 in
theorem n_saleGain (l : Launch) (hst : l.stackTraces = false) (g : zG) (oa ua ar cnt : Nat) (rows : Nat → Option Nat) (o : Nat → Int64) (x0 : Int32) (x1 x2 : Int32) (hno : zNo rows x0) : zWi l yL_saleGain wsL_saleGain ({ frames := 8, cells := 3, slots := 18, locals := 180 } : Room) [.ref ua, .int x0, .int x1, .int x2, .ref oa] g (zUs g oa ua ar o cnt rows) (fun r w => r = nI 1 ∧ w = zUs g oa ua ar o cnt rows) 3 18 := by
  refine zWi.imp (w_saleGain l g ua ar oa (nI cnt) [(ar, .inl (g.2.2.1, 6, .inr (.inr (.inr (.inr rows)))))] x0 x1 x2 o _ _ (a_saleGain l hst g ua ar cnt rows x0 x1 x2 hno) (fun E h => Or.inl h)) ?_
  rintro r w (⟨er, v, w1, hf, ew⟩ | ⟨ew, hh⟩)
  · exact hf.elim
  · rcases hh with hh | hh
    · exact ⟨hh.2, ew⟩
    · exact absurd hh.1 (by decide)
theorem C_saleGain (l : Launch) (hst : l.stackTraces = false) (g : zG) (oa ua ar : Nat) (o : Nat → Int64) (S : zSt) (x0 : Int32) (x1 x2 : Int32) (hI : zI S) : zWi l yL_saleGain wsL_saleGain ({ frames := 8, cells := 3, slots := 18, locals := 180 } : Room) [.ref ua, .int x0, .int x1, .int x2, .ref oa] g (zWc g oa ua ar o S) (zPC g oa ua ar o S x0 (gd_saleGain x1 x2) (bd_saleGain x1 x2)) 3 18 := by
  obtain ⟨i1, i2, i3, i4, i5, i6, i7⟩ := hI
  exact z_lift (fun k hk ex => by subst ex; exact t_saleGain l hst g oa ua ar S.1 S.2.1 o k _ _ _ _ _ x1 x2 (Nat.lt_of_lt_of_le hk i1) (i2 k hk) (i4 k hk) (i5 k hk)) (fun hno => n_saleGain l hst g oa ua ar S.1 S.2.1 o x0 x1 x2 (z_no i3 hno))
set_option maxHeartbeats 4000000 in
theorem M_saleGain (l : Launch) (g : zG) (mo : Nat) (ad : zAd) (th : Int32) (S : zSt) (x0 : Int32) (x1 x2 : Int32) (hI : zI S) : zMi l yX2_saleGain wsX2_saleGain ({ frames := 4, cells := 0, slots := 0, locals := 110 } : Room) [.ref mo, .int x0, .int x1, .int x2] g (zWm g mo ad th S.1 S.2.2.2.2.2.2.2) (zPM g mo ad S x0 (gd_saleGain x1 x2) (bd_saleGain x1 x2)) 0 0 := by
  obtain ⟨cnt, rows, aa, rr, ff, zz, qq, fY, fM, fA, fR, fL, fD, fH, fI, fW, fP, fG⟩ := S
  obtain ⟨i1, i2, i3, i4, i5, i6, i7⟩ := hI
  dsimp only at i1 i2 i3 i4 i5 i6 i7
  obtain ⟨b0, b1, b2, b3, b4, b5, b6, b7, b8, b9, b10⟩ := ad
  by_cases hex : ∃ k, k < cnt ∧ x0 = nI k
  · obtain ⟨k, hk, ex⟩ := hex
    subst ex
    have hz := i4 k hk
    have hm := i6 k hk
    generalize ez : zz k = z at hz hm
    obtain ⟨T, P, py, R0, I, Pd, Wn, G⟩ := z
    refine zMi.imp (r_saleGain l g mo b0 b1 b2 b3 b4 b5 b6 b7 b8 b9 b10 cnt th fY fM fA fR fL fD fH fI fW fP fG k (rr k) (ff k) T P R0 py I Pd Wn G x1 x2 hk i1 hz hm) ?_
    rintro q w (⟨h1, ew⟩ | ⟨h1, e1, ew⟩)
    · exact Or.inr (Or.inl ⟨k, _, hk, rfl, (by show (bd_saleGain x1 x2) (rr k) (ff k) (zz k) _; rw [ez]; exact ⟨h1, rfl⟩), ew⟩)
    · exact Or.inl ⟨k, (T, P, py, R0, I, Pd, Wn, G), _, hk, rfl, (by show (gd_saleGain x1 x2) (rr k) (ff k) (zz k) q _; rw [ez]; exact ⟨rfl, h1, e1⟩), ew, hm, fun i _ _ => zSame_rf i _⟩
  · have hno : ∀ j, j < cnt → x0 ≠ nI j := fun j hj ex => hex ⟨j, hj, ex⟩
    exact zMi.imp (q_saleGain l g mo b0 b1 b2 b3 b4 b5 b6 b7 b8 b9 b10 cnt th fY fM fA fR fL fD fH fI fW fP fG x0 x1 x2 i1 hno) (fun q w h => Or.inr (Or.inr ⟨hno, h⟩))
