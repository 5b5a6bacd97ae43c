/-! the law: a new lease, months; both sides -/
abbrev zRg (x1 x2 x3 x4 x5 x6 x7 : Int32) : Prop := ((nI 1 ≤ x1 ∧ x1 ≤ nI 60) ∧ ((nI 1 ≤ x2 ∧ x2 ≤ nI 10000) ∧ ((nI 0 ≤ x3 ∧ x3 ≤ nI 12) ∧ ((nI 0 ≤ x4 ∧ x4 ≤ nI 1000) ∧ ((nI 0 ≤ x5 ∧ x5 ≤ nI 20000) ∧ ((nI 1 ≤ x6 ∧ x6 ≤ nI 120) ∧ (nI 0 ≤ x7 ∧ x7 ≤ nI 10000)))))))
abbrev zNw (x1 x2 x3 x4 x5 x7 : Int32) : zS := zNew (zN x1) (zN x2) (zN x3) (zN x4) (zN x5) (zN x7)
theorem z_lsnew {g : zG} {n : Nat} {aa : Nat → Nat × Nat × Nat} {rr ff : Nat → Nat} {zz : Nat → zS} {qq : Nat → zRaw} {a : Nat × Nat × Nat} {r f : Nat} {z : zS} {q : zRaw} : zLs g (n + 1) (va_up aa n a) (va_up rr n r) (va_up ff n f) (va_up zz n z) (va_up qq n q) = zLs g n aa rr ff zz qq ++ zLW g a r f z q := by
  rw [zLs_s]
  simp only [va_up_self]
  congr 1
  refine z_flat fun k hk => ?_
  have := List.mem_range.mp hk
  rw [va_up_ne _ _ (by omega), va_up_ne _ _ (by omega), va_up_ne _ _ (by omega), va_up_ne _ _ (by omega), va_up_ne _ _ (by omega)]
def zAC (g : zG) (oa ua ar : Nat) (o : Nat → Int64) (S : zSt) (x1 x2 x3 x4 x5 x6 x7 : Int32) : Int32 → va_W → Prop := fun r w =>
  (zRg x1 x2 x3 x4 x5 x6 x7 ∧ S.1 < 6 ∧ r = nI 0 ∧ ∃ (h pa da : Nat) (q' : zRaw), w = zUs g oa ua ar (vp_updL o 0 (nI S.1).toInt64) (S.1 + 1) (va_up S.2.1 S.1 (some h)) ++ zLs g (S.1 + 1) (va_up S.2.2.1 S.1 (h, pa, da)) (va_up S.2.2.2.1 S.1 (zN x5)) (va_up S.2.2.2.2.1 S.1 (zN x6)) (va_up S.2.2.2.2.2.1 S.1 (zNw x1 x2 x3 x4 x5 x7)) (va_up S.2.2.2.2.2.2.1 S.1 q') ∧ zCR (zN x5) (zNw x1 x2 x3 x4 x5 x7) q') ∨
  (¬ zRg x1 x2 x3 x4 x5 x6 x7 ∧ r = nI 1 ∧ w = zWc g oa ua ar o S) ∨
  (zRg x1 x2 x3 x4 x5 x6 x7 ∧ ¬ S.1 < 6 ∧ r = nI 2 ∧ w = zWc g oa ua ar o S)
def zAM (g : zG) (mo : Nat) (ad : zAd) (S : zSt) (x1 x2 x3 x4 x5 x6 x7 : Int32) : Int32 → va_W → Prop := fun q w =>
  (¬ zRg x1 x2 x3 x4 x5 x6 x7 ∧ w = zWm g mo ad (nI 1) S.1 S.2.2.2.2.2.2.2) ∨
  (zRg x1 x2 x3 x4 x5 x6 x7 ∧ ¬ S.1 < 6 ∧ w = zWm g mo ad (nI 2) S.1 S.2.2.2.2.2.2.2) ∨
  (zRg x1 x2 x3 x4 x5 x6 x7 ∧ S.1 < 6 ∧ q = nI S.1 ∧ ∃ F' : zFs, w = zWm g mo ad (nI 0) (S.1 + 1) F' ∧ zMR S.1 (zN x5) (zN x6) (zNw x1 x2 x3 x4 x5 x7) F' ∧ ∀ i, i < 6 → i ≠ S.1 → zSame i S.2.2.2.2.2.2.2 F')
set_option maxHeartbeats 4000000 in
theorem C_add (l : Launch) (hst : l.stackTraces = false) (g : zG) (oa ua ar : Nat) (o : Nat → Int64) (S : zSt) (x1 x2 x3 x4 x5 x6 x7 : Int32) (hI : zI S) : zWi l yL_add wsL_add ({ frames := 8, cells := 11, slots := 301, locals := 180 } : Room) [.ref ua, .int x1, .int x2, .int x3, .int x4, .int x5, .int x6, .int x7, .ref oa] g (zWc g oa ua ar o S) (zAC g oa ua ar o S x1 x2 x3 x4 x5 x6 x7) 11 301 := by
  obtain ⟨cnt, rows, aa, rr, ff, zz, qq, F⟩ := S
  have i1 : cnt ≤ 6 := hI.1
  refine zWi.frame (wc := zUs g oa ua ar o cnt rows) (wx := zLs g cnt aa rr ff zz qq) (List.Perm.refl _) (w_add l g ua ar oa (nI cnt) [(ar, .inl (g.2.2.1, 6, .inr (.inr (.inr (.inr rows)))))] x1 x2 x3 x4 x5 x6 x7 o _ _ (c_add l hst g ua ar cnt rows x1 x2 x3 x4 x5 x6 x7 i1) (fun E h => h.elim (fun h => Or.inl h.1) (fun h => Or.inr h.1))) ?_
  rintro r w (⟨er, v, w1, ⟨h1, h2, e1, h, pa, da, q', e2, hcr⟩, ew⟩ | ⟨ew, ⟨h1 | h1, e5⟩ | ⟨h1 | h1, e5⟩⟩)
  · refine ⟨_, ?_, Or.inl ⟨h1, h2, er, h, pa, da, q', rfl, hcr⟩⟩
    dsimp only
    rw [ew, e2, e1, z_lsnew]
    have perm : ∀ (X Y V : va_W), (X ++ (Y ++ V)).Perm ((X ++ V) ++ Y) := fun X Y V => by
      rw [List.append_assoc]
      exact List.Perm.append_left X List.perm_append_comm
    exact perm (zUs g oa ua ar (vp_updL o 0 (nI cnt).toInt64) (cnt + 1) (va_up rows cnt (some h))) _ _
  · exact ⟨_, List.Perm.refl _, Or.inr (Or.inl ⟨h1.2, e5, by rw [ew]; rfl⟩)⟩
  · exact absurd h1.1 (by decide)
  · exact absurd h1.1 (by decide)
  · exact ⟨_, List.Perm.refl _, Or.inr (Or.inr ⟨h1.2.1, h1.2.2, e5, by rw [ew]; rfl⟩)⟩
set_option maxHeartbeats 4000000 in
theorem M_add (l : Launch) (g : zG) (mo : Nat) (ad : zAd) (th : Int32) (S : zSt) (x1 x2 x3 x4 x5 x6 x7 : Int32) (hI : zI S) : zMi l yX2_add wsX2_add ({ frames := 4, cells := 0, slots := 0, locals := 110 } : Room) [.ref mo, .int x1, .int x2, .int x3, .int x4, .int x5, .int x6, .int x7] g (zWm g mo ad th S.1 S.2.2.2.2.2.2.2) (zAM g mo ad S x1 x2 x3 x4 x5 x6 x7) 0 0 := by
  obtain ⟨cnt, rows, aa, rr, ff, zz, qq, fY, fM, fA, fR, fL, fD, fH, fI, fW, fP, fG⟩ := S
  obtain ⟨b0, b1, b2, b3, b4, b5, b6, b7, b8, b9, b10⟩ := ad
  exact zMi.imp (m_add l g mo b0 b1 b2 b3 b4 b5 b6 b7 b8 b9 b10 cnt th fY fM fA fR fL fD fH fI fW fP fG x1 x2 x3 x4 x5 x6 x7 hI.1 hI.2.2.2.2.2.2) (fun q w h => h)
theorem T_add {g : zG} {mo : Nat} {ad : zAd} {oa ua ar : Nat} {o : Nat → Int64} {S : zSt} {x1 x2 x3 x4 x5 x6 x7 r q : Int32} {wC wM : va_W} (hI : zI S) (hc : zAC g oa ua ar o S x1 x2 x3 x4 x5 x6 x7 r wC) (hm : zAM g mo ad S x1 x2 x3 x4 x5 x6 x7 q wM) : zTog g mo ad oa ua ar r q wC wM := by
  obtain ⟨cnt, rows, aa, rr, ff, zz, qq, F⟩ := S
  obtain ⟨i1, i2, i3, i4, i5, i6, i7⟩ := id hI
  dsimp only at i1 i2 i3 i4 i5 i6 i7
  rcases hc with ⟨h1, h2, er, h, pa, da, q', ew, hcr⟩ | ⟨h1, er, ew⟩ | ⟨h1, h2, er, ew⟩
  · rcases hm with ⟨g1, -⟩ | ⟨-, g1, -⟩ | ⟨-, -, eq, F', ew2, hmr, hsm⟩
    · exact absurd h1 g1
    · exact absurd h2 g1
    · dsimp only at h2 ew hcr eq ew2 hmr hsm
      refine ⟨(cnt + 1, va_up rows cnt (some h), va_up aa cnt (h, pa, da), va_up rr cnt (zN x5), va_up ff cnt (zN x6), va_up zz cnt (zNw x1 x2 x3 x4 x5 x7), va_up qq cnt q', F'), nI 0, vp_updL o 0 (nI cnt).toInt64, ⟨by show cnt + 1 ≤ 6; omega, ?_, ?_, ?_, ?_, ?_, ?_⟩, ew, ew2, er, fun _ => by rw [eq]; rfl⟩ <;> dsimp only
      · intro j hj
        by_cases e : j = cnt
        · subst e; rw [va_up_self, va_up_self]
        · rw [va_up_ne _ _ e, va_up_ne _ _ e]; exact i2 j (by omega)
      · intro j h3 h4
        rw [va_up_ne _ _ (by omega)]; exact i3 j (by omega) h4
      · intro j hj
        by_cases e : j = cnt
        · subst e; rw [va_up_self, va_up_self, va_up_self]
          obtain ⟨e1, a1, b1⟩ := zN_in (by decide) (by decide) h1.1
          obtain ⟨e2, a2, b2⟩ := zN_in (by decide) (by decide) h1.2.1
          obtain ⟨e4, a4, b4⟩ := zN_in (by decide) (by decide) h1.2.2.2.1
          obtain ⟨e5, a5, b5⟩ := zN_in (by decide) (by decide) h1.2.2.2.2.1
          obtain ⟨e6, a6, b6⟩ := zN_in (by decide) (by decide) h1.2.2.2.2.2.1
          obtain ⟨e7, a7, b7⟩ := zN_in (by decide) (by decide) h1.2.2.2.2.2.2
          exact zInv_new (by omega) (by omega) (by omega) (by omega) (by omega) (by omega)
        · rw [va_up_ne _ _ e, va_up_ne _ _ e, va_up_ne _ _ e]; exact i4 j (by omega)
      · intro j hj
        by_cases e : j = cnt
        · subst e; rw [va_up_self, va_up_self, va_up_self]; exact hcr
        · rw [va_up_ne _ _ e, va_up_ne _ _ e, va_up_ne _ _ e]; exact i5 j (by omega)
      · intro j hj
        by_cases e : j = cnt
        · subst e; rw [va_up_self, va_up_self, va_up_self]; exact hmr
        · rw [va_up_ne _ _ e, va_up_ne _ _ e, va_up_ne _ _ e]; exact zMR_same (i6 j (by omega)) (hsm j (by omega) e) (by have h9 := i4 j (by omega); revert h9; generalize zz j = y; obtain ⟨T, P, py, R0, I, Pd, Wn, G⟩ := y; exact fun h9 => h9.1)
      · exact zZ0_same i7 (Nat.le_succ cnt) (fun i a b => hsm i b (by omega))
  · rcases hm with ⟨g1, ew2⟩ | ⟨g1, -⟩ | ⟨g1, -⟩
    · exact ⟨_, nI 1, o, hI, ew, ew2, er, fun h => absurd (er.symm.trans h) (by decide)⟩
    · exact absurd g1 h1
    · exact absurd g1 h1
  · rcases hm with ⟨g1, -⟩ | ⟨-, -, ew2⟩ | ⟨-, g1, -⟩
    · exact absurd h1 g1
    · exact ⟨_, nI 2, o, hI, ew, ew2, er, fun h => absurd (er.symm.trans h) (by decide)⟩
    · exact absurd g1 h2
-- months
def zQC (g : zG) (oa ua ar : Nat) (o : Nat → Int64) (S : zSt) (x1 : Int32) : Int32 → va_W → Prop := fun r w =>
  ((nI 1 ≤ x1 ∧ x1 ≤ nI 24) ∧ r = nI 0 ∧ ∃ qq' : Nat → zRaw, w = zUs g oa ua ar (vp_updL o 0 (nI (zOv (zN x1) S.2.2.2.2.2.1 S.1)).toInt64) S.1 S.2.1 ++ zLs g S.1 S.2.2.1 S.2.2.2.1 S.2.2.2.2.1 (fun k => zPs (S.2.2.2.1 k) (S.2.2.2.2.1 k) (zN x1) (S.2.2.2.2.2.1 k)) qq' ∧ ∀ k, k < S.1 → zCR (S.2.2.2.1 k) (zPs (S.2.2.2.1 k) (S.2.2.2.2.1 k) (zN x1) (S.2.2.2.2.2.1 k)) (qq' k)) ∨
  (¬ (nI 1 ≤ x1 ∧ x1 ≤ nI 24) ∧ r = nI 1 ∧ w = zWc g oa ua ar o S)
def zQM (g : zG) (mo : Nat) (ad : zAd) (S : zSt) (x1 : Int32) : Int32 → va_W → Prop := fun q w =>
  (¬ (nI 1 ≤ x1 ∧ x1 ≤ nI 24) ∧ w = zWm g mo ad (nI 1) S.1 S.2.2.2.2.2.2.2) ∨
  ((nI 1 ≤ x1 ∧ x1 ≤ nI 24) ∧ q = nI (zOv (zN x1) S.2.2.2.2.2.1 S.1) ∧ ∃ F' : zFs, w = zWm g mo ad (nI 0) S.1 F' ∧ (∀ j, j < S.1 → zMR j (S.2.2.2.1 j) (S.2.2.2.2.1 j) (zPs (S.2.2.2.1 j) (S.2.2.2.2.1 j) (zN x1) (S.2.2.2.2.2.1 j)) F') ∧ ∀ j, S.1 ≤ j → j < 6 → zSame j S.2.2.2.2.2.2.2 F')
set_option maxHeartbeats 4000000 in
theorem C_pass (l : Launch) (hst : l.stackTraces = false) (g : zG) (oa ua ar : Nat) (o : Nat → Int64) (S : zSt) (x1 : Int32) (hI : zI S) : zWi l yL_pass wsL_pass ({ frames := 8, cells := 1, slots := 6, locals := 180 } : Room) [.ref ua, .int x1, .ref oa] g (zWc g oa ua ar o S) (zQC g oa ua ar o S x1) 1 6 := by
  obtain ⟨cnt, rows, aa, rr, ff, zz, qq, F⟩ := S
  obtain ⟨i1, i2, i3, i4, i5, i6, i7⟩ := id hI
  refine zWi.imp (w_pass l g ua ar oa (nI cnt) ((ar, .inl (g.2.2.1, 6, .inr (.inr (.inr (.inr rows))))) :: zLs g cnt aa rr ff zz qq) x1 o _ _ (c_pass l hst g ua ar cnt rows aa rr ff zz qq x1 i1 i2 i3 i4 i5) (fun E h => h.1)) ?_
  rintro r w (⟨er, v, w1, ⟨h1, e1, qq', e2, hcr⟩, ew⟩ | ⟨ew, h1, e5⟩)
  · exact Or.inl ⟨h1, er, qq', by rw [ew, e2, e1]; rfl, hcr⟩
  · exact Or.inr ⟨h1.2, e5, ew⟩
set_option maxHeartbeats 4000000 in
theorem M_pass (l : Launch) (g : zG) (mo : Nat) (ad : zAd) (th : Int32) (S : zSt) (x1 : Int32) (hI : zI S) : zMi l yX2_pass wsX2_pass ({ frames := 4, cells := 0, slots := 0, locals := 110 } : Room) [.ref mo, .int x1] g (zWm g mo ad th S.1 S.2.2.2.2.2.2.2) (zQM g mo ad S x1) 0 0 := by
  obtain ⟨cnt, rows, aa, rr, ff, zz, qq, fY, fM, fA, fR, fL, fD, fH, fI, fW, fP, fG⟩ := S
  obtain ⟨b0, b1, b2, b3, b4, b5, b6, b7, b8, b9, b10⟩ := ad
  obtain ⟨i1, i2, i3, i4, i5, i6, i7⟩ := id hI
  exact zMi.imp (m_pass l g mo b0 b1 b2 b3 b4 b5 b6 b7 b8 b9 b10 cnt th fY fM fA fR fL fD fH fI fW fP fG rr ff zz x1 i1 i4 i6) (fun q w h => h)
theorem zInv_le {rt lf : Nat} {z : zS} (h : zInv rt lf z) : z.1 ≤ 120 ∧ z.2.1 ≤ z.1 := by
  obtain ⟨T, P, py, R0, I, Pd, Wn, G⟩ := z
  exact ⟨h.1, h.2.1⟩
theorem T_pass {g : zG} {mo : Nat} {ad : zAd} {oa ua ar : Nat} {o : Nat → Int64} {S : zSt} {x1 r q : Int32} {wC wM : va_W} (hI : zI S) (hc : zQC g oa ua ar o S x1 r wC) (hm : zQM g mo ad S x1 q wM) : zTog g mo ad oa ua ar r q wC wM := by
  obtain ⟨cnt, rows, aa, rr, ff, zz, qq, F⟩ := S
  obtain ⟨i1, i2, i3, i4, i5, i6, i7⟩ := id hI
  dsimp only at i1 i2 i3 i4 i5 i6 i7
  rcases hc with ⟨h1, er, qq', ew, hcr⟩ | ⟨h1, er, ew⟩
  · rcases hm with ⟨g1, -⟩ | ⟨-, eq, F', ew2, hmr, hsm⟩
    · exact absurd h1 g1
    · dsimp only at ew hcr eq ew2 hmr hsm
      refine ⟨(cnt, rows, aa, rr, ff, fun k => zPs (rr k) (ff k) (zN x1) (zz k), qq', F'), nI 0, vp_updL o 0 (nI (zOv (zN x1) zz cnt)).toInt64, ⟨i1, i2, i3, fun j hj => ?_, hcr, hmr, zZ0_same i7 (Nat.le_refl cnt) hsm⟩, ew, ew2, er, fun _ => by rw [eq]; rfl⟩
      have h2 := zInv_le (i4 j hj)
      exact zInv_it (i4 j hj) _ (by omega)
  · rcases hm with ⟨g1, ew2⟩ | ⟨g1, -⟩
    · exact ⟨_, nI 1, o, hI, ew, ew2, er, fun h => absurd (er.symm.trans h) (by decide)⟩
    · exact absurd g1 h1
