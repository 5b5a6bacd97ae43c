/-! the law: both sides' answers, side by side -/
theorem zWi.imp {l : Launch} {y : MethodName} {wsy : List Cond} {rm : Room} {av : List Value} {g : zG} {ws : va_W} {post post' : Int32 → va_W → Prop} {mc ms : Nat} (h : zWi l y wsy rm av g ws post mc ms) (hq : ∀ r w, post r w → post' r w) : zWi l y wsy rm av g ws post' mc ms := by
  intro sz A hAe p e ha hc hk s m args below hf happ hv hkk
  obtain ⟨n, o, h1, h2, h3, ⟨⟨r, u, ho, hp, hz⟩, hF⟩, hL⟩ := h sz A hAe p e ha hc hk s m args below hf happ hv hkk
  exact ⟨n, o, h1, h2, h3, ⟨⟨r, u, ho, hq r u hp, hz⟩, hF⟩, hL⟩
theorem zMi.imp {l : Launch} {y : MethodName} {wsy : List Cond} {rm : Room} {av : List Value} {g : zG} {ws : va_W} {post post' : Int32 → va_W → Prop} {mc ms : Nat} (h : zMi l y wsy rm av g ws post mc ms) (hq : ∀ r w, post r w → post' r w) : zMi l y wsy rm av g ws post' mc ms := by
  intro sz A hAe p e ha hc hk s m args below hf happ hv hkk
  obtain ⟨n, o, h1, h2, h3, ⟨⟨r, u, ho, hp, hz⟩, hF⟩, hL⟩ := h sz A hAe p e ha hc hk s m args below hf happ hv hkk
  exact ⟨n, o, h1, h2, h3, ⟨⟨r, u, ho, hq r u hp, hz⟩, hF⟩, hL⟩
/-- more of the world than the call asks for -/
theorem zWi.frame {l : Launch} {y : MethodName} {wsy : List Cond} {rm : Room} {av : List Value} {g : zG} {ws wc wx : va_W} {post post' : Int32 → va_W → Prop} {mc ms : Nat} (hp : ws.Perm (wc ++ wx)) (h : zWi l y wsy rm av g wc post mc ms) (hq : ∀ r w1, post r w1 → ∃ w2 : va_W, w2.Perm (w1 ++ wx) ∧ post' r w2) : zWi l y wsy rm av g ws post' mc ms := by
  intro sz A hAe p e ha hc hk s m args below hf happ hv hkk
  obtain ⟨ea, ⟨hsz, hP, hK, hD0⟩, hX⟩ := hv
  obtain ⟨hD, hA, hS⟩ := z_in hsz hAe hD0
  have hP' : va_P g.1 vwCl ([] ++ wc ++ wx) s.heap := zP_perm hP hp.symm
  have hD' : va_D A ([] ++ wc ++ wx) := zD_perm hD hp.symm
  have hF : ∀ q, va_A wc s.heap.size q → A q := zfree hD' hS hA
  obtain ⟨n, o, h1, h2, h3, ⟨⟨r, u, ho, hpost, hP1, hK1, hD1⟩, hFr⟩, LL, h5, h6⟩ := h s.heap.size _ rfl p e ha hc hk s m args below hf happ ⟨ea, ⟨rfl, zP_mid hP', hK, (zD_mid hD').weaken (fun _ _ _ _ => trivial)⟩, ⟨hX.1.narrow hF, hX.2.1.narrow hF, hX.2.2⟩⟩ hkk
  obtain ⟨w2, hw2, hpost2⟩ := hq r u hpost
  obtain ⟨hP2, hD2⟩ := zjoin hP' hD' hFr.2 hF hP1 hD1
  exact ⟨n, o, h1, h2, h3, ⟨⟨r, w2, ho, hpost2, zP_perm hP2 hw2, hK1, zD_perm hD2 hw2⟩, hFr.1, fun q a b => hFr.2 q a (fun h => b (hF q h))⟩, LL, h5, fun q hq => hF _ (h6 q hq)⟩
-- what stands between two calls: how many leases, the rows, their cells and numbers, the reference's numbers
abbrev zSt : Type := Nat × (Nat → Option Nat) × (Nat → Nat × Nat × Nat) × (Nat → Nat) × (Nat → Nat) × (Nat → zS) × (Nat → zRaw) × zFs
abbrev zUs (g : zG) (oa ua ar : Nat) (o : Nat → Int64) (cnt : Nat) (rows : Nat → Option Nat) : va_W := [(oa, .inl (g.2.2.2, 1, .inr (.inl o))), (ua, .inr (1, [.ref ar, .int (nI cnt)])), (ar, .inl (g.2.2.1, 6, .inr (.inr (.inr (.inr rows)))))]
abbrev zWc (g : zG) (oa ua ar : Nat) (o : Nat → Int64) (S : zSt) : va_W := zUs g oa ua ar o S.1 S.2.1 ++ zLs g S.1 S.2.2.1 S.2.2.2.1 S.2.2.2.2.1 S.2.2.2.2.2.1 S.2.2.2.2.2.2.1
abbrev zAd : Type := Nat × Nat × Nat × Nat × Nat × Nat × Nat × Nat × Nat × Nat × Nat
abbrev zWm (g : zG) (mo : Nat) (ad : zAd) (th : Int32) (cnt : Nat) (F : zFs) : va_W := zMo g mo ad.1 ad.2.1 ad.2.2.1 ad.2.2.2.1 ad.2.2.2.2.1 ad.2.2.2.2.2.1 ad.2.2.2.2.2.2.1 ad.2.2.2.2.2.2.2.1 ad.2.2.2.2.2.2.2.2.1 ad.2.2.2.2.2.2.2.2.2.1 ad.2.2.2.2.2.2.2.2.2.2 cnt th F
def zZ0 (cnt : Nat) : zFs → Prop := fun (_, _, fA, _, _, _, _, fI, fW, fP, fG) => ∀ i, cnt ≤ i → i < 6 → fA i = nI 0 ∧ fI i = 0 ∧ fW i = 0 ∧ fP i = 0 ∧ fG i = 0
theorem zZ0_same {c0 c1 : Nat} {F F' : zFs} (h : zZ0 c0 F) (hc : c0 ≤ c1) (hs : ∀ i, c1 ≤ i → i < 6 → zSame i F F') : zZ0 c1 F' := by
  obtain ⟨fY, fM, fA, fR, fL, fD, fH, fI, fW, fP, fG⟩ := F
  obtain ⟨gY, gM, gA, gR, gL, gD, gH, gI, gW, gP, gG⟩ := F'
  intro i h1 h2
  obtain ⟨s1, s2, s3, s4, s5, s6, s7, s8, s9, s10, s11⟩ := hs i h1 h2
  obtain ⟨h3, h4, h5, h6, h7⟩ := h i (Nat.le_trans hc h1) h2
  exact ⟨s2.trans h3, s7.trans h4, s8.trans h5, s9.trans h6, s10.trans h7⟩
def zI (S : zSt) : Prop := S.1 ≤ 6 ∧ (∀ k, k < S.1 → S.2.1 k = some (S.2.2.1 k).1) ∧ (∀ k, S.1 ≤ k → k < 6 → S.2.1 k = none) ∧ (∀ k, k < S.1 → zInv (S.2.2.2.1 k) (S.2.2.2.2.1 k) (S.2.2.2.2.2.1 k)) ∧ (∀ k, k < S.1 → zCR (S.2.2.2.1 k) (S.2.2.2.2.2.1 k) (S.2.2.2.2.2.2.1 k)) ∧ (∀ k, k < S.1 → zMR k (S.2.2.2.1 k) (S.2.2.2.2.1 k) (S.2.2.2.2.2.1 k) S.2.2.2.2.2.2.2) ∧ zZ0 S.1 S.2.2.2.2.2.2.2
def zTog (g : zG) (mo : Nat) (ad : zAd) (oa ua ar : Nat) (r q : Int32) (wC wM : va_W) : Prop := ∃ (S : zSt) (th : Int32) (o : Nat → Int64), zI S ∧ wC = zWc g oa ua ar o S ∧ wM = zWm g mo ad th S.1 S.2.2.2.2.2.2.2 ∧ r = th ∧ (r = nI 0 → o 0 = q.toInt64)
/-- what a call on a lease does: the answer and the lease behind it; or the code of what it throws -/
abbrev zGd : Type := Nat → Nat → zS → Int32 → zS → Prop
abbrev zBd : Type := Nat → Nat → zS → Int32 → Prop
def zDt (GD : zGd) (BD : zBd) : Prop := ∀ rt lf z, zInv rt lf z → (∀ v z' c, GD rt lf z v z' → BD rt lf z c → False) ∧ (∀ c c', BD rt lf z c → BD rt lf z c' → c = c') ∧ (∀ c, BD rt lf z c → c ≠ nI 0) ∧ (∀ v z1 v2 z2, GD rt lf z v z1 → GD rt lf z v2 z2 → v = v2 ∧ z1 = z2) ∧ (∀ v z', GD rt lf z v z' → zInv rt lf z')
/-- the class's answer, by the lease's number -/
def zPC (g : zG) (oa ua ar : Nat) (o : Nat → Int64) (S : zSt) (x0 : Int32) (GD : zGd) (BD : zBd) : Int32 → va_W → Prop := fun r w =>
  (∃ (k : Nat) (v : Int32) (z' : zS) (q' : zRaw), k < S.1 ∧ x0 = nI k ∧ r = nI 0 ∧ GD (S.2.2.2.1 k) (S.2.2.2.2.1 k) (S.2.2.2.2.2.1 k) v z' ∧ w = zUs g oa ua ar (vp_updL o 0 v.toInt64) S.1 S.2.1 ++ zLs g S.1 S.2.2.1 S.2.2.2.1 S.2.2.2.2.1 (va_up S.2.2.2.2.2.1 k z') (va_up S.2.2.2.2.2.2.1 k q') ∧ zCR (S.2.2.2.1 k) z' q') ∨
  (∃ k : Nat, k < S.1 ∧ x0 = nI k ∧ BD (S.2.2.2.1 k) (S.2.2.2.2.1 k) (S.2.2.2.2.2.1 k) r ∧ w = zWc g oa ua ar o S) ∨
  ((∀ j, j < S.1 → x0 ≠ nI j) ∧ r = nI 1 ∧ w = zWc g oa ua ar o S)
/-- the reference's -/
def zPM (g : zG) (mo : Nat) (ad : zAd) (S : zSt) (x0 : Int32) (GD : zGd) (BD : zBd) : Int32 → va_W → Prop := fun q w =>
  (∃ (k : Nat) (z' : zS) (F' : zFs), k < S.1 ∧ x0 = nI k ∧ GD (S.2.2.2.1 k) (S.2.2.2.2.1 k) (S.2.2.2.2.2.1 k) q z' ∧ w = zWm g mo ad (nI 0) S.1 F' ∧ zMR k (S.2.2.2.1 k) (S.2.2.2.2.1 k) z' F' ∧ ∀ i, i < 6 → i ≠ k → zSame i S.2.2.2.2.2.2.2 F') ∨
  (∃ (k : Nat) (cd : Int32), k < S.1 ∧ x0 = nI k ∧ BD (S.2.2.2.1 k) (S.2.2.2.2.1 k) (S.2.2.2.2.2.1 k) cd ∧ w = zWm g mo ad cd S.1 S.2.2.2.2.2.2.2) ∨
  ((∀ j, j < S.1 → x0 ≠ nI j) ∧ w = zWm g mo ad (nI 1) S.1 S.2.2.2.2.2.2.2)
theorem z_inj {a b : Nat} (h : nI a = nI b) (ha : a < 6) (hb : b < 6) : a = b := by
  have h1 := congrArg Int32.toInt h
  rw [nI_toInt (by omega), nI_toInt (by omega)] at h1
  omega
theorem z_comb {g : zG} {mo : Nat} {ad : zAd} {oa ua ar : Nat} {o : Nat → Int64} {S : zSt} {x0 r q : Int32} {wC wM : va_W} {GD : zGd} {BD : zBd} (hd : zDt GD BD) (hI : zI S) (hc : zPC g oa ua ar o S x0 GD BD r wC) (hm : zPM g mo ad S x0 GD BD q wM) : zTog g mo ad oa ua ar r q wC wM := by
  obtain ⟨cnt, rows, aa, rr, ff, zz, qq, F⟩ := S
  obtain ⟨i1, i2, i3, i4, i5, i6, i7⟩ := id hI
  dsimp only at i1 i2 i3 i4 i5 i6 i7
  rcases hc with ⟨k, v, z', q', hk, ex, er, hg, ew, hcr⟩ | ⟨k, hk, ex, hg, ew⟩ | ⟨hno, er, ew⟩
  · dsimp only at hk hg ew hcr
    rcases hm with ⟨k2, z2, F', hk2, ex2, hg2, ew2, hmr, hsm⟩ | ⟨k2, cd, hk2, ex2, hg2, ew2⟩ | ⟨hno, ew2⟩
    · dsimp only at hk2 hg2 ew2 hmr hsm
      have ek := z_inj (ex.symm.trans ex2) (by omega) (by omega)
      subst ek
      obtain ⟨d1, d2, d3, d4, d5⟩ := hd _ _ _ (i4 k hk)
      obtain ⟨ev, ez⟩ := d4 _ _ _ _ hg hg2
      subst ev; subst ez
      refine ⟨(cnt, rows, aa, rr, ff, va_up zz k z', va_up qq k q', F'), nI 0, vp_updL o 0 v.toInt64, ⟨i1, i2, i3, ?_, ?_, ?_, ?_⟩, ew, ew2, er, fun _ => rfl⟩
      · intro j hj
        dsimp only
        by_cases e : j = k
        · subst e; rw [va_up_self]; exact d5 _ _ hg
        · rw [va_up_ne _ _ e]; exact i4 j hj
      · intro j hj
        dsimp only
        by_cases e : j = k
        · subst e; rw [va_up_self, va_up_self]; exact hcr
        · rw [va_up_ne _ _ e, va_up_ne _ _ e]; exact i5 j hj
      · intro j hj
        dsimp only
        by_cases e : j = k
        · subst e; rw [va_up_self]; exact hmr
        · rw [va_up_ne _ _ e]; exact zMR_same (i6 j hj) (hsm j (Nat.lt_of_lt_of_le hj i1) e) (by have h9 := i4 j hj; revert h9; generalize zz j = y; obtain ⟨T, P, py, R0, I, Pd, Wn, G⟩ := y; exact fun h9 => h9.1)
      · exact zZ0_same i7 (Nat.le_refl cnt) (fun i a b => hsm i b (by omega))
    · have ek := z_inj (ex.symm.trans ex2) (Nat.lt_of_lt_of_le hk i1) (Nat.lt_of_lt_of_le hk2 i1)
      subst ek
      exact ((hd _ _ _ (i4 k hk)).1 _ _ _ hg hg2).elim
    · exact absurd ex (hno k hk)
  · rcases hm with ⟨k2, z2, F', hk2, ex2, hg2, ew2, hmr, hsm⟩ | ⟨k2, cd, hk2, ex2, hg2, ew2⟩ | ⟨hno, ew2⟩
    · have ek := z_inj (ex.symm.trans ex2) (Nat.lt_of_lt_of_le hk i1) (Nat.lt_of_lt_of_le hk2 i1)
      subst ek
      exact ((hd _ _ _ (i4 k hk)).1 _ _ _ hg2 hg).elim
    · have ek := z_inj (ex.symm.trans ex2) (Nat.lt_of_lt_of_le hk i1) (Nat.lt_of_lt_of_le hk2 i1)
      subst ek
      obtain ⟨d1, d2, d3, d4, d5⟩ := hd _ _ _ (i4 k hk)
      exact ⟨_, cd, o, hI, ew, ew2, d2 _ _ hg hg2, fun h => absurd h (d3 _ hg)⟩
    · exact absurd ex (hno k hk)
  · rcases hm with ⟨k2, z2, F', hk2, ex2, hg2, ew2, hmr, hsm⟩ | ⟨k2, cd, hk2, ex2, hg2, ew2⟩ | ⟨hno2, ew2⟩
    · exact absurd ex2 (hno k2 hk2)
    · exact absurd ex2 (hno k2 hk2)
    · exact ⟨_, nI 1, o, hI, ew, ew2, er, fun h => absurd (er.symm.trans h) (by decide)⟩
/-- the class's side: from the lease's own contract, and the one of no such lease -/
theorem z_lift {l : Launch} {y : MethodName} {wsy : List Cond} {rm : Room} {av : List Value} {g : zG} {oa ua ar : Nat} {o : Nat → Int64} {S : zSt} {x0 : Int32} {GD : zGd} {BD : zBd} {mc ms : Nat}
    (hp : ∀ k, k < S.1 → x0 = nI k → zWi l y wsy rm av g (zUs g oa ua ar o S.1 S.2.1 ++ zLW g (S.2.2.1 k) (S.2.2.2.1 k) (S.2.2.2.2.1 k) (S.2.2.2.2.2.1 k) (S.2.2.2.2.2.2.1 k)) (fun r w => (∃ (v : Int32) (z' : zS) (q' : zRaw), r = nI 0 ∧ GD (S.2.2.2.1 k) (S.2.2.2.2.1 k) (S.2.2.2.2.2.1 k) v z' ∧ w = zUs g oa ua ar (vp_updL o 0 v.toInt64) S.1 S.2.1 ++ zLW g (S.2.2.1 k) (S.2.2.2.1 k) (S.2.2.2.2.1 k) z' q' ∧ zCR (S.2.2.2.1 k) z' q') ∨ (BD (S.2.2.2.1 k) (S.2.2.2.2.1 k) (S.2.2.2.2.2.1 k) r ∧ w = zUs g oa ua ar o S.1 S.2.1 ++ zLW g (S.2.2.1 k) (S.2.2.2.1 k) (S.2.2.2.2.1 k) (S.2.2.2.2.2.1 k) (S.2.2.2.2.2.2.1 k))) mc ms)
    (hn : (∀ j, j < S.1 → x0 ≠ nI j) → zWi l y wsy rm av g (zUs g oa ua ar o S.1 S.2.1) (fun r w => r = nI 1 ∧ w = zUs g oa ua ar o S.1 S.2.1) mc ms) : zWi l y wsy rm av g (zWc g oa ua ar o S) (zPC g oa ua ar o S x0 GD BD) mc ms := by
  obtain ⟨cnt, rows, aa, rr, ff, zz, qq, F⟩ := S
  dsimp only at hp hn
  by_cases hex : ∃ k, k < cnt ∧ x0 = nI k
  · obtain ⟨k, hk, ex⟩ := hex
    have perm : ∀ (X Y Z V : va_W), ((X ++ Y) ++ Z ++ V).Perm ((X ++ Z) ++ (Y ++ V)) := fun X Y Z V => by
      simp only [List.append_assoc]
      exact List.Perm.append_left X (List.perm_append_comm_assoc Y Z V)
    refine zWi.frame (wx := zLs g k aa rr ff zz qq ++ zLt g (k + 1) (cnt - (k + 1)) aa rr ff zz qq) ?_ (hp k hk ex) ?_
    · show (zUs g oa ua ar o cnt rows ++ zLs g cnt aa rr ff zz qq).Perm _
      rw [zLs_at hk]
      exact perm _ _ _ _
    · rintro r w1 (⟨v, z', q', er, hg, ew, hcr⟩ | ⟨hg, ew⟩)
      · refine ⟨zUs g oa ua ar (vp_updL o 0 v.toInt64) cnt rows ++ zLs g cnt aa rr ff (va_up zz k z') (va_up qq k q'), ?_, Or.inl ⟨k, v, z', q', hk, ex, er, hg, rfl, hcr⟩⟩
        rw [ew, ← zLs_put hk]
        exact perm _ _ _ _
      · refine ⟨zUs g oa ua ar o cnt rows ++ zLs g cnt aa rr ff zz qq, ?_, Or.inr (Or.inl ⟨k, hk, ex, hg, rfl⟩)⟩
        rw [ew, zLs_at hk]
        exact perm _ _ _ _
  · have hno : ∀ j, j < cnt → x0 ≠ nI j := fun j hj e => hex ⟨j, hj, e⟩
    refine zWi.frame (wx := zLs g cnt aa rr ff zz qq) (List.Perm.refl _) (hn hno) ?_
    rintro r w1 ⟨er, ew⟩
    exact ⟨_, List.Perm.refl _, Or.inr (Or.inr ⟨hno, er, by rw [ew]⟩)⟩
