/-! p20: each call, over all leases -/
abbrev zUs (g : zG) (ua ar cnt : Nat) (rows : Nat → Option Nat) : va_W := [(ua, .inr (1, [.ref ar, .int (nI cnt)])), (ar, .inl (g.2.2.1, 6, .inr (.inr (.inr (.inr rows)))))]
/-- the law's cells between two acts -/
abbrev zPw (g : zG) (ua ar co mo cnt : Nat) (rows : Nat → Option Nat) (cs ms : Nat → Int32) (aa : Nat → Nat × Nat × Nat) (rr ff : Nat → Nat) (zz : Nat → zS) (qq : Nat → zRaw) : va_W := [(ua, .inr (1, [.ref ar, .int (nI cnt)])), (ar, .inl (g.2.2.1, 6, .inr (.inr (.inr (.inr rows))))), (co, .inl (g.2.1, 6, .inl cs)), (mo, .inl (g.2.1, 6, .inl ms))] ++ zLs g cnt aa rr ff zz qq
/-- what holds between two acts -/
def zTw (cnt : Nat) (rows : Nat → Option Nat) (cs ms : Nat → Int32) (aa : Nat → Nat × Nat × Nat) (rr ff : Nat → Nat) (zz : Nat → zS) (qq : Nat → zRaw) (rv : Nat) : Prop := cnt ≤ 6 ∧ rv ≤ 8 ∧ (∀ k, k < cnt → rows k = some (aa k).1) ∧ (∀ k, cnt ≤ k → k < 6 → rows k = none) ∧ (∀ k, k < cnt → zInv (rr k) (ff k) (zz k)) ∧ (∀ k, k < cnt → zCR (rr k) (zz k) (qq k)) ∧ (∀ k, k < cnt → zLk (rr k) (cs k) rv (zz k)) ∧ ∀ k, k < cnt → ms k = nI (zz k).1
theorem z_perm5 (U V Y X B : va_W) : (((U ++ V) ++ Y) ++ X ++ B).Perm ((U ++ X) ++ (V ++ Y ++ B)) := by
  simp only [List.append_assoc]
  refine List.Perm.append_left U ?_
  exact (List.Perm.append_left V (List.perm_append_comm_assoc Y X B)).trans (List.perm_append_comm_assoc V X _)
theorem z_lift {l : Launch} {y : MethodName} {wsy : List Cond} {rm : Room} {av : List Value} {g : zG} {ua ar co mo cnt : Nat} {rows : Nat → Option Nat} {cs ms : Nat → Int32} {aa : Nat → Nat × Nat × Nat} {rr ff : Nat → Nat} {zz : Nat → zS} {qq : Nat → zRaw} {k c1 s1 : Nat} {GD : Int32 → zS → Prop} (hk : k < cnt)
    (hp : zWi l y wsy rm av g (zUs g ua ar cnt rows ++ zLW g (aa k) (rr k) (ff k) (zz k) (qq k)) (fun r w => ∃ (z' : zS) (q' : zRaw), GD r z' ∧ w = zUs g ua ar cnt rows ++ zLW g (aa k) (rr k) (ff k) z' q' ∧ zCR (rr k) z' q') c1 s1) :
    zWi l y wsy rm av g (zPw g ua ar co mo cnt rows cs ms aa rr ff zz qq) (fun r w => ∃ (z' : zS) (q' : zRaw), GD r z' ∧ w = zPw g ua ar co mo cnt rows cs ms aa rr ff (va_up zz k z') (va_up qq k q') ∧ zCR (rr k) z' q') c1 s1 := by
  have e : ∀ zz1 qq1, zPw g ua ar co mo cnt rows cs ms aa rr ff zz1 qq1 = (zUs g ua ar cnt rows ++ [(co, .inl (g.2.1, 6, .inl cs)), (mo, .inl (g.2.1, 6, .inl ms))]) ++ zLs g cnt aa rr ff zz1 qq1 := fun _ _ => rfl
  refine zWi.frame (wx := [(co, .inl (g.2.1, 6, .inl cs)), (mo, .inl (g.2.1, 6, .inl ms))] ++ zLs g k aa rr ff zz qq ++ zLt g (k + 1) (cnt - (k + 1)) aa rr ff zz qq) ?_ hp ?_
  · rw [e, zLs_at hk]
    exact z_perm5 _ _ _ _ _
  · rintro r w1 ⟨z', q', hg, ew, hcr⟩
    refine ⟨zPw g ua ar co mo cnt rows cs ms aa rr ff (va_up zz k z') (va_up qq k q'), ?_, z', q', hg, rfl, hcr⟩
    rw [ew, e, ← zLs_put hk]
    exact z_perm5 _ _ _ _ _
theorem z_lift0 {l : Launch} {y : MethodName} {wsy : List Cond} {rm : Room} {av : List Value} {g : zG} {ua ar co mo cnt : Nat} {rows : Nat → Option Nat} {cs ms : Nat → Int32} {aa : Nat → Nat × Nat × Nat} {rr ff : Nat → Nat} {zz : Nat → zS} {qq : Nat → zRaw} {k c1 s1 : Nat} {v : Int32} (hk : k < cnt)
    (hp : zWi l y wsy rm av g (zUs g ua ar cnt rows ++ zLW g (aa k) (rr k) (ff k) (zz k) (qq k)) (fun r w => r = v ∧ w = zUs g ua ar cnt rows ++ zLW g (aa k) (rr k) (ff k) (zz k) (qq k)) c1 s1) :
    zWi l y wsy rm av g (zPw g ua ar co mo cnt rows cs ms aa rr ff zz qq) (fun r w => r = v ∧ w = zPw g ua ar co mo cnt rows cs ms aa rr ff zz qq) c1 s1 := by
  have e : zPw g ua ar co mo cnt rows cs ms aa rr ff zz qq = (zUs g ua ar cnt rows ++ [(co, .inl (g.2.1, 6, .inl cs)), (mo, .inl (g.2.1, 6, .inl ms))]) ++ zLs g cnt aa rr ff zz qq := rfl
  refine zWi.frame (wx := [(co, .inl (g.2.1, 6, .inl cs)), (mo, .inl (g.2.1, 6, .inl ms))] ++ zLs g k aa rr ff zz qq ++ zLt g (k + 1) (cnt - (k + 1)) aa rr ff zz qq) ?_ hp ?_
  · rw [e, zLs_at hk]
    exact z_perm5 _ _ _ _ _
  · rintro r w1 ⟨er, ew⟩
    refine ⟨zPw g ua ar co mo cnt rows cs ms aa rr ff zz qq, ?_, er, rfl⟩
    rw [ew, e, zLs_at hk]
    exact z_perm5 _ _ _ _ _
theorem zTw.up {cnt : Nat} {rows : Nat → Option Nat} {cs ms : Nat → Int32} {aa : Nat → Nat × Nat × Nat} {rr ff : Nat → Nat} {zz : Nat → zS} {qq : Nat → zRaw} {rv : Nat} (h : zTw cnt rows cs ms aa rr ff zz qq rv) {j rv' : Nat} {z' : zS} {q' : zRaw} {ms' : Nat → Int32} (hZ : zInv (rr j) (ff j) z') (hC : zCR (rr j) z' q') (hL : zLk (rr j) (cs j) rv' z') (hrv : rv ≤ rv') (h8 : rv' ≤ 8) (hm : ms' j = nI z'.1) (hms : ∀ i, i ≠ j → ms' i = ms i) : zTw cnt rows cs ms' aa rr ff (va_up zz j z') (va_up qq j q') rv' := by
  obtain ⟨i1, i2, i3, i4, i5, i6, i7, i8⟩ := h
  refine ⟨i1, h8, i3, i4, fun k hk => ?_, fun k hk => ?_, fun k hk => ?_, fun k hk => ?_⟩ <;> by_cases e : k = j
  · subst e; rw [va_up_self]; exact hZ
  · rw [va_up_ne _ _ e]; exact i5 k hk
  · subst e; rw [va_up_self, va_up_self]; exact hC
  · rw [va_up_ne _ _ e, va_up_ne _ _ e]; exact i6 k hk
  · subst e; rw [va_up_self]; exact hL
  · rw [va_up_ne _ _ e]; exact zLk_up hrv (i7 k hk)
  · subst e; rw [va_up_self]; exact hm
  · rw [va_up_ne _ _ e, hms k e]; exact i8 k hk
theorem z_gsub (x y : Int32) : x + y - x = y := by grind
theorem z_pas {r f k : Nat} {z : zS} (h : zInv r f z) : z.2.1 + min k (z.1 - z.2.1) ≤ z.1 := by
  obtain ⟨T, P, p, R, I, Pd, W, G⟩ := z
  have : P ≤ T := h.2.1
  dsimp only
  omega
theorem t_toCome (l : Launch) (hst : l.stackTraces = false) (g : zG) (ua ar cnt : Nat) (rows : Nat → Option Nat) (j : Nat) (a : Nat × Nat × Nat) (rt lf : Nat) (z : zS) (q : zRaw) (hj : j < 6) (hrow : rows j = some a.1) (hZ : zInv rt lf z) (hC : zCR rt z q) : zWi l yX1_toCome wsX1_toCome ({ frames := 7, cells := 1, slots := 6, locals := 125 } : Room) [.ref ua, .int (nI j)] g (zUs g ua ar cnt rows ++ zLW g a rt lf z q) (fun r w => r = nI (z.1 - z.2.1) ∧ w = zUs g ua ar cnt rows ++ zLW g a rt lf z q) 1 6 := by
  obtain ⟨h, pa, da⟩ := a
  obtain ⟨T, P, py, R0, I, Pd, Wn, G⟩ := z
  obtain ⟨xI, xP, xW, xG, u, v0⟩ := q
  exact zXi.to (p_toCome l hst g ua ar cnt rows j h pa da rt lf T P R0 py I Pd Wn G xI xP xW xG u v0 hj hrow hZ hC) (fun E h => h)
theorem K_toCome (l : Launch) (hst : l.stackTraces = false) (g : zG) (ua ar co mo cnt : Nat) (rows : Nat → Option Nat) (cs ms : Nat → Int32) (aa : Nat → Nat × Nat × Nat) (rr ff : Nat → Nat) (zz : Nat → zS) (qq : Nat → zRaw) {rv : Nat} (j : Nat) (hj : j < cnt) (hT : zTw cnt rows cs ms aa rr ff zz qq rv) : zWi l yX1_toCome wsX1_toCome ({ frames := 7, cells := 1, slots := 6, locals := 125 } : Room) [.ref ua, .int (nI j)] g (zPw g ua ar co mo cnt rows cs ms aa rr ff zz qq) (fun r w => r = nI ((zz j).1 - (zz j).2.1) ∧ w = zPw g ua ar co mo cnt rows cs ms aa rr ff zz qq) 1 6 := by
  obtain ⟨i1, i2, i3, i4, i5, i6, i7, i8⟩ := hT
  exact z_lift0 hj (t_toCome l hst g ua ar cnt rows j _ _ _ _ _ (Nat.lt_of_lt_of_le hj i1) (i3 j hj) (i5 j hj) (i6 j hj))
theorem t_debt (l : Launch) (hst : l.stackTraces = false) (g : zG) (ua ar cnt : Nat) (rows : Nat → Option Nat) (j : Nat) (a : Nat × Nat × Nat) (rt lf : Nat) (z : zS) (q : zRaw) (hj : j < 6) (hrow : rows j = some a.1) (hZ : zInv rt lf z) (hC : zCR rt z q) : zWi l yX1_debt wsX1_debt ({ frames := 7, cells := 1, slots := 6, locals := 125 } : Room) [.ref ua, .int (nI j)] g (zUs g ua ar cnt rows ++ zLW g a rt lf z q) (fun r w => r = nI (zD rt z) ∧ w = zUs g ua ar cnt rows ++ zLW g a rt lf z q) 1 6 := by
  obtain ⟨h, pa, da⟩ := a
  obtain ⟨T, P, py, R0, I, Pd, Wn, G⟩ := z
  obtain ⟨xI, xP, xW, xG, u, v0⟩ := q
  exact zXi.to (p_debt l hst g ua ar cnt rows j h pa da rt lf T P R0 py I Pd Wn G xI xP xW xG u v0 hj hrow hZ hC) (fun E h => h)
theorem K_debt (l : Launch) (hst : l.stackTraces = false) (g : zG) (ua ar co mo cnt : Nat) (rows : Nat → Option Nat) (cs ms : Nat → Int32) (aa : Nat → Nat × Nat × Nat) (rr ff : Nat → Nat) (zz : Nat → zS) (qq : Nat → zRaw) {rv : Nat} (j : Nat) (hj : j < cnt) (hT : zTw cnt rows cs ms aa rr ff zz qq rv) : zWi l yX1_debt wsX1_debt ({ frames := 7, cells := 1, slots := 6, locals := 125 } : Room) [.ref ua, .int (nI j)] g (zPw g ua ar co mo cnt rows cs ms aa rr ff zz qq) (fun r w => r = nI (zD (rr j) (zz j)) ∧ w = zPw g ua ar co mo cnt rows cs ms aa rr ff zz qq) 1 6 := by
  obtain ⟨i1, i2, i3, i4, i5, i6, i7, i8⟩ := hT
  exact z_lift0 hj (t_debt l hst g ua ar cnt rows j _ _ _ _ _ (Nat.lt_of_lt_of_le hj i1) (i3 j hj) (i5 j hj) (i6 j hj))
theorem t_gains (l : Launch) (hst : l.stackTraces = false) (g : zG) (ua ar cnt : Nat) (rows : Nat → Option Nat) (j : Nat) (a : Nat × Nat × Nat) (rt lf : Nat) (z : zS) (q : zRaw) (hj : j < 6) (hrow : rows j = some a.1) (hZ : zInv rt lf z) (hC : zCR rt z q) : zWi l yX1_gains wsX1_gains ({ frames := 7, cells := 1, slots := 6, locals := 125 } : Room) [.ref ua, .int (nI j)] g (zUs g ua ar cnt rows ++ zLW g a rt lf z q) (fun r w => r = zGA z ∧ w = zUs g ua ar cnt rows ++ zLW g a rt lf z q) 1 6 := by
  obtain ⟨h, pa, da⟩ := a
  obtain ⟨T, P, py, R0, I, Pd, Wn, G⟩ := z
  obtain ⟨xI, xP, xW, xG, u, v0⟩ := q
  exact zXi.to (p_gains l hst g ua ar cnt rows j h pa da rt lf T P R0 py I Pd Wn G xI xP xW xG u v0 hj hrow hZ hC) (fun E h => h)
theorem K_gains (l : Launch) (hst : l.stackTraces = false) (g : zG) (ua ar co mo cnt : Nat) (rows : Nat → Option Nat) (cs ms : Nat → Int32) (aa : Nat → Nat × Nat × Nat) (rr ff : Nat → Nat) (zz : Nat → zS) (qq : Nat → zRaw) {rv : Nat} (j : Nat) (hj : j < cnt) (hT : zTw cnt rows cs ms aa rr ff zz qq rv) : zWi l yX1_gains wsX1_gains ({ frames := 7, cells := 1, slots := 6, locals := 125 } : Room) [.ref ua, .int (nI j)] g (zPw g ua ar co mo cnt rows cs ms aa rr ff zz qq) (fun r w => r = zGA (zz j) ∧ w = zPw g ua ar co mo cnt rows cs ms aa rr ff zz qq) 1 6 := by
  obtain ⟨i1, i2, i3, i4, i5, i6, i7, i8⟩ := hT
  exact z_lift0 hj (t_gains l hst g ua ar cnt rows j _ _ _ _ _ (Nat.lt_of_lt_of_le hj i1) (i3 j hj) (i5 j hj) (i6 j hj))
theorem t_adds (l : Launch) (hst : l.stackTraces = false) (g : zG) (ua ar cnt : Nat) (rows : Nat → Option Nat) (j : Nat) (a : Nat × Nat × Nat) (rt lf : Nat) (z : zS) (q : zRaw) (c0 : Int32) (rv : Nat) (hj : j < 6) (hrow : rows j = some a.1) (hZ : zInv rt lf z) (hC : zCR rt z q) (hL : zLk rt c0 rv z) : zWi l yL_adds wsL_adds ({ frames := 8, cells := 13, slots := 78, locals := 180 } : Room) [.ref ua, .int (nI j), .int c0] g (zUs g ua ar cnt rows ++ zLW g a rt lf z q) (fun r w => r = nI 1 ∧ w = zUs g ua ar cnt rows ++ zLW g a rt lf z q) 13 78 := by
  obtain ⟨h, pa, da⟩ := a
  obtain ⟨T, P, py, R0, I, Pd, Wn, G⟩ := z
  obtain ⟨xI, xP, xW, xG, u, v0⟩ := q
  obtain ⟨h1, h2, ⟨ii, h3, h4⟩, h5⟩ := hL
  have hP2 : P ≤ 120 := Nat.le_trans hZ.2.1 hZ.1
  exact c_adds l g ua ar cnt rows j h pa da rt lf T P R0 py I Pd Wn G xI xP xW xG u v0 c0 ii hst hj hrow hZ hC h1 h2 h3 (by omega)
theorem K_adds (l : Launch) (hst : l.stackTraces = false) (g : zG) (ua ar co mo cnt : Nat) (rows : Nat → Option Nat) (cs ms : Nat → Int32) (aa : Nat → Nat × Nat × Nat) (rr ff : Nat → Nat) (zz : Nat → zS) (qq : Nat → zRaw) {rv : Nat} (j : Nat) (hj : j < cnt) (hT : zTw cnt rows cs ms aa rr ff zz qq rv) : zWi l yL_adds wsL_adds ({ frames := 8, cells := 13, slots := 78, locals := 180 } : Room) [.ref ua, .int (nI j), .int (cs j)] g (zPw g ua ar co mo cnt rows cs ms aa rr ff zz qq) (fun r w => r = nI 1 ∧ w = zPw g ua ar co mo cnt rows cs ms aa rr ff zz qq) 13 78 := by
  obtain ⟨i1, i2, i3, i4, i5, i6, i7, i8⟩ := hT
  exact z_lift0 hj (t_adds l hst g ua ar cnt rows j _ _ _ _ _ (cs j) rv (Nat.lt_of_lt_of_le hj i1) (i3 j hj) (i5 j hj) (i6 j hj) (i7 j hj))
theorem t_review (l : Launch) (hst : l.stackTraces = false) (g : zG) (ua ar cnt : Nat) (rows : Nat → Option Nat) (j : Nat) (a : Nat × Nat × Nat) (rt lf : Nat) (z : zS) (q : zRaw) (c0 : Int32) (rv : Nat) (t0 : Nat) (hj : j < 6) (hrow : rows j = some a.1) (hZ : zInv rt lf z) (hC : zCR rt z q) (hL : zLk rt c0 rv z) (h8 : rv ≤ 8) (ht : t0 < 100) (hlt : z.2.1 < z.1) (hr : rv < 8) : zWi l yX1_review wsX1_review ({ frames := 7, cells := 4, slots := 24, locals := 125 } : Room) [.ref ua, .int (nI j), .int (nI t0 - nI 50)] g (zUs g ua ar cnt rows ++ zLW g a rt lf z q) (fun r w => ∃ (z' : zS) (q' : zRaw), (r = nI (zD rt z') ∧ z'.1 = z.1 ∧ zInv rt lf z' ∧ zLk rt c0 (rv + 1) z') ∧ w = zUs g ua ar cnt rows ++ zLW g a rt lf z' q' ∧ zCR rt z' q') 4 24 := by
  obtain ⟨h, pa, da⟩ := a
  obtain ⟨T, P, py, R0, I, Pd, Wn, G⟩ := z
  obtain ⟨xI, xP, xW, xG, u, v0⟩ := q
  have e1 : (nI t0 - nI 50).toInt = (t0 : Int) - 50 := pk_sub_toInt (by omega) (by omega)
  have eA : zA (nI t0 - nI 50) = t0 + 50 := by unfold zA; rw [e1]; omega
  have hrng : (-50) ≤ nI t0 - nI 50 ∧ nI t0 - nI 50 ≤ nI 100 := by
    have e2 : (-50 : Int32).toInt = -50 := by decide
    have e3 : (nI 100).toInt = 100 := nI_toInt (n := 100) (by omega)
    rw [Int32.le_iff_toInt_le, Int32.le_iff_toInt_le, e1, e2, e3]
    omega
  have hlt : P < T := hlt
  have hb : ∀ i, P ≤ i → i < T → zSc (zA (nI t0 - nI 50)) py i ≤ zPb (rv + 1) := fun i a b => by
    have z1 := hL.2.2.2 i a b
    have z2 : py i * (t0 + 50) ≤ py i * 149 := Nat.mul_le_mul_left _ (by omega)
    have z3 : zPb (rv + 1) = zPb rv * 149 / 100 := rfl
    rw [eA, z3]
    unfold zSc
    omega
  have hok : P < T ∧ ∀ i, P ≤ i → i < T → zSc (zA (nI t0 - nI 50)) py i ≤ 1000000 := ⟨hlt, fun i a b => Nat.le_trans (hb i a b) (zPb_top hr)⟩
  refine zWi.imp (zXi.to (p_review l hst g ua ar cnt rows j h pa da rt lf T P R0 py I Pd Wn G xI xP xW xG u v0 (nI t0 - nI 50) hj hrow hZ hC) (fun E hE => hE.elim (fun x => x.2 hrng) (fun x => x.2.2 hok))) ?_
  rintro r w ⟨-, -, e4, q', ew, hcr⟩
  exact ⟨_, q', ⟨by rw [e4, zD_fol], zFol_T, zInv_fol hZ hZ.1 hZ.2.1 (fun i a b => hok.2 i a b), zLk_fol hL hlt hb⟩, ew, hcr⟩
theorem K_review (l : Launch) (hst : l.stackTraces = false) (g : zG) (ua ar co mo cnt : Nat) (rows : Nat → Option Nat) (cs ms : Nat → Int32) (aa : Nat → Nat × Nat × Nat) (rr ff : Nat → Nat) (zz : Nat → zS) (qq : Nat → zRaw) {rv : Nat} {ms0 : Nat → Int32} (j : Nat) (t0 : Nat) (hj : j < cnt) (hT : zTw cnt rows cs ms0 aa rr ff zz qq rv) (ht : t0 < 100) (hlt : (zz j).2.1 < (zz j).1) (hr : rv < 8) : zWi l yX1_review wsX1_review ({ frames := 7, cells := 4, slots := 24, locals := 125 } : Room) [.ref ua, .int (nI j), .int (nI t0 - nI 50)] g (zPw g ua ar co mo cnt rows cs ms aa rr ff zz qq) (fun r w => ∃ (z' : zS) (q' : zRaw), (r = nI (zD (rr j) z') ∧ z'.1 = (zz j).1 ∧ zInv (rr j) (ff j) z' ∧ zLk (rr j) (cs j) (rv + 1) z') ∧ w = zPw g ua ar co mo cnt rows cs ms aa rr ff (va_up zz j z') (va_up qq j q') ∧ zCR (rr j) z' q') 4 24 := by
  obtain ⟨i1, i2, i3, i4, i5, i6, i7, i8⟩ := hT
  exact z_lift hj (t_review l hst g ua ar cnt rows j _ _ _ _ _ (cs j) rv t0 (Nat.lt_of_lt_of_le hj i1) (i3 j hj) (i5 j hj) (i6 j hj) (i7 j hj) i2 ht hlt hr)
theorem t_lengthen (l : Launch) (hst : l.stackTraces = false) (g : zG) (ua ar cnt : Nat) (rows : Nat → Option Nat) (j : Nat) (a : Nat × Nat × Nat) (rt lf : Nat) (z : zS) (q : zRaw) (c0 : Int32) (rv : Nat) (k0 : Nat) (x0 : Nat) (hj : j < 6) (hrow : rows j = some a.1) (hZ : zInv rt lf z) (hC : zCR rt z q) (hL : zLk rt c0 rv z) (h8 : rv ≤ 8) (hk1 : 1 ≤ k0) (hk2 : k0 ≤ 36) (hx : x0 ≤ 10000) (hlt : z.2.1 < z.1) (hT120 : z.1 + k0 ≤ 120) : zWi l yX1_lengthen wsX1_lengthen ({ frames := 7, cells := 5, slots := 30, locals := 125 } : Room) [.ref ua, .int (nI j), .int (nI k0), .int (nI x0)] g (zUs g ua ar cnt rows ++ zLW g a rt lf z q) (fun r w => ∃ (z' : zS) (q' : zRaw), (z'.1 = z.1 + k0 ∧ z'.2.1 = z.2.1 ∧ zInv rt lf z' ∧ zLk rt c0 rv z') ∧ w = zUs g ua ar cnt rows ++ zLW g a rt lf z' q' ∧ zCR rt z' q') 5 30 := by
  obtain ⟨h, pa, da⟩ := a
  obtain ⟨T, P, py, R0, I, Pd, Wn, G⟩ := z
  obtain ⟨xI, xP, xW, xG, u, v0⟩ := q
  have hlt : P < T := hlt
  have hT120 : T + k0 ≤ 120 := hT120
  have n1 : zN (nI k0) = k0 := zN_nI (by omega)
  have n2 : zN (nI x0) = x0 := zN_nI (by omega)
  have hrng : (nI 1 ≤ nI k0 ∧ nI k0 ≤ nI 36) ∧ nI 0 ≤ nI x0 ∧ nI x0 ≤ nI 10000 := ⟨⟨(nI_leI (by omega) (by omega)).mpr hk1, (nI_leI (by omega) (by omega)).mpr hk2⟩, (nI_leI (by omega) (by omega)).mpr (Nat.zero_le _), (nI_leI (by omega) (by omega)).mpr hx⟩
  have hok : P < T ∧ T + zN (nI k0) ≤ 120 := ⟨hlt, by rw [n1]; exact hT120⟩
  have hb : ∀ i, P ≤ i → i < T + k0 → zPut T k0 x0 py i ≤ zPb rv := fun i a b => by
    unfold zPut
    split
    · exact Nat.le_trans (by omega) (zPb_ge rv)
    · exact hL.2.2.2 i a (by omega)
  refine zWi.imp (zXi.to (p_lengthen l hst g ua ar cnt rows j h pa da rt lf T P R0 py I Pd Wn G xI xP xW xG u v0 (nI k0) (nI x0) hj hrow hZ hC) (fun E hE => hE.elim (fun x => x.2 hrng) (fun x => x.2.2 hok))) ?_
  rintro r w ⟨-, -, e4, q', ew, hcr⟩
  rw [n1, n2] at ew hcr
  exact ⟨_, q', ⟨zFol_T, zFol_P, zInv_fol hZ hT120 (by omega) (fun i a b => Nat.le_trans (hb i a b) (zPb_top h8)), zLk_fol hL (by omega) hb⟩, ew, hcr⟩
theorem K_lengthen (l : Launch) (hst : l.stackTraces = false) (g : zG) (ua ar co mo cnt : Nat) (rows : Nat → Option Nat) (cs ms : Nat → Int32) (aa : Nat → Nat × Nat × Nat) (rr ff : Nat → Nat) (zz : Nat → zS) (qq : Nat → zRaw) {rv : Nat} {ms0 : Nat → Int32} (j : Nat) (k0 : Nat) (x0 : Nat) (hj : j < cnt) (hT : zTw cnt rows cs ms0 aa rr ff zz qq rv) (hk1 : 1 ≤ k0) (hk2 : k0 ≤ 36) (hx : x0 ≤ 10000) (hlt : (zz j).2.1 < (zz j).1) (hT120 : (zz j).1 + k0 ≤ 120) : zWi l yX1_lengthen wsX1_lengthen ({ frames := 7, cells := 5, slots := 30, locals := 125 } : Room) [.ref ua, .int (nI j), .int (nI k0), .int (nI x0)] g (zPw g ua ar co mo cnt rows cs ms aa rr ff zz qq) (fun r w => ∃ (z' : zS) (q' : zRaw), (z'.1 = (zz j).1 + k0 ∧ z'.2.1 = (zz j).2.1 ∧ zInv (rr j) (ff j) z' ∧ zLk (rr j) (cs j) rv z') ∧ w = zPw g ua ar co mo cnt rows cs ms aa rr ff (va_up zz j z') (va_up qq j q') ∧ zCR (rr j) z' q') 5 30 := by
  obtain ⟨i1, i2, i3, i4, i5, i6, i7, i8⟩ := hT
  exact z_lift hj (t_lengthen l hst g ua ar cnt rows j _ _ _ _ _ (cs j) rv k0 x0 (Nat.lt_of_lt_of_le hj i1) (i3 j hj) (i5 j hj) (i6 j hj) (i7 j hj) i2 hk1 hk2 hx hlt hT120)
theorem t_shorten (l : Launch) (hst : l.stackTraces = false) (g : zG) (ua ar cnt : Nat) (rows : Nat → Option Nat) (j : Nat) (a : Nat × Nat × Nat) (rt lf : Nat) (z : zS) (q : zRaw) (c0 : Int32) (rv : Nat) (k0 : Nat) (hj : j < 6) (hrow : rows j = some a.1) (hZ : zInv rt lf z) (hC : zCR rt z q) (hL : zLk rt c0 rv z) (h8 : rv ≤ 8) (hk1 : 1 ≤ k0) (hk2 : k0 ≤ 60) (hlt : k0 < z.1 - z.2.1) : zWi l yX1_shorten wsX1_shorten ({ frames := 7, cells := 3, slots := 18, locals := 125 } : Room) [.ref ua, .int (nI j), .int (nI k0)] g (zUs g ua ar cnt rows ++ zLW g a rt lf z q) (fun r w => ∃ (z' : zS) (q' : zRaw), (r = zGA z' - zGA z ∧ z'.1 = z.1 - k0 ∧ zInv rt lf z' ∧ zLk rt c0 rv z') ∧ w = zUs g ua ar cnt rows ++ zLW g a rt lf z' q' ∧ zCR rt z' q') 3 18 := by
  obtain ⟨h, pa, da⟩ := a
  obtain ⟨T, P, py, R0, I, Pd, Wn, G⟩ := z
  obtain ⟨xI, xP, xW, xG, u, v0⟩ := q
  have hlt : k0 < T - P := hlt
  have n1 : zN (nI k0) = k0 := zN_nI (by omega)
  have hrng : nI 1 ≤ nI k0 ∧ nI k0 ≤ nI 60 := ⟨(nI_leI (by omega) (by omega)).mpr hk1, (nI_leI (by omega) (by omega)).mpr hk2⟩
  have hok : zN (nI k0) < T - P := by rw [n1]; exact hlt
  refine zWi.imp (zXi.to (p_shorten l hst g ua ar cnt rows j h pa da rt lf T P R0 py I Pd Wn G xI xP xW xG u v0 (nI k0) hj hrow hZ hC) (fun E hE => hE.elim (fun x => x.2 hrng) (fun x => x.2.2 hok))) ?_
  rintro r w ⟨-, -, e4, q', ew, hcr⟩
  rw [n1] at e4 ew hcr
  exact ⟨_, q', ⟨e4.trans (z_gsub _ _).symm, rfl, zInv_off hZ hlt, zLk_giv hL (by omega) (fun i a b => hL.2.2.2 i a (by omega))⟩, ew, hcr⟩
theorem K_shorten (l : Launch) (hst : l.stackTraces = false) (g : zG) (ua ar co mo cnt : Nat) (rows : Nat → Option Nat) (cs ms : Nat → Int32) (aa : Nat → Nat × Nat × Nat) (rr ff : Nat → Nat) (zz : Nat → zS) (qq : Nat → zRaw) {rv : Nat} {ms0 : Nat → Int32} (j : Nat) (k0 : Nat) (hj : j < cnt) (hT : zTw cnt rows cs ms0 aa rr ff zz qq rv) (hk1 : 1 ≤ k0) (hk2 : k0 ≤ 60) (hlt : k0 < (zz j).1 - (zz j).2.1) : zWi l yX1_shorten wsX1_shorten ({ frames := 7, cells := 3, slots := 18, locals := 125 } : Room) [.ref ua, .int (nI j), .int (nI k0)] g (zPw g ua ar co mo cnt rows cs ms aa rr ff zz qq) (fun r w => ∃ (z' : zS) (q' : zRaw), (r = zGA z' - zGA (zz j) ∧ z'.1 = (zz j).1 - k0 ∧ zInv (rr j) (ff j) z' ∧ zLk (rr j) (cs j) rv z') ∧ w = zPw g ua ar co mo cnt rows cs ms aa rr ff (va_up zz j z') (va_up qq j q') ∧ zCR (rr j) z' q') 3 18 := by
  obtain ⟨i1, i2, i3, i4, i5, i6, i7, i8⟩ := hT
  exact z_lift hj (t_shorten l hst g ua ar cnt rows j _ _ _ _ _ (cs j) rv k0 (Nat.lt_of_lt_of_le hj i1) (i3 j hj) (i5 j hj) (i6 j hj) (i7 j hj) i2 hk1 hk2 hlt)
theorem t_cut (l : Launch) (hst : l.stackTraces = false) (g : zG) (ua ar cnt : Nat) (rows : Nat → Option Nat) (j : Nat) (a : Nat × Nat × Nat) (rt lf : Nat) (z : zS) (q : zRaw) (c0 : Int32) (rv : Nat) (k0 : Nat) (hj : j < 6) (hrow : rows j = some a.1) (hZ : zInv rt lf z) (hC : zCR rt z q) (hL : zLk rt c0 rv z) (h8 : rv ≤ 8) (hk1 : 1 ≤ k0) (hk2 : k0 ≤ 99) (hlt : z.2.1 < z.1) : zWi l yX1_cut wsX1_cut ({ frames := 7, cells := 3, slots := 18, locals := 125 } : Room) [.ref ua, .int (nI j), .int (nI k0)] g (zUs g ua ar cnt rows ++ zLW g a rt lf z q) (fun r w => ∃ (z' : zS) (q' : zRaw), (r = zGA z' - zGA z ∧ z'.1 = z.1 ∧ zInv rt lf z' ∧ zLk rt c0 rv z') ∧ w = zUs g ua ar cnt rows ++ zLW g a rt lf z' q' ∧ zCR rt z' q') 3 18 := by
  obtain ⟨h, pa, da⟩ := a
  obtain ⟨T, P, py, R0, I, Pd, Wn, G⟩ := z
  obtain ⟨xI, xP, xW, xG, u, v0⟩ := q
  have hlt : P < T := hlt
  have n1 : zN (nI k0) = k0 := zN_nI (by omega)
  have hrng : nI 1 ≤ nI k0 ∧ nI k0 ≤ nI 99 := ⟨(nI_leI (by omega) (by omega)).mpr hk1, (nI_leI (by omega) (by omega)).mpr hk2⟩
  refine zWi.imp (zXi.to (p_cut l hst g ua ar cnt rows j h pa da rt lf T P R0 py I Pd Wn G xI xP xW xG u v0 (nI k0) hj hrow hZ hC) (fun E hE => hE.elim (fun x => x.2 hrng) (fun x => x.2.2 hlt))) ?_
  rintro r w ⟨-, -, e4, q', ew, hcr⟩
  rw [n1] at e4 ew hcr
  refine ⟨zGiv rt T (zSc (100 - k0) py) (R0 * (100 - k0) / 100) (T, P, py, R0, I, Pd, Wn, G), q', ⟨e4.trans (z_gsub _ _).symm, rfl, zInv_cut hZ (by omega), zLk_giv hL hlt (fun i a b => ?_)⟩, ew, hcr⟩
  have z1 := hL.2.2.2 i a b
  have z2 : py i * (100 - k0) ≤ py i * 100 := Nat.mul_le_mul_left _ (by omega)
  unfold zSc
  omega
theorem K_cut (l : Launch) (hst : l.stackTraces = false) (g : zG) (ua ar co mo cnt : Nat) (rows : Nat → Option Nat) (cs ms : Nat → Int32) (aa : Nat → Nat × Nat × Nat) (rr ff : Nat → Nat) (zz : Nat → zS) (qq : Nat → zRaw) {rv : Nat} {ms0 : Nat → Int32} (j : Nat) (k0 : Nat) (hj : j < cnt) (hT : zTw cnt rows cs ms0 aa rr ff zz qq rv) (hk1 : 1 ≤ k0) (hk2 : k0 ≤ 99) (hlt : (zz j).2.1 < (zz j).1) : zWi l yX1_cut wsX1_cut ({ frames := 7, cells := 3, slots := 18, locals := 125 } : Room) [.ref ua, .int (nI j), .int (nI k0)] g (zPw g ua ar co mo cnt rows cs ms aa rr ff zz qq) (fun r w => ∃ (z' : zS) (q' : zRaw), (r = zGA z' - zGA (zz j) ∧ z'.1 = (zz j).1 ∧ zInv (rr j) (ff j) z' ∧ zLk (rr j) (cs j) rv z') ∧ w = zPw g ua ar co mo cnt rows cs ms aa rr ff (va_up zz j z') (va_up qq j q') ∧ zCR (rr j) z' q') 3 18 := by
  obtain ⟨i1, i2, i3, i4, i5, i6, i7, i8⟩ := hT
  exact z_lift hj (t_cut l hst g ua ar cnt rows j _ _ _ _ _ (cs j) rv k0 (Nat.lt_of_lt_of_le hj i1) (i3 j hj) (i5 j hj) (i6 j hj) (i7 j hj) i2 hk1 hk2 hlt)
theorem K_pass (l : Launch) (hst : l.stackTraces = false) (g : zG) (ua ar co mo cnt : Nat) (rows : Nat → Option Nat) (cs ms : Nat → Int32) (aa : Nat → Nat × Nat × Nat) (rr ff : Nat → Nat) (zz : Nat → zS) (qq : Nat → zRaw) {rv : Nat} (k0 : Nat) (hk1 : 1 ≤ k0) (hk2 : k0 ≤ 24) (hT : zTw cnt rows cs ms aa rr ff zz qq rv) : zWi l yX1_pass wsX1_pass ({ frames := 7, cells := 1, slots := 6, locals := 125 } : Room) [.ref ua, .int (nI k0)] g (zPw g ua ar co mo cnt rows cs ms aa rr ff zz qq) (fun _ w => ∃ qq', w = zPw g ua ar co mo cnt rows cs ms aa rr ff (fun k => zPs (rr k) (ff k) k0 (zz k)) qq' ∧ zTw cnt rows cs ms aa rr ff (fun k => zPs (rr k) (ff k) k0 (zz k)) qq' rv) 1 6 := by
  obtain ⟨i1, i2, i3, i4, i5, i6, i7, i8⟩ := hT
  have n1 : zN (nI k0) = k0 := zN_nI (by omega)
  have hrng : nI 1 ≤ nI k0 ∧ nI k0 ≤ nI 24 := ⟨(nI_leI (by omega) (by omega)).mpr hk1, (nI_leI (by omega) (by omega)).mpr hk2⟩
  have e : ∀ zz1 qq1, zPw g ua ar co mo cnt rows cs ms aa rr ff zz1 qq1 = (zUs g ua ar cnt rows ++ [(co, .inl (g.2.1, 6, .inl cs)), (mo, .inl (g.2.1, 6, .inl ms))]) ++ zLs g cnt aa rr ff zz1 qq1 := fun _ _ => rfl
  have perm : ∀ U V Y : va_W, ((U ++ V) ++ Y).Perm ((U ++ Y) ++ V) := fun U V Y => by
    simp only [List.append_assoc]
    exact List.Perm.append_left U List.perm_append_comm
  refine zWi.frame (wx := [(co, .inl (g.2.1, 6, .inl cs)), (mo, .inl (g.2.1, 6, .inl ms))]) ?_ (zXi.to (c_pass l hst g ua ar cnt rows aa rr ff zz qq (nI k0) i1 i3 i4 i5 i6) (fun E hE => hE.2 hrng)) ?_
  · rw [e]
    exact perm _ _ _
  · rintro r w1 ⟨-, -, qq', ew, hcr⟩
    rw [n1] at ew hcr
    refine ⟨zPw g ua ar co mo cnt rows cs ms aa rr ff (fun k => zPs (rr k) (ff k) k0 (zz k)) qq', ?_, qq', rfl, i1, i2, i3, i4, fun k hk => ?_, hcr, fun k hk => ?_, fun k hk => ?_⟩
    · rw [ew, e]
      exact perm _ _ _
    · exact zInv_it (i5 k hk) _ (z_pas (i5 k hk))
    · exact zLk_it (i5 k hk) (i7 k hk) _ (z_pas (i5 k hk))
    · rw [i8 k hk]
      exact congrArg nI (zIt_T _ _ _ _).symm
theorem K_add (l : Launch) (hst : l.stackTraces = false) (g : zG) (ua ar co mo cnt : Nat) (rows : Nat → Option Nat) (cs ms : Nat → Int32) (aa : Nat → Nat × Nat × Nat) (rr ff : Nat → Nat) (zz : Nat → zS) (qq : Nat → zRaw) {rv : Nat} (a1 a2 a3 a4 a5 a6 a7 : Nat) (h1 : 1 ≤ a1 ∧ a1 ≤ 60) (h2 : 1 ≤ a2 ∧ a2 ≤ 10000) (h3 : a3 ≤ 12) (h4 : a4 ≤ 299) (h5 : a5 ≤ 20000) (h6 : 1 ≤ a6 ∧ a6 ≤ 120) (h7 : a7 ≤ 10000) (hc : cnt < 6) (hT : zTw cnt rows cs ms aa rr ff zz qq rv) (cs' ms' : Nat → Int32) (hcs : cs' cnt = nI a7) (hcs2 : ∀ i, i < cnt → cs' i = cs i) (hms : ms' cnt = nI a1) (hms2 : ∀ i, i < cnt → ms' i = ms i) : zWi l yX1_add wsX1_add ({ frames := 7, cells := 11, slots := 301, locals := 125 } : Room) [.ref ua, .int (nI a1), .int (nI a2), .int (nI a3), .int (nI a4), .int (nI a5), .int (nI a6), .int (nI a7)] g (zPw g ua ar co mo cnt rows cs' ms' aa rr ff zz qq) (fun r w => r = nI cnt ∧ ∃ rows' aa' rr' ff' zz' qq', w = zPw g ua ar co mo (cnt + 1) rows' cs' ms' aa' rr' ff' zz' qq' ∧ zTw (cnt + 1) rows' cs' ms' aa' rr' ff' zz' qq' rv) 11 301 := by
  obtain ⟨i1, i2, i3, i4, i5, i6, i7, i8⟩ := hT
  have n1 : zN (nI a1) = a1 := zN_nI (by omega)
  have n2 : zN (nI a2) = a2 := zN_nI (by omega)
  have n3 : zN (nI a3) = a3 := zN_nI (by omega)
  have n4 : zN (nI a4) = a4 := zN_nI (by omega)
  have n5 : zN (nI a5) = a5 := zN_nI (by omega)
  have n6 : zN (nI a6) = a6 := zN_nI (by omega)
  have n7 : zN (nI a7) = a7 := zN_nI (by omega)
  have rg : ∀ {a x b : Nat}, b < 2 ^ 31 → a ≤ x → x ≤ b → nI a ≤ nI x ∧ nI x ≤ nI b := fun hb h h' => ⟨(nI_leI (by omega) (by omega)).mpr h, (nI_leI (by omega) (by omega)).mpr h'⟩
  have hrng := And.intro (rg (by decide) h1.1 h1.2) (And.intro (rg (by decide) h2.1 h2.2) (And.intro (rg (b := 12) (by decide) (Nat.zero_le a3) h3) (And.intro (rg (b := 1000) (by decide) (Nat.zero_le a4) (by omega)) (And.intro (rg (b := 20000) (by decide) (Nat.zero_le a5) h5) (And.intro (rg (by decide) h6.1 h6.2) (rg (b := 10000) (by decide) (Nat.zero_le a7) h7))))))
  have perm : ∀ U V Y X : va_W, ((U ++ V) ++ (Y ++ X)).Perm ((U ++ X) ++ (V ++ Y)) := fun U V Y X => by
    simp only [List.append_assoc]
    refine List.Perm.append_left U ?_
    have z := List.perm_append_comm (l₁ := V ++ Y) (l₂ := X)
    rw [List.append_assoc] at z
    exact z
  refine zWi.frame (wx := [(co, .inl (g.2.1, 6, .inl cs')), (mo, .inl (g.2.1, 6, .inl ms'))] ++ zLs g cnt aa rr ff zz qq) ?_ (zXi.to (c_add l hst g ua ar cnt rows (nI a1) (nI a2) (nI a3) (nI a4) (nI a5) (nI a6) (nI a7) i1) (fun E hE => hE.elim (fun x => x.2 hrng) (fun x => x.2.2 hc))) ?_
  · exact List.Perm.refl _
  · rintro r w1 ⟨-, -, er, h, pa, da, q', ew, hcr⟩
    rw [n1, n2, n3, n4, n5, n6, n7] at ew
    rw [n1, n2, n3, n4, n5, n7] at hcr
    have u1 : ∀ {α : Type} (f : Nat → α) (x : α) (k : Nat), k < cnt → va_up f cnt x k = f k := fun f x k hk => va_up_ne _ _ (by omega)
    refine ⟨zPw g ua ar co mo (cnt + 1) (va_up rows cnt (some h)) cs' ms' (va_up aa cnt (h, pa, da)) (va_up rr cnt a5) (va_up ff cnt a6) (va_up zz cnt (zNew a1 a2 a3 a4 a5 a7)) (va_up qq cnt q'), ?_, er, _, _, _, _, _, _, rfl, by omega, i2, fun k hk => ?_, fun k hk hk6 => ?_, fun k hk => ?_, fun k hk => ?_, fun k hk => ?_, fun k hk => ?_⟩
    · have e1 : zLs g cnt (va_up aa cnt (h, pa, da)) (va_up rr cnt a5) (va_up ff cnt a6) (va_up zz cnt (zNew a1 a2 a3 a4 a5 a7)) (va_up qq cnt q') = zLs g cnt aa rr ff zz qq := z_flat fun k hk => by
        have hk := List.mem_range.mp hk
        rw [u1 _ _ k hk, u1 _ _ k hk, u1 _ _ k hk, u1 _ _ k hk, u1 _ _ k hk]
      rw [ew]
      show (_ ++ zLs g (cnt + 1) _ _ _ _ _).Perm _
      rw [zLs_s, e1, va_up_self, va_up_self, va_up_self, va_up_self, va_up_self]
      exact perm [(ua, .inr (1, [.ref ar, .int (nI (cnt + 1))])), (ar, .inl (g.2.2.1, 6, .inr (.inr (.inr (.inr (va_up rows cnt (some h)))))))] [(co, .inl (g.2.1, 6, .inl cs')), (mo, .inl (g.2.1, 6, .inl ms'))] _ _
    · by_cases hkc : k = cnt
      · subst hkc; rw [va_up_self, va_up_self]
      · rw [va_up_ne _ _ hkc, va_up_ne _ _ hkc]; exact i3 k (by omega)
    · rw [va_up_ne _ _ (by omega)]; exact i4 k (by omega) hk6
    · by_cases hkc : k = cnt
      · subst hkc; rw [va_up_self, va_up_self, va_up_self]; exact zInv_new h1.2 h2.2 (by omega) h5 h6.2 h7
      · rw [va_up_ne _ _ hkc, va_up_ne _ _ hkc, va_up_ne _ _ hkc]; exact i5 k (by omega)
    · by_cases hkc : k = cnt
      · subst hkc; rw [va_up_self, va_up_self, va_up_self]; exact hcr
      · rw [va_up_ne _ _ hkc, va_up_ne _ _ hkc, va_up_ne _ _ hkc]; exact i6 k (by omega)
    · by_cases hkc : k = cnt
      · subst hkc; rw [va_up_self, va_up_self, hcs]; exact zLk_up (Nat.zero_le rv) (zLk_new h1.1 h1.2 h2.2 h4)
      · rw [va_up_ne _ _ hkc, va_up_ne _ _ hkc, hcs2 k (by omega)]; exact i7 k (by omega)
    · by_cases hkc : k = cnt
      · subst hkc; rw [va_up_self, hms]; rfl
      · rw [va_up_ne _ _ hkc, hms2 k (by omega)]; exact i8 k (by omega)
